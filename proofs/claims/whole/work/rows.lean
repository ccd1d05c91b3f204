section
-- ===== PART A: goes FIRST, ahead of the names: the tables' words, and 'selects' of the private methods out of them =====
/-- a private method of a class that the tables say can be made, by its rows of tables_1 -/
def lw_okq (q : MethodName × Nat) : Prop := (q.1.cls ≠ "java/lang/invoke/MethodHandle" ∧ q.1.cls ≠ "java/lang/invoke/VarHandle") ∧ Cond.instantiable q.1.cls q.2 ∈ tables_1 ∧ Cond.privateMethod q.1 ∈ tables_1 ∧ Cond.instanceMethod q.1 ∈ tables_1
theorem lw_p0 : lw_okq (⟨"MeshParents", "offerError", "(II)I"⟩, 8) := ⟨⟨by decide +kernel, by decide +kernel⟩, List.mem_of_getElem? (i := 12) (by decide +kernel), List.mem_of_getElem? (i := 421) (by decide +kernel), List.mem_of_getElem? (i := 422) (by decide +kernel)⟩
theorem lw_p1 : lw_okq (⟨"MeshParents", "happens", "(I)Z"⟩, 8) := ⟨⟨by decide +kernel, by decide +kernel⟩, List.mem_of_getElem? (i := 12) (by decide +kernel), List.mem_of_getElem? (i := 571) (by decide +kernel), List.mem_of_getElem? (i := 572) (by decide +kernel)⟩
theorem lw_p2 : lw_okq (⟨"MeshParents", "flipInTrial", "(I)Z"⟩, 8) := ⟨⟨by decide +kernel, by decide +kernel⟩, List.mem_of_getElem? (i := 12) (by decide +kernel), List.mem_of_getElem? (i := 575) (by decide +kernel), List.mem_of_getElem? (i := 576) (by decide +kernel)⟩
theorem lw_p3 : lw_okq (⟨"MeshParents", "setOffsetInTrial", "(II)Z"⟩, 8) := ⟨⟨by decide +kernel, by decide +kernel⟩, List.mem_of_getElem? (i := 12) (by decide +kernel), List.mem_of_getElem? (i := 579) (by decide +kernel), List.mem_of_getElem? (i := 580) (by decide +kernel)⟩
theorem lw_p4 : lw_okq (⟨"MeshParents", "explainsAll", "(I)Z"⟩, 8) := ⟨⟨by decide +kernel, by decide +kernel⟩, List.mem_of_getElem? (i := 12) (by decide +kernel), List.mem_of_getElem? (i := 601) (by decide +kernel), List.mem_of_getElem? (i := 602) (by decide +kernel)⟩
theorem lw_p5 : lw_okq (⟨"MeshParents", "worth", "(I)I"⟩, 8) := ⟨⟨by decide +kernel, by decide +kernel⟩, List.mem_of_getElem? (i := 12) (by decide +kernel), List.mem_of_getElem? (i := 615) (by decide +kernel), List.mem_of_getElem? (i := 616) (by decide +kernel)⟩
theorem lw_p6 : lw_okq (⟨"MeshParents", "reachesAllWithout", "(I)Z"⟩, 8) := ⟨⟨by decide +kernel, by decide +kernel⟩, List.mem_of_getElem? (i := 12) (by decide +kernel), List.mem_of_getElem? (i := 636) (by decide +kernel), List.mem_of_getElem? (i := 637) (by decide +kernel)⟩
theorem lw_p7 : lw_okq (⟨"MeshParentsModel", "fresh", "()V"⟩, 40) := ⟨⟨by decide +kernel, by decide +kernel⟩, List.mem_of_getElem? (i := 658) (by decide +kernel), List.mem_of_getElem? (i := 664) (by decide +kernel), List.mem_of_getElem? (i := 665) (by decide +kernel)⟩
theorem lw_p8 : lw_okq (⟨"MeshParentsModel", "readText", "()I"⟩, 40) := ⟨⟨by decide +kernel, by decide +kernel⟩, List.mem_of_getElem? (i := 658) (by decide +kernel), List.mem_of_getElem? (i := 805) (by decide +kernel), List.mem_of_getElem? (i := 806) (by decide +kernel)⟩
theorem lw_p9 : lw_okq (⟨"MeshParentsModel", "take", "(I)Z"⟩, 40) := ⟨⟨by decide +kernel, by decide +kernel⟩, List.mem_of_getElem? (i := 658) (by decide +kernel), List.mem_of_getElem? (i := 809) (by decide +kernel), List.mem_of_getElem? (i := 810) (by decide +kernel)⟩
theorem lw_p10 : lw_okq (⟨"MeshParentsModel", "takeSign", "(I)Z"⟩, 40) := ⟨⟨by decide +kernel, by decide +kernel⟩, List.mem_of_getElem? (i := 658) (by decide +kernel), List.mem_of_getElem? (i := 813) (by decide +kernel), List.mem_of_getElem? (i := 814) (by decide +kernel)⟩
theorem lw_p11 : lw_okq (⟨"MeshParentsModel", "mayLink", "()Z"⟩, 40) := ⟨⟨by decide +kernel, by decide +kernel⟩, List.mem_of_getElem? (i := 658) (by decide +kernel), List.mem_of_getElem? (i := 817) (by decide +kernel), List.mem_of_getElem? (i := 818) (by decide +kernel)⟩
theorem lw_p12 : lw_okq (⟨"MeshParentsModel", "isFullAsRead", "(I)Z"⟩, 40) := ⟨⟨by decide +kernel, by decide +kernel⟩, List.mem_of_getElem? (i := 658) (by decide +kernel), List.mem_of_getElem? (i := 821) (by decide +kernel), List.mem_of_getElem? (i := 822) (by decide +kernel)⟩
theorem lw_p13 : lw_okq (⟨"MeshParentsModel", "areLinkedAsRead", "(II)Z"⟩, 40) := ⟨⟨by decide +kernel, by decide +kernel⟩, List.mem_of_getElem? (i := 658) (by decide +kernel), List.mem_of_getElem? (i := 825) (by decide +kernel), List.mem_of_getElem? (i := 826) (by decide +kernel)⟩
theorem lw_p14 : lw_okq (⟨"MeshParentsModel", "takeOfGateway", "(I)Z"⟩, 40) := ⟨⟨by decide +kernel, by decide +kernel⟩, List.mem_of_getElem? (i := 658) (by decide +kernel), List.mem_of_getElem? (i := 830) (by decide +kernel), List.mem_of_getElem? (i := 831) (by decide +kernel)⟩
theorem lw_p15 : lw_okq (⟨"MeshParentsModel", "takeOfLeaf", "(I)Z"⟩, 40) := ⟨⟨by decide +kernel, by decide +kernel⟩, List.mem_of_getElem? (i := 658) (by decide +kernel), List.mem_of_getElem? (i := 834) (by decide +kernel), List.mem_of_getElem? (i := 835) (by decide +kernel)⟩
def lw_privs_1 : List (MethodName × Nat) := [(⟨"MeshParents", "offerError", "(II)I"⟩, 8), (⟨"MeshParents", "happens", "(I)Z"⟩, 8), (⟨"MeshParents", "flipInTrial", "(I)Z"⟩, 8), (⟨"MeshParents", "setOffsetInTrial", "(II)Z"⟩, 8), (⟨"MeshParents", "explainsAll", "(I)Z"⟩, 8), (⟨"MeshParents", "worth", "(I)I"⟩, 8), (⟨"MeshParents", "reachesAllWithout", "(I)Z"⟩, 8), (⟨"MeshParentsModel", "fresh", "()V"⟩, 40), (⟨"MeshParentsModel", "readText", "()I"⟩, 40), (⟨"MeshParentsModel", "take", "(I)Z"⟩, 40), (⟨"MeshParentsModel", "takeSign", "(I)Z"⟩, 40), (⟨"MeshParentsModel", "mayLink", "()Z"⟩, 40), (⟨"MeshParentsModel", "isFullAsRead", "(I)Z"⟩, 40), (⟨"MeshParentsModel", "areLinkedAsRead", "(II)Z"⟩, 40), (⟨"MeshParentsModel", "takeOfGateway", "(I)Z"⟩, 40), (⟨"MeshParentsModel", "takeOfLeaf", "(I)Z"⟩, 40)]
theorem lw_r1 : ∀ q ∈ lw_privs_1, lw_okq q := List.forall_mem_cons.mpr ⟨lw_p0, List.forall_mem_cons.mpr ⟨lw_p1, List.forall_mem_cons.mpr ⟨lw_p2, List.forall_mem_cons.mpr ⟨lw_p3, List.forall_mem_cons.mpr ⟨lw_p4, List.forall_mem_cons.mpr ⟨lw_p5, List.forall_mem_cons.mpr ⟨lw_p6, List.forall_mem_cons.mpr ⟨lw_p7, List.forall_mem_cons.mpr ⟨lw_p8, List.forall_mem_cons.mpr ⟨lw_p9, List.forall_mem_cons.mpr ⟨lw_p10, List.forall_mem_cons.mpr ⟨lw_p11, List.forall_mem_cons.mpr ⟨lw_p12, List.forall_mem_cons.mpr ⟨lw_p13, List.forall_mem_cons.mpr ⟨lw_p14, List.forall_mem_cons.mpr ⟨lw_p15, fun _ h => absurd h List.not_mem_nil⟩⟩⟩⟩⟩⟩⟩⟩⟩⟩⟩⟩⟩⟩⟩⟩
theorem lw_p16 : lw_okq (⟨"MeshParentsModel", "takeOfLink", "(I)Z"⟩, 40) := ⟨⟨by decide +kernel, by decide +kernel⟩, List.mem_of_getElem? (i := 658) (by decide +kernel), List.mem_of_getElem? (i := 838) (by decide +kernel), List.mem_of_getElem? (i := 839) (by decide +kernel)⟩
theorem lw_p17 : lw_okq (⟨"MeshParentsModel", "those", "(I)I"⟩, 40) := ⟨⟨by decide +kernel, by decide +kernel⟩, List.mem_of_getElem? (i := 658) (by decide +kernel), List.mem_of_getElem? (i := 850) (by decide +kernel), List.mem_of_getElem? (i := 851) (by decide +kernel)⟩
theorem lw_p18 : lw_okq (⟨"MeshParentsModel", "reached", "([I)I"⟩, 40) := ⟨⟨by decide +kernel, by decide +kernel⟩, List.mem_of_getElem? (i := 658) (by decide +kernel), List.mem_of_getElem? (i := 854) (by decide +kernel), List.mem_of_getElem? (i := 855) (by decide +kernel)⟩
theorem lw_p19 : lw_okq (⟨"MeshParentsModel", "endOf", "([II)I"⟩, 40) := ⟨⟨by decide +kernel, by decide +kernel⟩, List.mem_of_getElem? (i := 658) (by decide +kernel), List.mem_of_getElem? (i := 858) (by decide +kernel), List.mem_of_getElem? (i := 859) (by decide +kernel)⟩
theorem lw_p20 : lw_okq (⟨"MeshParentsModel", "downs", "()I"⟩, 40) := ⟨⟨by decide +kernel, by decide +kernel⟩, List.mem_of_getElem? (i := 658) (by decide +kernel), List.mem_of_getElem? (i := 865) (by decide +kernel), List.mem_of_getElem? (i := 866) (by decide +kernel)⟩
theorem lw_p21 : lw_okq (⟨"MeshParentsModel", "isNode", "(I)Z"⟩, 40) := ⟨⟨by decide +kernel, by decide +kernel⟩, List.mem_of_getElem? (i := 658) (by decide +kernel), List.mem_of_getElem? (i := 873) (by decide +kernel), List.mem_of_getElem? (i := 874) (by decide +kernel)⟩
theorem lw_p22 : lw_okq (⟨"MeshParentsModel", "tell", "([III)I"⟩, 40) := ⟨⟨by decide +kernel, by decide +kernel⟩, List.mem_of_getElem? (i := 658) (by decide +kernel), List.mem_of_getElem? (i := 877) (by decide +kernel), List.mem_of_getElem? (i := 878) (by decide +kernel)⟩
theorem lw_p23 : lw_okq (⟨"MeshParentsModel", "loadOf", "([II)I"⟩, 40) := ⟨⟨by decide +kernel, by decide +kernel⟩, List.mem_of_getElem? (i := 658) (by decide +kernel), List.mem_of_getElem? (i := 881) (by decide +kernel), List.mem_of_getElem? (i := 882) (by decide +kernel)⟩
theorem lw_p24 : lw_okq (⟨"MeshParentsModel", "isLink", "(I)Z"⟩, 40) := ⟨⟨by decide +kernel, by decide +kernel⟩, List.mem_of_getElem? (i := 658) (by decide +kernel), List.mem_of_getElem? (i := 889) (by decide +kernel), List.mem_of_getElem? (i := 890) (by decide +kernel)⟩
theorem lw_p25 : lw_okq (⟨"MeshParentsModel", "airtime", "([II)I"⟩, 40) := ⟨⟨by decide +kernel, by decide +kernel⟩, List.mem_of_getElem? (i := 658) (by decide +kernel), List.mem_of_getElem? (i := 893) (by decide +kernel), List.mem_of_getElem? (i := 894) (by decide +kernel)⟩
theorem lw_p26 : lw_okq (⟨"MeshParentsModel", "noTwo", "(II)I"⟩, 40) := ⟨⟨by decide +kernel, by decide +kernel⟩, List.mem_of_getElem? (i := 658) (by decide +kernel), List.mem_of_getElem? (i := 901) (by decide +kernel), List.mem_of_getElem? (i := 902) (by decide +kernel)⟩
theorem lw_p27 : lw_okq (⟨"MeshParentsModel", "priceOf", "([III)I"⟩, 40) := ⟨⟨by decide +kernel, by decide +kernel⟩, List.mem_of_getElem? (i := 658) (by decide +kernel), List.mem_of_getElem? (i := 905) (by decide +kernel), List.mem_of_getElem? (i := 906) (by decide +kernel)⟩
theorem lw_p28 : lw_okq (⟨"MeshParentsModel", "linkOf", "([III)I"⟩, 40) := ⟨⟨by decide +kernel, by decide +kernel⟩, List.mem_of_getElem? (i := 658) (by decide +kernel), List.mem_of_getElem? (i := 909) (by decide +kernel), List.mem_of_getElem? (i := 910) (by decide +kernel)⟩
theorem lw_p29 : lw_okq (⟨"MeshParentsModel", "offers", "([II)Z"⟩, 40) := ⟨⟨by decide +kernel, by decide +kernel⟩, List.mem_of_getElem? (i := 658) (by decide +kernel), List.mem_of_getElem? (i := 913) (by decide +kernel), List.mem_of_getElem? (i := 914) (by decide +kernel)⟩
theorem lw_p30 : lw_okq (⟨"MeshParentsModel", "offered", "([II)I"⟩, 40) := ⟨⟨by decide +kernel, by decide +kernel⟩, List.mem_of_getElem? (i := 658) (by decide +kernel), List.mem_of_getElem? (i := 917) (by decide +kernel), List.mem_of_getElem? (i := 918) (by decide +kernel)⟩
theorem lw_p31 : lw_okq (⟨"MeshParentsModel", "isSafe", "([III)Z"⟩, 40) := ⟨⟨by decide +kernel, by decide +kernel⟩, List.mem_of_getElem? (i := 658) (by decide +kernel), List.mem_of_getElem? (i := 925) (by decide +kernel), List.mem_of_getElem? (i := 926) (by decide +kernel)⟩
def lw_privs_2 : List (MethodName × Nat) := [(⟨"MeshParentsModel", "takeOfLink", "(I)Z"⟩, 40), (⟨"MeshParentsModel", "those", "(I)I"⟩, 40), (⟨"MeshParentsModel", "reached", "([I)I"⟩, 40), (⟨"MeshParentsModel", "endOf", "([II)I"⟩, 40), (⟨"MeshParentsModel", "downs", "()I"⟩, 40), (⟨"MeshParentsModel", "isNode", "(I)Z"⟩, 40), (⟨"MeshParentsModel", "tell", "([III)I"⟩, 40), (⟨"MeshParentsModel", "loadOf", "([II)I"⟩, 40), (⟨"MeshParentsModel", "isLink", "(I)Z"⟩, 40), (⟨"MeshParentsModel", "airtime", "([II)I"⟩, 40), (⟨"MeshParentsModel", "noTwo", "(II)I"⟩, 40), (⟨"MeshParentsModel", "priceOf", "([III)I"⟩, 40), (⟨"MeshParentsModel", "linkOf", "([III)I"⟩, 40), (⟨"MeshParentsModel", "offers", "([II)Z"⟩, 40), (⟨"MeshParentsModel", "offered", "([II)I"⟩, 40), (⟨"MeshParentsModel", "isSafe", "([III)Z"⟩, 40)]
theorem lw_r2 : ∀ q ∈ lw_privs_2, lw_okq q := List.forall_mem_cons.mpr ⟨lw_p16, List.forall_mem_cons.mpr ⟨lw_p17, List.forall_mem_cons.mpr ⟨lw_p18, List.forall_mem_cons.mpr ⟨lw_p19, List.forall_mem_cons.mpr ⟨lw_p20, List.forall_mem_cons.mpr ⟨lw_p21, List.forall_mem_cons.mpr ⟨lw_p22, List.forall_mem_cons.mpr ⟨lw_p23, List.forall_mem_cons.mpr ⟨lw_p24, List.forall_mem_cons.mpr ⟨lw_p25, List.forall_mem_cons.mpr ⟨lw_p26, List.forall_mem_cons.mpr ⟨lw_p27, List.forall_mem_cons.mpr ⟨lw_p28, List.forall_mem_cons.mpr ⟨lw_p29, List.forall_mem_cons.mpr ⟨lw_p30, List.forall_mem_cons.mpr ⟨lw_p31, fun _ h => absurd h List.not_mem_nil⟩⟩⟩⟩⟩⟩⟩⟩⟩⟩⟩⟩⟩⟩⟩⟩
theorem lw_p32 : lw_okq (⟨"MeshParentsModel", "sequenceOf", "([II)I"⟩, 40) := ⟨⟨by decide +kernel, by decide +kernel⟩, List.mem_of_getElem? (i := 658) (by decide +kernel), List.mem_of_getElem? (i := 929) (by decide +kernel), List.mem_of_getElem? (i := 930) (by decide +kernel)⟩
theorem lw_p33 : lw_okq (⟨"MeshParentsModel", "note", "()V"⟩, 40) := ⟨⟨by decide +kernel, by decide +kernel⟩, List.mem_of_getElem? (i := 658) (by decide +kernel), List.mem_of_getElem? (i := 938) (by decide +kernel), List.mem_of_getElem? (i := 939) (by decide +kernel)⟩
theorem lw_p34 : lw_okq (⟨"MeshParentsModel", "goOn", "([I)V"⟩, 40) := ⟨⟨by decide +kernel, by decide +kernel⟩, List.mem_of_getElem? (i := 658) (by decide +kernel), List.mem_of_getElem? (i := 942) (by decide +kernel), List.mem_of_getElem? (i := 943) (by decide +kernel)⟩
theorem lw_p35 : lw_okq (⟨"MeshParentsModel", "isAwake", "(II)Z"⟩, 40) := ⟨⟨by decide +kernel, by decide +kernel⟩, List.mem_of_getElem? (i := 658) (by decide +kernel), List.mem_of_getElem? (i := 949) (by decide +kernel), List.mem_of_getElem? (i := 950) (by decide +kernel)⟩
theorem lw_p36 : lw_okq (⟨"MeshParentsModel", "hears", "([II)Z"⟩, 40) := ⟨⟨by decide +kernel, by decide +kernel⟩, List.mem_of_getElem? (i := 658) (by decide +kernel), List.mem_of_getElem? (i := 953) (by decide +kernel), List.mem_of_getElem? (i := 954) (by decide +kernel)⟩
theorem lw_p37 : lw_okq (⟨"MeshParentsModel", "isGood", "([III)Z"⟩, 40) := ⟨⟨by decide +kernel, by decide +kernel⟩, List.mem_of_getElem? (i := 658) (by decide +kernel), List.mem_of_getElem? (i := 957) (by decide +kernel), List.mem_of_getElem? (i := 958) (by decide +kernel)⟩
theorem lw_p38 : lw_okq (⟨"MeshParentsModel", "isGateway", "(I)Z"⟩, 40) := ⟨⟨by decide +kernel, by decide +kernel⟩, List.mem_of_getElem? (i := 658) (by decide +kernel), List.mem_of_getElem? (i := 976) (by decide +kernel), List.mem_of_getElem? (i := 977) (by decide +kernel)⟩
theorem lw_p39 : lw_okq (⟨"MeshParentsModel", "tryRounds", "(I)V"⟩, 40) := ⟨⟨by decide +kernel, by decide +kernel⟩, List.mem_of_getElem? (i := 658) (by decide +kernel), List.mem_of_getElem? (i := 993) (by decide +kernel), List.mem_of_getElem? (i := 994) (by decide +kernel)⟩
theorem lw_p40 : lw_okq (⟨"MeshParentsModel", "spread", "()I"⟩, 40) := ⟨⟨by decide +kernel, by decide +kernel⟩, List.mem_of_getElem? (i := 658) (by decide +kernel), List.mem_of_getElem? (i := 1009) (by decide +kernel), List.mem_of_getElem? (i := 1010) (by decide +kernel)⟩
theorem lw_p41 : lw_okq (⟨"MeshParentsModel", "judged", "(IIIII)Z"⟩, 40) := ⟨⟨by decide +kernel, by decide +kernel⟩, List.mem_of_getElem? (i := 658) (by decide +kernel), List.mem_of_getElem? (i := 1021) (by decide +kernel), List.mem_of_getElem? (i := 1022) (by decide +kernel)⟩
theorem lw_p42 : lw_okq (⟨"MeshParentsModel", "isSoBy", "(II)Z"⟩, 40) := ⟨⟨by decide +kernel, by decide +kernel⟩, List.mem_of_getElem? (i := 658) (by decide +kernel), List.mem_of_getElem? (i := 1038) (by decide +kernel), List.mem_of_getElem? (i := 1039) (by decide +kernel)⟩
theorem lw_p43 : lw_okq (⟨"MeshParentsModel", "reachedBy", "(I)I"⟩, 40) := ⟨⟨by decide +kernel, by decide +kernel⟩, List.mem_of_getElem? (i := 658) (by decide +kernel), List.mem_of_getElem? (i := 1046) (by decide +kernel), List.mem_of_getElem? (i := 1047) (by decide +kernel)⟩
def lw_privs_3 : List (MethodName × Nat) := [(⟨"MeshParentsModel", "sequenceOf", "([II)I"⟩, 40), (⟨"MeshParentsModel", "note", "()V"⟩, 40), (⟨"MeshParentsModel", "goOn", "([I)V"⟩, 40), (⟨"MeshParentsModel", "isAwake", "(II)Z"⟩, 40), (⟨"MeshParentsModel", "hears", "([II)Z"⟩, 40), (⟨"MeshParentsModel", "isGood", "([III)Z"⟩, 40), (⟨"MeshParentsModel", "isGateway", "(I)Z"⟩, 40), (⟨"MeshParentsModel", "tryRounds", "(I)V"⟩, 40), (⟨"MeshParentsModel", "spread", "()I"⟩, 40), (⟨"MeshParentsModel", "judged", "(IIIII)Z"⟩, 40), (⟨"MeshParentsModel", "isSoBy", "(II)Z"⟩, 40), (⟨"MeshParentsModel", "reachedBy", "(I)I"⟩, 40)]
theorem lw_r3 : ∀ q ∈ lw_privs_3, lw_okq q := List.forall_mem_cons.mpr ⟨lw_p32, List.forall_mem_cons.mpr ⟨lw_p33, List.forall_mem_cons.mpr ⟨lw_p34, List.forall_mem_cons.mpr ⟨lw_p35, List.forall_mem_cons.mpr ⟨lw_p36, List.forall_mem_cons.mpr ⟨lw_p37, List.forall_mem_cons.mpr ⟨lw_p38, List.forall_mem_cons.mpr ⟨lw_p39, List.forall_mem_cons.mpr ⟨lw_p40, List.forall_mem_cons.mpr ⟨lw_p41, List.forall_mem_cons.mpr ⟨lw_p42, List.forall_mem_cons.mpr ⟨lw_p43, fun _ h => absurd h List.not_mem_nil⟩⟩⟩⟩⟩⟩⟩⟩⟩⟩⟩⟩
def lw_privs : List (MethodName × Nat) := lw_privs_1 ++ (lw_privs_2 ++ (lw_privs_3))
def lw_tbl : List Cond := k2_sels lw_privs ++ tables_1
theorem lw_privs_ok : ∀ q ∈ lw_privs, lw_okq q := by
  show ∀ q ∈ lw_privs_1 ++ (lw_privs_2 ++ (lw_privs_3)), lw_okq q
  exact List.forall_mem_append.mpr ⟨lw_r1, List.forall_mem_append.mpr ⟨lw_r2, lw_r3⟩⟩
/-! tables of the classes and methods (written by wip/whole/gen01.py) -/
def z_T0 : u_T := fun k => match k with
  | 0 => ("MeshParents$History", "rows", "[LMeshParents$Mesh;", true)
  | 1 => ("MeshParents$History", "oldest", "I", false)
  | _ => ("MeshParents$History", "count", "I", false)
def z_y0 : Nat → FieldType := fun k => match k with
  | 0 => .array (.object "MeshParents$Mesh")
  | 1 => .int
  | _ => .int
def z_T1 : u_T := fun k => match k with
  | 0 => ("MeshParents$Link", "first", "I", false)
  | 1 => ("MeshParents$Link", "second", "I", false)
  | 2 => ("MeshParents$Link", "loss", "I", false)
  | 3 => ("MeshParents$Link", "lossBack", "I", false)
  | 4 => ("MeshParents$Link", "slots", "I", false)
  | 5 => ("MeshParents$Link", "airtime", "I", false)
  | _ => ("MeshParents$Link", "isDown", "Z", false)
def z_y1 : Nat → FieldType := fun k => match k with
  | 0 => .int
  | 1 => .int
  | 2 => .int
  | 3 => .int
  | 4 => .int
  | 5 => .int
  | _ => .boolean
def z_T2 : u_T := fun k => match k with
  | 0 => ("MeshParents$Mesh", "nodes", "[LMeshParents$Node;", true)
  | 1 => ("MeshParents$Mesh", "links", "[LMeshParents$Link;", true)
  | 2 => ("MeshParents$Mesh", "nodeCount", "I", false)
  | 3 => ("MeshParents$Mesh", "linkCount", "I", false)
  | 4 => ("MeshParents$Mesh", "margin", "I", false)
  | 5 => ("MeshParents$Mesh", "sequence", "I", false)
  | _ => ("MeshParents$Mesh", "rounds", "I", false)
def z_y2 : Nat → FieldType := fun k => match k with
  | 0 => .array (.object "MeshParents$Node")
  | 1 => .array (.object "MeshParents$Link")
  | 2 => .int
  | 3 => .int
  | 4 => .int
  | 5 => .int
  | _ => .int
def z_T3 : u_T := fun k => match k with
  | 0 => ("MeshParents$Node", "kind", "I", false)
  | 1 => ("MeshParents$Node", "offset", "I", false)
  | 2 => ("MeshParents$Node", "cycle", "I", false)
  | 3 => ("MeshParents$Node", "phase", "I", false)
  | 4 => ("MeshParents$Node", "parent", "I", false)
  | 5 => ("MeshParents$Node", "cost", "I", false)
  | 6 => ("MeshParents$Node", "sequence", "I", false)
  | 7 => ("MeshParents$Node", "boundSequence", "I", false)
  | 8 => ("MeshParents$Node", "boundCost", "I", false)
  | 9 => ("MeshParents$Node", "offers", "Z", false)
  | 10 => ("MeshParents$Node", "offerSequence", "I", false)
  | 11 => ("MeshParents$Node", "offerCost", "I", false)
  | 12 => ("MeshParents$Node", "heardOffer", "Z", false)
  | 13 => ("MeshParents$Node", "goodParent", "LMeshParents$Node;", false)
  | 14 => ("MeshParents$Node", "parentPrice", "I", false)
  | 15 => ("MeshParents$Node", "best", "LMeshParents$Node;", false)
  | 16 => ("MeshParents$Node", "bestNumber", "I", false)
  | _ => ("MeshParents$Node", "bestPrice", "I", false)
def z_y3 : Nat → FieldType := fun k => match k with
  | 0 => .int
  | 1 => .int
  | 2 => .int
  | 3 => .int
  | 4 => .int
  | 5 => .int
  | 6 => .int
  | 7 => .int
  | 8 => .int
  | 9 => .boolean
  | 10 => .int
  | 11 => .int
  | 12 => .boolean
  | 13 => .object "MeshParents$Node"
  | 14 => .int
  | 15 => .object "MeshParents$Node"
  | 16 => .int
  | _ => .int
def z_T4 : u_T := fun k => match k with
  | 0 => ("MeshParents$Observations", "node", "[I", true)
  | 1 => ("MeshParents$Observations", "after", "[I", true)
  | 2 => ("MeshParents$Observations", "isReached", "[Z", true)
  | _ => ("MeshParents$Observations", "count", "I", false)
def z_y4 : Nat → FieldType := fun k => match k with
  | 0 => .array .int
  | 1 => .array .int
  | 2 => .array .boolean
  | _ => .int
def z_T5 : u_T := fun k => match k with
  | 0 => ("MeshParents$Text", "letters", "[I", true)
  | 1 => ("MeshParents$Text", "length", "I", false)
  | _ => ("MeshParents$Text", "place", "I", false)
def z_y5 : Nat → FieldType := fun k => match k with
  | 0 => .array .int
  | 1 => .int
  | _ => .int
def z_T6 : u_T := fun k => match k with
  | 0 => ("MeshParents", "text", "LMeshParents$Text;", true)
  | 1 => ("MeshParents", "now", "LMeshParents$Mesh;", true)
  | 2 => ("MeshParents", "trial", "LMeshParents$Mesh;", true)
  | 3 => ("MeshParents", "history", "LMeshParents$History;", true)
  | 4 => ("MeshParents", "saved", "[LMeshParents$Mesh;", true)
  | 5 => ("MeshParents", "isSaved", "[Z", true)
  | 6 => ("MeshParents", "observations", "LMeshParents$Observations;", true)
  | _ => ("MeshParents", "random", "J", false)
def z_y6 : Nat → FieldType := fun k => match k with
  | 0 => .object "MeshParents$Text"
  | 1 => .object "MeshParents$Mesh"
  | 2 => .object "MeshParents$Mesh"
  | 3 => .object "MeshParents$History"
  | 4 => .array (.object "MeshParents$Mesh")
  | 5 => .array .boolean
  | 6 => .object "MeshParents$Observations"
  | _ => .long
def z_T7 : u_T := fun k => match k with
  | 0 => ("MeshParentsModel", "text", "[I", true)
  | 1 => ("MeshParentsModel", "length", "I", false)
  | 2 => ("MeshParentsModel", "nodes", "I", false)
  | 3 => ("MeshParentsModel", "sort", "[I", true)
  | 4 => ("MeshParentsModel", "cycle", "[I", true)
  | 5 => ("MeshParentsModel", "phase", "[I", true)
  | 6 => ("MeshParentsModel", "links", "I", false)
  | 7 => ("MeshParentsModel", "one", "[I", true)
  | 8 => ("MeshParentsModel", "other", "[I", true)
  | 9 => ("MeshParentsModel", "slots", "[I", true)
  | 10 => ("MeshParentsModel", "now", "[I", true)
  | 11 => ("MeshParentsModel", "trial", "[I", true)
  | 12 => ("MeshParentsModel", "ahead", "[I", true)
  | 13 => ("MeshParentsModel", "diary", "[I", true)
  | 14 => ("MeshParentsModel", "acts", "I", false)
  | 15 => ("MeshParentsModel", "next", "I", false)
  | 16 => ("MeshParentsModel", "kept", "[I", true)
  | 17 => ("MeshParentsModel", "isKept", "[Z", true)
  | 18 => ("MeshParentsModel", "seenNode", "[I", true)
  | 19 => ("MeshParentsModel", "seenRounds", "[I", true)
  | 20 => ("MeshParentsModel", "seenIs", "[I", true)
  | 21 => ("MeshParentsModel", "seen", "I", false)
  | 22 => ("MeshParentsModel", "seed", "J", false)
  | 23 => ("MeshParentsModel", "come", "I", false)
  | 24 => ("MeshParentsModel", "parents", "[I", true)
  | 25 => ("MeshParentsModel", "worth", "[I", true)
  | 26 => ("MeshParentsModel", "readNodes", "I", false)
  | 27 => ("MeshParentsModel", "readSort", "[I", true)
  | 28 => ("MeshParentsModel", "readCycle", "[I", true)
  | 29 => ("MeshParentsModel", "readPhase", "[I", true)
  | 30 => ("MeshParentsModel", "readOffset", "[I", true)
  | 31 => ("MeshParentsModel", "readLinks", "I", false)
  | 32 => ("MeshParentsModel", "readOne", "[I", true)
  | 33 => ("MeshParentsModel", "readOther", "[I", true)
  | 34 => ("MeshParentsModel", "readLoss", "[I", true)
  | 35 => ("MeshParentsModel", "readBack", "[I", true)
  | 36 => ("MeshParentsModel", "readSlots", "[I", true)
  | 37 => ("MeshParentsModel", "readMargin", "I", false)
  | 38 => ("MeshParentsModel", "part", "I", false)
  | _ => ("MeshParentsModel", "place", "I", false)
def z_y7 : Nat → FieldType := fun k => match k with
  | 0 => .array .int
  | 1 => .int
  | 2 => .int
  | 3 => .array .int
  | 4 => .array .int
  | 5 => .array .int
  | 6 => .int
  | 7 => .array .int
  | 8 => .array .int
  | 9 => .array .int
  | 10 => .array .int
  | 11 => .array .int
  | 12 => .array .int
  | 13 => .array .int
  | 14 => .int
  | 15 => .int
  | 16 => .array .int
  | 17 => .array .boolean
  | 18 => .array .int
  | 19 => .array .int
  | 20 => .array .int
  | 21 => .int
  | 22 => .long
  | 23 => .int
  | 24 => .array .int
  | 25 => .array .int
  | 26 => .int
  | 27 => .array .int
  | 28 => .array .int
  | 29 => .array .int
  | 30 => .array .int
  | 31 => .int
  | 32 => .array .int
  | 33 => .array .int
  | 34 => .array .int
  | 35 => .array .int
  | 36 => .array .int
  | 37 => .int
  | 38 => .int
  | _ => .int
def z_cls : List vw_C := [("MeshParents$History", z_T0, 3), ("MeshParents$Link", z_T1, 7), ("MeshParents$Mesh", z_T2, 7), ("MeshParents$Node", z_T3, 18), ("MeshParents$Observations", z_T4, 4), ("MeshParents$Text", z_T5, 3), ("MeshParents", z_T6, 8), ("MeshParentsModel", z_T7, 40)]
def z_tys : List (Nat → FieldType) := [z_y0, z_y1, z_y2, z_y3, z_y4, z_y5, z_y6, z_y7]
def z_tb : List Cond := lw_tbl.filter goodWord
def z_at (i : Nat) (w : Cond) : Bool := decide (lw_tbl[i]? = some w) && goodWord w
theorem z_at_mem {i : Nat} {w : Cond} (h : z_at i w = true) : w ∈ z_tb := by
  simp only [z_at, Bool.and_eq_true, decide_eq_true_eq] at h
  exact List.mem_filter.mpr ⟨List.mem_of_getElem? h.1, h.2⟩
def z_lays (k n : Nat) (T : u_T) (C : String) : List Nat → Bool
  | [] => k == n
  | i :: r => z_at i (u_lay C T k) && z_lays (k + 1) n T C r
theorem z_lays_mem {n : Nat} {T : u_T} {C : String} : ∀ (r : List Nat) (k : Nat), z_lays k n T C r = true → ∀ j, k ≤ j → j < n → u_lay C T j ∈ z_tb
  | [], k, h, j, h1, h2 => by simp [z_lays] at h; omega
  | i :: r, k, h, j, h1, h2 => by
    simp only [z_lays, Bool.and_eq_true] at h
    by_cases e : j = k
    · subst e; exact z_at_mem h.1
    · exact z_lays_mem r (k + 1) h.2 j (by omega) h2
theorem z_lays_in {n : Nat} {T : u_T} {C : String} (r : List Nat) (h : z_lays 0 n T C r = true) : ∀ w ∈ u_ws C T n, w ∈ z_tb := by
  intro w hw
  obtain ⟨j, hj, rfl⟩ := List.mem_map.mp hw
  exact z_lays_mem r 0 h j (Nat.zero_le _) (List.mem_range.mp hj)
theorem z_in0 : ∀ w ∈ u_ws "MeshParents$History" z_T0 3, w ∈ z_tb := z_lays_in [251, 253, 255] (by decide +kernel)
theorem z_nm0 : ∀ a, a < 3 → ∀ b, b < 3 → a ≠ b → (z_T0 a).2.1 ≠ (z_T0 b).2.1 := by decide +kernel
theorem z_ok0 : ∀ k, k < 3 → parseFieldDescriptor (z_T0 k).2.2.1 = some (z_y0 k) := by decide +kernel
theorem z_ini0 : Cond.initialized "MeshParents$History" ∈ z_tb ∧ Cond.instantiable "MeshParents$History" 3 ∈ z_tb := ⟨z_at_mem (i := 50) (by decide +kernel), z_at_mem (i := 239) (by decide +kernel)⟩
theorem z_in1 : ∀ w ∈ u_ws "MeshParents$Link" z_T1 7, w ∈ z_tb := z_lays_in [190, 192, 194, 196, 198, 200, 202] (by decide +kernel)
theorem z_nm1 : ∀ a, a < 7 → ∀ b, b < 7 → a ≠ b → (z_T1 a).2.1 ≠ (z_T1 b).2.1 := by decide +kernel
theorem z_ok1 : ∀ k, k < 7 → parseFieldDescriptor (z_T1 k).2.2.1 = some (z_y1 k) := by decide +kernel
theorem z_ini1 : Cond.initialized "MeshParents$Link" ∈ z_tb ∧ Cond.instantiable "MeshParents$Link" 7 ∈ z_tb := ⟨z_at_mem (i := 49) (by decide +kernel), z_at_mem (i := 167) (by decide +kernel)⟩
theorem z_in2 : ∀ w ∈ u_ws "MeshParents$Mesh" z_T2 7, w ∈ z_tb := z_lays_in [223, 225, 227, 229, 231, 233, 235] (by decide +kernel)
theorem z_nm2 : ∀ a, a < 7 → ∀ b, b < 7 → a ≠ b → (z_T2 a).2.1 ≠ (z_T2 b).2.1 := by decide +kernel
theorem z_ok2 : ∀ k, k < 7 → parseFieldDescriptor (z_T2 k).2.2.1 = some (z_y2 k) := by decide +kernel
theorem z_ini2 : Cond.initialized "MeshParents$Mesh" ∈ z_tb ∧ Cond.instantiable "MeshParents$Mesh" 7 ∈ z_tb := ⟨z_at_mem (i := 47) (by decide +kernel), z_at_mem (i := 82) (by decide +kernel)⟩
theorem z_in3 : ∀ w ∈ u_ws "MeshParents$Node" z_T3 18, w ∈ z_tb := z_lays_in [128, 130, 132, 134, 136, 138, 140, 142, 144, 146, 148, 150, 152, 154, 156, 158, 160, 162] (by decide +kernel)
theorem z_nm3 : ∀ a, a < 18 → ∀ b, b < 18 → a ≠ b → (z_T3 a).2.1 ≠ (z_T3 b).2.1 := by decide +kernel
theorem z_ok3 : ∀ k, k < 18 → parseFieldDescriptor (z_T3 k).2.2.1 = some (z_y3 k) := by decide +kernel
theorem z_ini3 : Cond.initialized "MeshParents$Node" ∈ z_tb ∧ Cond.instantiable "MeshParents$Node" 18 ∈ z_tb := ⟨z_at_mem (i := 48) (by decide +kernel), z_at_mem (i := 89) (by decide +kernel)⟩
theorem z_in4 : ∀ w ∈ u_ws "MeshParents$Observations" z_T4 4, w ∈ z_tb := z_lays_in [269, 271, 273, 275] (by decide +kernel)
theorem z_nm4 : ∀ a, a < 4 → ∀ b, b < 4 → a ≠ b → (z_T4 a).2.1 ≠ (z_T4 b).2.1 := by decide +kernel
theorem z_ok4 : ∀ k, k < 4 → parseFieldDescriptor (z_T4 k).2.2.1 = some (z_y4 k) := by decide +kernel
theorem z_ini4 : Cond.initialized "MeshParents$Observations" ∈ z_tb ∧ Cond.instantiable "MeshParents$Observations" 4 ∈ z_tb := ⟨z_at_mem (i := 51) (by decide +kernel), z_at_mem (i := 259) (by decide +kernel)⟩
theorem z_in5 : ∀ w ∈ u_ws "MeshParents$Text" z_T5 3, w ∈ z_tb := z_lays_in [73, 75, 77] (by decide +kernel)
theorem z_nm5 : ∀ a, a < 3 → ∀ b, b < 3 → a ≠ b → (z_T5 a).2.1 ≠ (z_T5 b).2.1 := by decide +kernel
theorem z_ok5 : ∀ k, k < 3 → parseFieldDescriptor (z_T5 k).2.2.1 = some (z_y5 k) := by decide +kernel
theorem z_ini5 : Cond.initialized "MeshParents$Text" ∈ z_tb ∧ Cond.instantiable "MeshParents$Text" 3 ∈ z_tb := ⟨z_at_mem (i := 46) (by decide +kernel), z_at_mem (i := 64) (by decide +kernel)⟩
theorem z_in6 : ∀ w ∈ u_ws "MeshParents" z_T6 8, w ∈ z_tb := z_lays_in [287, 289, 291, 293, 295, 297, 299, 301] (by decide +kernel)
theorem z_nm6 : ∀ a, a < 8 → ∀ b, b < 8 → a ≠ b → (z_T6 a).2.1 ≠ (z_T6 b).2.1 := by decide +kernel
theorem z_ok6 : ∀ k, k < 8 → parseFieldDescriptor (z_T6 k).2.2.1 = some (z_y6 k) := by decide +kernel
theorem z_ini6 : Cond.initialized "MeshParents" ∈ z_tb ∧ Cond.instantiable "MeshParents" 8 ∈ z_tb := ⟨z_at_mem (i := 45) (by decide +kernel), z_at_mem (i := 56) (by decide +kernel)⟩
theorem z_in7 : ∀ w ∈ u_ws "MeshParentsModel" z_T7 40, w ∈ z_tb := z_lays_in [751, 753, 755, 757, 759, 761, 763, 765, 767, 769, 771, 773, 775, 777, 779, 781, 783, 785, 787, 789, 791, 793, 795, 797, 799, 801, 803, 805, 807, 809, 811, 813, 815, 817, 819, 821, 823, 825, 827, 829] (by decide +kernel)
theorem z_nm7 : ∀ a, a < 40 → ∀ b, b < 40 → a ≠ b → (z_T7 a).2.1 ≠ (z_T7 b).2.1 := by decide +kernel
theorem z_ok7 : ∀ k, k < 40 → parseFieldDescriptor (z_T7 k).2.2.1 = some (z_y7 k) := by decide +kernel
theorem z_ini7 : Cond.initialized "MeshParentsModel" ∈ z_tb ∧ Cond.instantiable "MeshParentsModel" 40 ∈ z_tb := ⟨z_at_mem (i := 52) (by decide +kernel), z_at_mem (i := 702) (by decide +kernel)⟩
theorem z_clsok : ∀ (ci : Nat) (r : vw_C), z_cls[ci]? = some r → (∀ w ∈ u_ws r.1 r.2.1 r.2.2, w ∈ z_tb) ∧ (∀ a, a < r.2.2 → ∀ b, b < r.2.2 → a ≠ b → (r.2.1 a).2.1 ≠ (r.2.1 b).2.1) ∧ (∃ y, z_tys[ci]? = some y ∧ ∀ k, k < r.2.2 → parseFieldDescriptor (r.2.1 k).2.2.1 = some (y k)) ∧ Cond.initialized r.1 ∈ z_tb ∧ Cond.instantiable r.1 r.2.2 ∈ z_tb := by
  intro ci r h
  match ci, h with
  | 0, h => cases h; exact ⟨z_in0, z_nm0, ⟨_, rfl, z_ok0⟩, z_ini0⟩
  | 1, h => cases h; exact ⟨z_in1, z_nm1, ⟨_, rfl, z_ok1⟩, z_ini1⟩
  | 2, h => cases h; exact ⟨z_in2, z_nm2, ⟨_, rfl, z_ok2⟩, z_ini2⟩
  | 3, h => cases h; exact ⟨z_in3, z_nm3, ⟨_, rfl, z_ok3⟩, z_ini3⟩
  | 4, h => cases h; exact ⟨z_in4, z_nm4, ⟨_, rfl, z_ok4⟩, z_ini4⟩
  | 5, h => cases h; exact ⟨z_in5, z_nm5, ⟨_, rfl, z_ok5⟩, z_ini5⟩
  | 6, h => cases h; exact ⟨z_in6, z_nm6, ⟨_, rfl, z_ok6⟩, z_ini6⟩
  | 7, h => cases h; exact ⟨z_in7, z_nm7, ⟨_, rfl, z_ok7⟩, z_ini7⟩
  | n + 8, h => simp [z_cls] at h
abbrev ZT : Type := MethodName × ByteArray × Nat × Option FieldType × Room
def z_mt0 : List ZT := [(⟨"MeshParents$History", "<init>", "()V"⟩, prog_2_method_1_code, 2, none, ⟨3, 281, 3248, 61⟩),
  (⟨"MeshParents$History", "clear", "()V"⟩, prog_2_method_2_code, 1, none, ⟨0, 0, 0, 0⟩),
  (⟨"MeshParents$History", "push", "(LMeshParents$Mesh;)V"⟩, prog_2_method_3_code, 2, none, ⟨2, 0, 0, 43⟩),
  (⟨"MeshParents$History", "popInto", "(LMeshParents$Mesh;)V"⟩, prog_2_method_4_code, 2, none, ⟨2, 0, 0, 43⟩),
  (⟨"MeshParents$Link", "<init>", "()V"⟩, prog_3_method_1_code, 1, none, ⟨1, 0, 0, 20⟩),
  (⟨"MeshParents$Link", "reset", "(IIIII)V"⟩, prog_3_method_2_code, 6, none, ⟨1, 0, 0, 21⟩),
  (⟨"MeshParents$Link", "copyFrom", "(LMeshParents$Link;)V"⟩, prog_3_method_3_code, 2, none, ⟨0, 0, 0, 0⟩),
  (⟨"MeshParents$Link", "flip", "()V"⟩, prog_3_method_4_code, 1, none, ⟨0, 0, 0, 0⟩),
  (⟨"MeshParents$Link", "setLoss", "(ZI)V"⟩, prog_3_method_5_code, 3, none, ⟨1, 0, 0, 21⟩),
  (⟨"MeshParents$Link", "computeAirtime", "()V"⟩, prog_3_method_6_code, 2, none, ⟨0, 0, 0, 0⟩),
  (⟨"MeshParents$Link", "joins", "(II)Z"⟩, prog_3_method_7_code, 3, some .boolean, ⟨0, 0, 0, 0⟩),
  (⟨"MeshParents$Mesh", "<init>", "()V"⟩, prog_4_method_1_code, 2, none, ⟨2, 19, 224, 40⟩),
  (⟨"MeshParents$Mesh", "reset", "(I)V"⟩, prog_4_method_2_code, 2, none, ⟨0, 0, 0, 0⟩),
  (⟨"MeshParents$Mesh", "copyFrom", "(LMeshParents$Mesh;)V"⟩, prog_4_method_3_code, 3, none, ⟨1, 0, 0, 21⟩),
  (⟨"MeshParents$Mesh", "hasNode", "(I)Z"⟩, prog_4_method_4_code, 2, some .boolean, ⟨0, 0, 0, 0⟩),
  (⟨"MeshParents$Mesh", "hasLink", "(I)Z"⟩, prog_4_method_5_code, 2, some .boolean, ⟨0, 0, 0, 0⟩),
  (⟨"MeshParents$Mesh", "isGateway", "(I)Z"⟩, prog_4_method_6_code, 2, some .boolean, ⟨1, 0, 0, 21⟩),
  (⟨"MeshParents$Mesh", "nodesOfKind", "(I)I"⟩, prog_4_method_7_code, 4, some .int, ⟨0, 0, 0, 0⟩),
  (⟨"MeshParents$Mesh", "downLinks", "()I"⟩, prog_4_method_8_code, 3, some .int, ⟨0, 0, 0, 0⟩),
  (⟨"MeshParents$Mesh", "linksAt", "(I)I"⟩, prog_4_method_9_code, 4, some .int, ⟨0, 0, 0, 0⟩),
  (⟨"MeshParents$Mesh", "linkBetween", "(II)I"⟩, prog_4_method_10_code, 4, some .int, ⟨1, 0, 0, 22⟩),
  (⟨"MeshParents$Mesh", "openOffer", "(II)I"⟩, prog_4_method_11_code, 4, some .int, ⟨2, 0, 0, 45⟩),
  (⟨"MeshParents$Mesh", "passRounds", "(II)V"⟩, prog_4_method_12_code, 4, none, ⟨4, 0, 0, 91⟩),
  (⟨"MeshParents$Mesh", "passRound", "(I)V"⟩, prog_4_method_13_code, 4, none, ⟨3, 0, 0, 68⟩),
  (⟨"MeshParents$Mesh", "exchangeOffers", "(LMeshParents$Link;)V"⟩, prog_4_method_14_code, 4, none, ⟨2, 0, 0, 45⟩),
  (⟨"MeshParents$Mesh", "endOfRoute", "(I)I"⟩, prog_4_method_15_code, 4, some .int, ⟨1, 0, 0, 21⟩),
  (⟨"MeshParents$Mesh", "isReached", "(I)Z"⟩, prog_4_method_16_code, 2, some .boolean, ⟨2, 0, 0, 44⟩),
  (⟨"MeshParents$Mesh", "reachedNodes", "()I"⟩, prog_4_method_17_code, 3, some .int, ⟨3, 0, 0, 65⟩),
  (⟨"MeshParents$Mesh", "load", "(I)I"⟩, prog_4_method_18_code, 4, some .int, ⟨2, 0, 0, 44⟩),
  (⟨"MeshParents$Mesh", "loadSpread", "()I"⟩, prog_4_method_19_code, 5, some .int, ⟨3, 0, 0, 67⟩)]
def z_mt1 : List ZT := [(⟨"MeshParents$Mesh", "allParents", "()J"⟩, prog_4_method_20_code, 4, some .long, ⟨0, 0, 0, 0⟩),
  (⟨"MeshParents$Mesh", "nodeProperty", "(II)I"⟩, prog_4_method_21_code, 5, some .int, ⟨3, 0, 0, 67⟩),
  (⟨"MeshParents$Node", "<init>", "()V"⟩, prog_5_method_1_code, 1, none, ⟨1, 0, 0, 20⟩),
  (⟨"MeshParents$Node", "reset", "(I)V"⟩, prog_5_method_2_code, 2, none, ⟨1, 0, 0, 20⟩),
  (⟨"MeshParents$Node", "copyFrom", "(LMeshParents$Node;)V"⟩, prog_5_method_3_code, 2, none, ⟨0, 0, 0, 0⟩),
  (⟨"MeshParents$Node", "dropParent", "()V"⟩, prog_5_method_4_code, 1, none, ⟨0, 0, 0, 0⟩),
  (⟨"MeshParents$Node", "isAwake", "(I)Z"⟩, prog_5_method_5_code, 2, some .boolean, ⟨0, 0, 0, 0⟩),
  (⟨"MeshParents$Node", "fixOffer", "(IZ)V"⟩, prog_5_method_6_code, 3, none, ⟨0, 0, 0, 0⟩),
  (⟨"MeshParents$Node", "isFeasible", "(LMeshParents$Node;)Z"⟩, prog_5_method_7_code, 2, some .boolean, ⟨0, 0, 0, 0⟩),
  (⟨"MeshParents$Node", "forgetHeard", "()V"⟩, prog_5_method_8_code, 1, none, ⟨0, 0, 0, 0⟩),
  (⟨"MeshParents$Node", "hear", "(LMeshParents$Node;II)V"⟩, prog_5_method_9_code, 5, none, ⟨1, 0, 0, 21⟩),
  (⟨"MeshParents$Node", "choose", "(I)V"⟩, prog_5_method_10_code, 2, none, ⟨1, 0, 0, 20⟩),
  (⟨"MeshParents$Node", "tightenBound", "()V"⟩, prog_5_method_11_code, 1, none, ⟨0, 0, 0, 0⟩),
  (⟨"MeshParents$Node", "asks", "()Z"⟩, prog_5_method_12_code, 1, some .boolean, ⟨0, 0, 0, 0⟩),
  (⟨"MeshParents$Observations", "<init>", "()V"⟩, prog_6_method_1_code, 1, none, ⟨1, 3, 18, 20⟩),
  (⟨"MeshParents$Observations", "add", "(IIZ)V"⟩, prog_6_method_2_code, 4, none, ⟨0, 0, 0, 0⟩),
  (⟨"MeshParents$Observations", "agreeAfter", "(II)Z"⟩, prog_6_method_3_code, 4, some .boolean, ⟨0, 0, 0, 0⟩),
  (⟨"MeshParents$Text", "<init>", "()V"⟩, prog_7_method_1_code, 1, none, ⟨1, 1, 100, 20⟩),
  (⟨"MeshParents$Text", "append", "(I)V"⟩, prog_7_method_2_code, 2, none, ⟨0, 0, 0, 0⟩),
  (⟨"MeshParents$Text", "readInto", "(LMeshParents$Mesh;)I"⟩, prog_7_method_3_code, 4, some .int, ⟨5, 0, 0, 114⟩),
  (⟨"MeshParents$Text", "readPart", "(LMeshParents$Mesh;)Z"⟩, prog_7_method_4_code, 2, some .boolean, ⟨4, 0, 0, 93⟩),
  (⟨"MeshParents$Text", "readGateway", "(LMeshParents$Mesh;)Z"⟩, prog_7_method_5_code, 4, some .boolean, ⟨3, 0, 0, 66⟩),
  (⟨"MeshParents$Text", "readRouter", "(LMeshParents$Mesh;)Z"⟩, prog_7_method_6_code, 2, some .boolean, ⟨2, 0, 0, 41⟩),
  (⟨"MeshParents$Text", "readLeaf", "(LMeshParents$Mesh;)Z"⟩, prog_7_method_7_code, 5, some .boolean, ⟨3, 0, 0, 66⟩),
  (⟨"MeshParents$Text", "readLink", "(LMeshParents$Mesh;)Z"⟩, prog_7_method_8_code, 8, some .boolean, ⟨3, 0, 0, 66⟩),
  (⟨"MeshParents$Text", "letterHere", "()I"⟩, prog_7_method_9_code, 1, some .int, ⟨0, 0, 0, 0⟩),
  (⟨"MeshParents$Text", "digitHere", "(II)I"⟩, prog_7_method_10_code, 4, some .int, ⟨1, 0, 0, 20⟩),
  (⟨"MeshParents$Text", "takeDigit", "(II)I"⟩, prog_7_method_11_code, 4, some .int, ⟨2, 0, 0, 43⟩),
  (⟨"MeshParents", "<init>", "()V"⟩, prog_1_method_1_code, 2, none, ⟨4, 370, 4304, 82⟩),
  (⟨"MeshParents", "write", "(I)I"⟩, prog_1_method_2_code, 2, some .int, ⟨1, 0, 0, 22⟩)]
def z_mt2 : List ZT := [(⟨"MeshParents", "wipe", "()I"⟩, prog_1_method_3_code, 2, some .int, ⟨0, 0, 0, 0⟩),
  (⟨"MeshParents", "fault", "()I"⟩, prog_1_method_4_code, 1, some .int, ⟨6, 0, 0, 137⟩),
  (⟨"MeshParents", "mesh", "()I"⟩, prog_1_method_5_code, 2, some .int, ⟨6, 0, 0, 137⟩),
  (⟨"MeshParents", "about", "(I)I"⟩, prog_1_method_6_code, 2, some .int, ⟨4, 0, 0, 87⟩),
  (⟨"MeshParents", "node", "(II)I"⟩, prog_1_method_7_code, 3, some .int, ⟨4, 0, 0, 91⟩),
  (⟨"MeshParents", "link", "(II)I"⟩, prog_1_method_8_code, 4, some .int, ⟨1, 0, 0, 21⟩),
  (⟨"MeshParents", "price", "(II)I"⟩, prog_1_method_9_code, 5, some .int, ⟨3, 0, 0, 68⟩),
  (⟨"MeshParents", "safe", "(II)I"⟩, prog_1_method_10_code, 4, some .int, ⟨3, 0, 0, 68⟩),
  (⟨"MeshParents", "round", "(I)I"⟩, prog_1_method_11_code, 2, some .int, ⟨5, 0, 0, 114⟩),
  (⟨"MeshParents", "turn", "(I)I"⟩, prog_1_method_12_code, 2, some .int, ⟨3, 0, 0, 64⟩),
  (⟨"MeshParents", "lose", "(IZI)I"⟩, prog_1_method_13_code, 4, some .int, ⟨3, 0, 0, 64⟩),
  (⟨"MeshParents", "offset", "(II)I"⟩, prog_1_method_14_code, 4, some .int, ⟨3, 0, 0, 64⟩),
  (⟨"MeshParents", "margin", "(I)I"⟩, prog_1_method_15_code, 3, some .int, ⟨3, 0, 0, 64⟩),
  (⟨"MeshParents", "undo", "()I"⟩, prog_1_method_16_code, 1, some .int, ⟨3, 0, 0, 64⟩),
  (⟨"MeshParents", "ahead", "(III)I"⟩, prog_1_method_17_code, 4, some .int, ⟨5, 0, 0, 114⟩),
  (⟨"MeshParents", "still", "()I"⟩, prog_1_method_18_code, 5, some .int, ⟨4, 0, 0, 91⟩),
  (⟨"MeshParents", "word", "(I)I"⟩, prog_1_method_19_code, 6, some .int, ⟨4, 0, 0, 91⟩),
  (⟨"MeshParents", "even", "(I)I"⟩, prog_1_method_20_code, 6, some .int, ⟨5, 0, 0, 114⟩),
  (⟨"MeshParents", "judge", "(IJ)I"⟩, prog_1_method_21_code, 6, some .int, ⟨6, 0, 0, 138⟩),
  (⟨"MeshParents", "see", "(III)I"⟩, prog_1_method_22_code, 4, some .int, ⟨1, 0, 0, 23⟩),
  (⟨"MeshParents", "unsee", "()I"⟩, prog_1_method_23_code, 2, some .int, ⟨0, 0, 0, 0⟩),
  (⟨"MeshParents", "which", "()I"⟩, prog_1_method_24_code, 3, some .int, ⟨5, 0, 0, 113⟩),
  (⟨"MeshParents", "share", "(IZ)I"⟩, prog_1_method_25_code, 11, some .int, ⟨6, 0, 0, 138⟩),
  (⟨"MeshParents", "chance", "(IZ)I"⟩, prog_1_method_26_code, 11, some .int, ⟨6, 0, 0, 136⟩),
  (⟨"MeshParents", "seed", "(J)J"⟩, prog_1_method_27_code, 5, some .long, ⟨0, 0, 0, 0⟩),
  (⟨"MeshParents", "drawn", "(I)I"⟩, prog_1_method_28_code, 5, some .int, ⟨4, 0, 0, 91⟩),
  (⟨"MeshParents", "keep", "(I)I"⟩, prog_1_method_29_code, 2, some .int, ⟨2, 0, 0, 43⟩),
  (⟨"MeshParents", "again", "(I)I"⟩, prog_1_method_30_code, 2, some .int, ⟨2, 0, 0, 43⟩),
  (⟨"MeshParents", "isWithin", "(III)Z"⟩, prog_1_method_31_code, 3, some .boolean, ⟨0, 0, 0, 0⟩),
  (⟨"MeshParents", "offerError", "(II)I"⟩, prog_1_method_32_code, 3, some .int, ⟨2, 0, 0, 42⟩)]
def z_mt3 : List ZT := [(⟨"MeshParents", "withoutEvents", "(JI)J"⟩, prog_1_method_33_code, 6, some .long, ⟨0, 0, 0, 0⟩),
  (⟨"MeshParents", "happens", "(I)Z"⟩, prog_1_method_34_code, 5, some .boolean, ⟨5, 0, 0, 114⟩),
  (⟨"MeshParents", "flipInTrial", "(I)Z"⟩, prog_1_method_35_code, 2, some .boolean, ⟨1, 0, 0, 21⟩),
  (⟨"MeshParents", "setOffsetInTrial", "(II)Z"⟩, prog_1_method_36_code, 3, some .boolean, ⟨2, 0, 0, 42⟩),
  (⟨"MeshParents", "explainsAll", "(I)Z"⟩, prog_1_method_37_code, 3, some .boolean, ⟨4, 0, 0, 91⟩),
  (⟨"MeshParents", "worth", "(I)I"⟩, prog_1_method_38_code, 5, some .int, ⟨5, 0, 0, 114⟩),
  (⟨"MeshParents", "reachesAllWithout", "(I)Z"⟩, prog_1_method_39_code, 3, some .boolean, ⟨5, 0, 0, 114⟩),
  (⟨"MeshParents", "power", "(II)J"⟩, prog_1_method_40_code, 5, some .long, ⟨0, 0, 0, 0⟩),
  (⟨"MeshParents", "inLowestTerms", "(JJZ)I"⟩, prog_1_method_41_code, 7, some .int, ⟨1, 0, 0, 30⟩),
  (⟨"MeshParents", "greatestCommonDivisor", "(JJ)J"⟩, prog_1_method_42_code, 11, some .long, ⟨0, 0, 0, 0⟩),
  (⟨"MeshParentsModel", "<init>", "()V"⟩, prog_9_method_1_code, 1, none, ⟨1, 27, 2386, 21⟩),
  (⟨"MeshParentsModel", "fresh", "()V"⟩, prog_9_method_3_code, 2, none, ⟨0, 0, 0, 0⟩),
  (⟨"MeshParentsModel", "copy", "([I[I)V"⟩, prog_9_method_4_code, 3, none, ⟨0, 0, 0, 0⟩),
  (⟨"MeshParentsModel", "in", "(JJJ)Z"⟩, prog_9_method_5_code, 6, some .boolean, ⟨0, 0, 0, 0⟩),
  (⟨"MeshParentsModel", "has", "(II)Z"⟩, prog_9_method_6_code, 2, some .boolean, ⟨0, 0, 0, 0⟩),
  (⟨"MeshParentsModel", "ones", "(I)I"⟩, prog_9_method_7_code, 3, some .int, ⟨0, 0, 0, 0⟩),
  (⟨"MeshParentsModel", "power", "(II)I"⟩, prog_9_method_8_code, 4, some .int, ⟨0, 0, 0, 0⟩),
  (⟨"MeshParentsModel", "factorial", "(I)I"⟩, prog_9_method_9_code, 3, some .int, ⟨0, 0, 0, 0⟩),
  (⟨"MeshParentsModel", "fraction", "(JJZ)I"⟩, prog_9_method_10_code, 11, some .int, ⟨0, 0, 0, 0⟩),
  (⟨"MeshParentsModel", "isNode", "(I)Z"⟩, prog_9_method_11_code, 2, some .boolean, ⟨1, 0, 0, 25⟩),
  (⟨"MeshParentsModel", "isGateway", "(I)Z"⟩, prog_9_method_12_code, 2, some .boolean, ⟨2, 0, 0, 46⟩),
  (⟨"MeshParentsModel", "isLink", "(I)Z"⟩, prog_9_method_13_code, 2, some .boolean, ⟨1, 0, 0, 25⟩),
  (⟨"MeshParentsModel", "write", "(I)I"⟩, prog_9_method_14_code, 2, some .int, ⟨1, 0, 0, 25⟩),
  (⟨"MeshParentsModel", "wipe", "()I"⟩, prog_9_method_15_code, 2, some .int, ⟨0, 0, 0, 0⟩),
  (⟨"MeshParentsModel", "areLinkedAsRead", "(II)Z"⟩, prog_9_method_16_code, 5, some .boolean, ⟨0, 0, 0, 0⟩),
  (⟨"MeshParentsModel", "isFullAsRead", "(I)Z"⟩, prog_9_method_17_code, 4, some .boolean, ⟨1, 0, 0, 24⟩),
  (⟨"MeshParentsModel", "mayLink", "()Z"⟩, prog_9_method_18_code, 3, some .boolean, ⟨2, 0, 0, 47⟩),
  (⟨"MeshParentsModel", "takeSign", "(I)Z"⟩, prog_9_method_19_code, 2, some .boolean, ⟨3, 0, 0, 69⟩),
  (⟨"MeshParentsModel", "takeOfGateway", "(I)Z"⟩, prog_9_method_20_code, 2, some .boolean, ⟨1, 0, 0, 25⟩),
  (⟨"MeshParentsModel", "takeOfLeaf", "(I)Z"⟩, prog_9_method_21_code, 2, some .boolean, ⟨1, 0, 0, 25⟩)]
def z_mt4 : List ZT := [(⟨"MeshParentsModel", "takeOfLink", "(I)Z"⟩, prog_9_method_22_code, 3, some .boolean, ⟨2, 0, 0, 47⟩),
  (⟨"MeshParentsModel", "take", "(I)Z"⟩, prog_9_method_23_code, 3, some .boolean, ⟨4, 0, 0, 90⟩),
  (⟨"MeshParentsModel", "readText", "()I"⟩, prog_9_method_24_code, 2, some .int, ⟨5, 0, 0, 112⟩),
  (⟨"MeshParentsModel", "fault", "()I"⟩, prog_9_method_25_code, 1, some .int, ⟨6, 0, 0, 133⟩),
  (⟨"MeshParentsModel", "mesh", "()I"⟩, prog_9_method_26_code, 2, some .int, ⟨6, 0, 0, 133⟩),
  (⟨"MeshParentsModel", "airtime", "([II)I"⟩, prog_9_method_27_code, 4, some .int, ⟨0, 0, 0, 0⟩),
  (⟨"MeshParentsModel", "linkOf", "([III)I"⟩, prog_9_method_28_code, 7, some .int, ⟨0, 0, 0, 0⟩),
  (⟨"MeshParentsModel", "offers", "([II)Z"⟩, prog_9_method_29_code, 3, some .boolean, ⟨1, 0, 0, 21⟩),
  (⟨"MeshParentsModel", "offered", "([II)I"⟩, prog_9_method_30_code, 3, some .int, ⟨0, 0, 0, 0⟩),
  (⟨"MeshParentsModel", "sequenceOf", "([II)I"⟩, prog_9_method_31_code, 3, some .int, ⟨0, 0, 0, 0⟩),
  (⟨"MeshParentsModel", "priceOf", "([III)I"⟩, prog_9_method_32_code, 5, some .int, ⟨2, 0, 0, 43⟩),
  (⟨"MeshParentsModel", "isSafe", "([III)Z"⟩, prog_9_method_33_code, 5, some .boolean, ⟨1, 0, 0, 22⟩),
  (⟨"MeshParentsModel", "isGood", "([III)Z"⟩, prog_9_method_34_code, 4, some .boolean, ⟨3, 0, 0, 67⟩),
  (⟨"MeshParentsModel", "isAwake", "(II)Z"⟩, prog_9_method_35_code, 3, some .boolean, ⟨0, 0, 0, 0⟩),
  (⟨"MeshParentsModel", "hears", "([II)Z"⟩, prog_9_method_36_code, 7, some .boolean, ⟨4, 0, 0, 90⟩),
  (⟨"MeshParentsModel", "goOn", "([I)V"⟩, prog_9_method_37_code, 4, none, ⟨5, 0, 0, 116⟩),
  (⟨"MeshParentsModel", "tryRounds", "(I)V"⟩, prog_9_method_38_code, 3, none, ⟨6, 0, 0, 139⟩),
  (⟨"MeshParentsModel", "endOf", "([II)I"⟩, prog_9_method_39_code, 5, some .int, ⟨1, 0, 0, 21⟩),
  (⟨"MeshParentsModel", "reached", "([I)I"⟩, prog_9_method_40_code, 4, some .int, ⟨2, 0, 0, 45⟩),
  (⟨"MeshParentsModel", "loadOf", "([II)I"⟩, prog_9_method_41_code, 5, some .int, ⟨2, 0, 0, 45⟩),
  (⟨"MeshParentsModel", "those", "(I)I"⟩, prog_9_method_42_code, 4, some .int, ⟨0, 0, 0, 0⟩),
  (⟨"MeshParentsModel", "downs", "()I"⟩, prog_9_method_43_code, 3, some .int, ⟨0, 0, 0, 0⟩),
  (⟨"MeshParentsModel", "about", "(I)I"⟩, prog_9_method_44_code, 2, some .int, ⟨3, 0, 0, 68⟩),
  (⟨"MeshParentsModel", "tell", "([III)I"⟩, prog_9_method_45_code, 6, some .int, ⟨3, 0, 0, 69⟩),
  (⟨"MeshParentsModel", "node", "(II)I"⟩, prog_9_method_46_code, 3, some .int, ⟨4, 0, 0, 94⟩),
  (⟨"MeshParentsModel", "link", "(II)I"⟩, prog_9_method_47_code, 3, some .int, ⟨2, 0, 0, 46⟩),
  (⟨"MeshParentsModel", "noTwo", "(II)I"⟩, prog_9_method_48_code, 3, some .int, ⟨2, 0, 0, 46⟩),
  (⟨"MeshParentsModel", "price", "(II)I"⟩, prog_9_method_49_code, 4, some .int, ⟨3, 0, 0, 68⟩),
  (⟨"MeshParentsModel", "safe", "(II)I"⟩, prog_9_method_50_code, 4, some .int, ⟨3, 0, 0, 68⟩),
  (⟨"MeshParentsModel", "note", "()V"⟩, prog_9_method_51_code, 2, none, ⟨0, 0, 0, 0⟩)]
def z_mt5 : List ZT := [(⟨"MeshParentsModel", "round", "(I)I"⟩, prog_9_method_52_code, 3, some .int, ⟨6, 0, 0, 139⟩),
  (⟨"MeshParentsModel", "turn", "(I)I"⟩, prog_9_method_53_code, 2, some .int, ⟨2, 0, 0, 46⟩),
  (⟨"MeshParentsModel", "lose", "(IZI)I"⟩, prog_9_method_54_code, 4, some .int, ⟨2, 0, 0, 46⟩),
  (⟨"MeshParentsModel", "offset", "(II)I"⟩, prog_9_method_55_code, 4, some .int, ⟨3, 0, 0, 67⟩),
  (⟨"MeshParentsModel", "margin", "(I)I"⟩, prog_9_method_56_code, 3, some .int, ⟨1, 0, 0, 25⟩),
  (⟨"MeshParentsModel", "undo", "()I"⟩, prog_9_method_57_code, 2, some .int, ⟨0, 0, 0, 0⟩),
  (⟨"MeshParentsModel", "ahead", "(III)I"⟩, prog_9_method_58_code, 4, some .int, ⟨7, 0, 0, 161⟩),
  (⟨"MeshParentsModel", "still", "()I"⟩, prog_9_method_59_code, 5, some .int, ⟨6, 0, 0, 139⟩),
  (⟨"MeshParentsModel", "word", "(I)I"⟩, prog_9_method_60_code, 5, some .int, ⟨6, 0, 0, 139⟩),
  (⟨"MeshParentsModel", "spread", "()I"⟩, prog_9_method_61_code, 5, some .int, ⟨3, 0, 0, 69⟩),
  (⟨"MeshParentsModel", "even", "(I)I"⟩, prog_9_method_62_code, 6, some .int, ⟨7, 0, 0, 161⟩),
  (⟨"MeshParentsModel", "judged", "(IIIII)Z"⟩, prog_9_method_63_code, 7, some .boolean, ⟨7, 0, 0, 161⟩),
  (⟨"MeshParentsModel", "hundredThousands", "(I)J"⟩, prog_9_method_64_code, 4, some .long, ⟨0, 0, 0, 0⟩),
  (⟨"MeshParentsModel", "judge", "(IJ)I"⟩, prog_9_method_65_code, 6, some .int, ⟨8, 0, 0, 187⟩),
  (⟨"MeshParentsModel", "see", "(III)I"⟩, prog_9_method_66_code, 4, some .int, ⟨2, 0, 0, 46⟩),
  (⟨"MeshParentsModel", "unsee", "()I"⟩, prog_9_method_67_code, 2, some .int, ⟨0, 0, 0, 0⟩),
  (⟨"MeshParentsModel", "isSoBy", "(II)Z"⟩, prog_9_method_68_code, 4, some .boolean, ⟨7, 0, 0, 161⟩),
  (⟨"MeshParentsModel", "which", "()I"⟩, prog_9_method_69_code, 5, some .int, ⟨8, 0, 0, 184⟩),
  (⟨"MeshParentsModel", "reachedBy", "(I)I"⟩, prog_9_method_70_code, 3, some .int, ⟨7, 0, 0, 161⟩),
  (⟨"MeshParentsModel", "share", "(IZ)I"⟩, prog_9_method_71_code, 8, some .int, ⟨8, 0, 0, 183⟩),
  (⟨"MeshParentsModel", "chance", "(IZ)I"⟩, prog_9_method_72_code, 9, some .int, ⟨7, 0, 0, 161⟩),
  (⟨"MeshParentsModel", "seed", "(J)J"⟩, prog_9_method_73_code, 5, some .long, ⟨0, 0, 0, 0⟩),
  (⟨"MeshParentsModel", "drawn", "(I)I"⟩, prog_9_method_74_code, 6, some .int, ⟨6, 0, 0, 139⟩),
  (⟨"MeshParentsModel", "keep", "(I)I"⟩, prog_9_method_75_code, 3, some .int, ⟨1, 0, 0, 25⟩),
  (⟨"MeshParentsModel", "again", "(I)I"⟩, prog_9_method_76_code, 3, some .int, ⟨1, 0, 0, 25⟩),
  (⟨"java/lang/Integer", "bitCount", "(I)I"⟩, prog_10_method_49_code, 1, some .int, ⟨0, 0, 0, 0⟩),
  (⟨"java/lang/Math", "abs", "(J)J"⟩, prog_11_method_61_code, 2, some .long, ⟨0, 0, 0, 0⟩),
  (⟨"java/lang/Math", "max", "(II)I"⟩, prog_11_method_65_code, 2, some .int, ⟨0, 0, 0, 0⟩),
  (⟨"java/lang/Math", "min", "(II)I"⟩, prog_11_method_69_code, 2, some .int, ⟨0, 0, 0, 0⟩),
  (⟨"MeshParentsLaw", "law", "([I)Z"⟩, code, 4, ret, ⟨11, 600000, 7302250, 426⟩)]
def z_mt : List ZT := z_mt0 ++ (z_mt1 ++ (z_mt2 ++ (z_mt3 ++ (z_mt4 ++ (z_mt5)))))
def z_me (i : Nat) : ZT := (z_mt[i]?).getD (⟨"", "", ""⟩, ⟨#[]⟩, 0, none, ⟨0, 0, 0, 0⟩)
def z_my (i : Nat) : MethodName := (z_me i).1
def z_mc (i : Nat) : ByteArray := (z_me i).2.1
def z_mL (i : Nat) : Nat := (z_me i).2.2.1
def z_mr (i : Nat) : Option FieldType := (z_me i).2.2.2.1
def z_rm (i : Nat) : Room := (z_me i).2.2.2.2
abbrev m_History_init : Nat := 0
abbrev m_History_clear : Nat := 1
abbrev m_History_push : Nat := 2
abbrev m_History_popInto : Nat := 3
abbrev m_Link_init : Nat := 4
abbrev m_Link_reset : Nat := 5
abbrev m_Link_copyFrom : Nat := 6
abbrev m_Link_flip : Nat := 7
abbrev m_Link_setLoss : Nat := 8
abbrev m_Link_computeAirtime : Nat := 9
abbrev m_Link_joins : Nat := 10
abbrev m_Mesh_init : Nat := 11
abbrev m_Mesh_reset : Nat := 12
abbrev m_Mesh_copyFrom : Nat := 13
abbrev m_Mesh_hasNode : Nat := 14
abbrev m_Mesh_hasLink : Nat := 15
abbrev m_Mesh_isGateway : Nat := 16
abbrev m_Mesh_nodesOfKind : Nat := 17
abbrev m_Mesh_downLinks : Nat := 18
abbrev m_Mesh_linksAt : Nat := 19
abbrev m_Mesh_linkBetween : Nat := 20
abbrev m_Mesh_openOffer : Nat := 21
abbrev m_Mesh_passRounds : Nat := 22
abbrev m_Mesh_passRound : Nat := 23
abbrev m_Mesh_exchangeOffers : Nat := 24
abbrev m_Mesh_endOfRoute : Nat := 25
abbrev m_Mesh_isReached : Nat := 26
abbrev m_Mesh_reachedNodes : Nat := 27
abbrev m_Mesh_load : Nat := 28
abbrev m_Mesh_loadSpread : Nat := 29
abbrev m_Mesh_allParents : Nat := 30
abbrev m_Mesh_nodeProperty : Nat := 31
abbrev m_Node_init : Nat := 32
abbrev m_Node_reset : Nat := 33
abbrev m_Node_copyFrom : Nat := 34
abbrev m_Node_dropParent : Nat := 35
abbrev m_Node_isAwake : Nat := 36
abbrev m_Node_fixOffer : Nat := 37
abbrev m_Node_isFeasible : Nat := 38
abbrev m_Node_forgetHeard : Nat := 39
abbrev m_Node_hear : Nat := 40
abbrev m_Node_choose : Nat := 41
abbrev m_Node_tightenBound : Nat := 42
abbrev m_Node_asks : Nat := 43
abbrev m_Observations_init : Nat := 44
abbrev m_Observations_add : Nat := 45
abbrev m_Observations_agreeAfter : Nat := 46
abbrev m_Text_init : Nat := 47
abbrev m_Text_append : Nat := 48
abbrev m_Text_readInto : Nat := 49
abbrev m_Text_readPart : Nat := 50
abbrev m_Text_readGateway : Nat := 51
abbrev m_Text_readRouter : Nat := 52
abbrev m_Text_readLeaf : Nat := 53
abbrev m_Text_readLink : Nat := 54
abbrev m_Text_letterHere : Nat := 55
abbrev m_Text_digitHere : Nat := 56
abbrev m_Text_takeDigit : Nat := 57
abbrev m_MP_init : Nat := 58
abbrev m_MP_write : Nat := 59
abbrev m_MP_wipe : Nat := 60
abbrev m_MP_fault : Nat := 61
abbrev m_MP_mesh : Nat := 62
abbrev m_MP_about : Nat := 63
abbrev m_MP_node : Nat := 64
abbrev m_MP_link : Nat := 65
abbrev m_MP_price : Nat := 66
abbrev m_MP_safe : Nat := 67
abbrev m_MP_round : Nat := 68
abbrev m_MP_turn : Nat := 69
abbrev m_MP_lose : Nat := 70
abbrev m_MP_offset : Nat := 71
abbrev m_MP_margin : Nat := 72
abbrev m_MP_undo : Nat := 73
abbrev m_MP_ahead : Nat := 74
abbrev m_MP_still : Nat := 75
abbrev m_MP_word : Nat := 76
abbrev m_MP_even : Nat := 77
abbrev m_MP_judge : Nat := 78
abbrev m_MP_see : Nat := 79
abbrev m_MP_unsee : Nat := 80
abbrev m_MP_which : Nat := 81
abbrev m_MP_share : Nat := 82
abbrev m_MP_chance : Nat := 83
abbrev m_MP_seed : Nat := 84
abbrev m_MP_drawn : Nat := 85
abbrev m_MP_keep : Nat := 86
abbrev m_MP_again : Nat := 87
abbrev m_MP_isWithin : Nat := 88
abbrev m_MP_offerError : Nat := 89
abbrev m_MP_withoutEvents : Nat := 90
abbrev m_MP_happens : Nat := 91
abbrev m_MP_flipInTrial : Nat := 92
abbrev m_MP_setOffsetInTrial : Nat := 93
abbrev m_MP_explainsAll : Nat := 94
abbrev m_MP_worth : Nat := 95
abbrev m_MP_reachesAllWithout : Nat := 96
abbrev m_MP_power : Nat := 97
abbrev m_MP_inLowestTerms : Nat := 98
abbrev m_MP_greatestCommonDivisor : Nat := 99
abbrev m_Model_init : Nat := 100
abbrev m_Model_fresh : Nat := 101
abbrev m_Model_copy : Nat := 102
abbrev m_Model_in : Nat := 103
abbrev m_Model_has : Nat := 104
abbrev m_Model_ones : Nat := 105
abbrev m_Model_power : Nat := 106
abbrev m_Model_factorial : Nat := 107
abbrev m_Model_fraction : Nat := 108
abbrev m_Model_isNode : Nat := 109
abbrev m_Model_isGateway : Nat := 110
abbrev m_Model_isLink : Nat := 111
abbrev m_Model_write : Nat := 112
abbrev m_Model_wipe : Nat := 113
abbrev m_Model_areLinkedAsRead : Nat := 114
abbrev m_Model_isFullAsRead : Nat := 115
abbrev m_Model_mayLink : Nat := 116
abbrev m_Model_takeSign : Nat := 117
abbrev m_Model_takeOfGateway : Nat := 118
abbrev m_Model_takeOfLeaf : Nat := 119
abbrev m_Model_takeOfLink : Nat := 120
abbrev m_Model_take : Nat := 121
abbrev m_Model_readText : Nat := 122
abbrev m_Model_fault : Nat := 123
abbrev m_Model_mesh : Nat := 124
abbrev m_Model_airtime : Nat := 125
abbrev m_Model_linkOf : Nat := 126
abbrev m_Model_offers : Nat := 127
abbrev m_Model_offered : Nat := 128
abbrev m_Model_sequenceOf : Nat := 129
abbrev m_Model_priceOf : Nat := 130
abbrev m_Model_isSafe : Nat := 131
abbrev m_Model_isGood : Nat := 132
abbrev m_Model_isAwake : Nat := 133
abbrev m_Model_hears : Nat := 134
abbrev m_Model_goOn : Nat := 135
abbrev m_Model_tryRounds : Nat := 136
abbrev m_Model_endOf : Nat := 137
abbrev m_Model_reached : Nat := 138
abbrev m_Model_loadOf : Nat := 139
abbrev m_Model_those : Nat := 140
abbrev m_Model_downs : Nat := 141
abbrev m_Model_about : Nat := 142
abbrev m_Model_tell : Nat := 143
abbrev m_Model_node : Nat := 144
abbrev m_Model_link : Nat := 145
abbrev m_Model_noTwo : Nat := 146
abbrev m_Model_price : Nat := 147
abbrev m_Model_safe : Nat := 148
abbrev m_Model_note : Nat := 149
abbrev m_Model_round : Nat := 150
abbrev m_Model_turn : Nat := 151
abbrev m_Model_lose : Nat := 152
abbrev m_Model_offset : Nat := 153
abbrev m_Model_margin : Nat := 154
abbrev m_Model_undo : Nat := 155
abbrev m_Model_ahead : Nat := 156
abbrev m_Model_still : Nat := 157
abbrev m_Model_word : Nat := 158
abbrev m_Model_spread : Nat := 159
abbrev m_Model_even : Nat := 160
abbrev m_Model_judged : Nat := 161
abbrev m_Model_hundredThousands : Nat := 162
abbrev m_Model_judge : Nat := 163
abbrev m_Model_see : Nat := 164
abbrev m_Model_unsee : Nat := 165
abbrev m_Model_isSoBy : Nat := 166
abbrev m_Model_which : Nat := 167
abbrev m_Model_reachedBy : Nat := 168
abbrev m_Model_share : Nat := 169
abbrev m_Model_chance : Nat := 170
abbrev m_Model_seed : Nat := 171
abbrev m_Model_drawn : Nat := 172
abbrev m_Model_keep : Nat := 173
abbrev m_Model_again : Nat := 174
abbrev m_Integer_bitCount : Nat := 175
abbrev m_Math_abs : Nat := 176
abbrev m_Math_max : Nat := 177
abbrev m_Math_min : Nat := 178
abbrev m_Law_law : Nat := 179
def z_mp : List (Nat × Nat × Nat × Nat) := [(241, 0, 50, 1), (408, 409, 50, 2), (494, 495, 50, 2), (570, 571, 50, 2), (169, 0, 49, 1), (384, 385, 49, 2), (404, 405, 49, 2), (546, 547, 49, 2), (554, 555, 49, 2), (388, 389, 49, 2), (380, 381, 49, 2), (84, 0, 47, 1), (328, 329, 47, 2), (396, 397, 47, 2), (432, 433, 47, 2), (457, 458, 47, 2), (469, 470, 47, 2), (416, 417, 47, 2), (436, 437, 47, 2), (372, 373, 47, 2), (376, 377, 47, 2), (473, 474, 47, 2), (499, 500, 47, 2), (503, 504, 47, 2), (511, 512, 47, 2), (428, 429, 47, 2), (424, 425, 47, 2), (420, 421, 47, 2), (449, 450, 47, 2), (597, 598, 47, 2), (582, 583, 47, 2), (445, 446, 47, 2), (91, 0, 48, 1), (352, 353, 48, 2), (400, 401, 48, 2), (356, 357, 48, 2), (520, 521, 48, 2), (477, 478, 48, 2), (486, 487, 48, 2), (507, 508, 48, 2), (515, 516, 48, 2), (524, 525, 48, 2), (528, 529, 48, 2), (532, 533, 48, 2), (261, 0, 51, 1), (633, 634, 51, 2), (649, 650, 51, 2), (66, 0, 46, 1), (312, 313, 46, 2), (324, 325, 46, 2), (344, 345, 46, 2), (348, 349, 46, 2), (360, 361, 46, 2), (364, 365, 46, 2), (368, 369, 46, 2), (332, 333, 46, 2), (340, 341, 46, 2), (336, 337, 46, 2), (58, 0, 45, 1), (305, 306, 45, 2), (316, 317, 45, 2), (320, 321, 45, 2), (392, 393, 45, 2), (412, 413, 45, 2), (440, 441, 45, 2), (453, 454, 45, 2), (461, 462, 45, 2), (482, 483, 45, 2), (490, 491, 45, 2), (542, 543, 45, 2), (550, 551, 45, 2), (558, 559, 45, 2), (562, 563, 45, 2), (566, 567, 45, 2), (574, 575, 45, 2), (578, 579, 45, 2), (588, 589, 45, 2), (593, 594, 45, 2), (607, 608, 45, 2), (629, 630, 45, 2), (637, 638, 45, 2), (641, 642, 45, 2), (653, 654, 45, 2), (673, 674, 45, 2), (684, 685, 45, 2), (688, 689, 45, 2), (694, 695, 45, 2), (698, 699, 45, 2), (309, 0, 45, 0), (466, 0, 45, 2), (611, 0, 45, 0), (616, 1, 45, 2), (620, 2, 45, 2), (624, 3, 45, 2), (646, 4, 45, 2), (660, 5, 45, 2), (681, 6, 45, 2), (677, 0, 45, 0), (664, 0, 45, 0), (670, 0, 45, 0), (704, 0, 52, 1), (709, 7, 52, 2), (990, 0, 52, 0), (838, 0, 52, 0), (906, 0, 52, 0), (1005, 0, 52, 0), (1105, 0, 52, 0), (1094, 0, 52, 0), (1097, 0, 52, 0), (918, 21, 52, 2), (1021, 38, 52, 2), (934, 24, 52, 2), (833, 834, 52, 2), (841, 842, 52, 2), (870, 13, 52, 2), (866, 12, 52, 2), (862, 11, 52, 2), (858, 10, 52, 2), (875, 14, 52, 2), (879, 15, 52, 2), (883, 16, 52, 2), (854, 9, 52, 2), (850, 8, 52, 2), (845, 846, 52, 2), (886, 887, 52, 2), (938, 25, 52, 2), (954, 28, 52, 2), (958, 29, 52, 2), (962, 30, 52, 2), (974, 32, 52, 2), (950, 27, 52, 2), (970, 31, 52, 2), (1002, 37, 52, 2), (994, 35, 52, 2), (998, 36, 52, 2), (987, 34, 52, 2), (1038, 39, 52, 2), (903, 19, 52, 2), (899, 18, 52, 2), (926, 23, 52, 2), (895, 17, 52, 2), (910, 20, 52, 2), (890, 891, 52, 2), (922, 22, 52, 2), (913, 914, 52, 2), (929, 930, 52, 2), (946, 26, 52, 2), (941, 942, 52, 2), (965, 966, 52, 2), (983, 33, 52, 2), (977, 978, 52, 2), (1008, 1009, 52, 2), (1012, 1013, 52, 2), (1016, 1017, 52, 2), (1024, 1025, 52, 2), (1028, 1029, 52, 2), (1032, 1033, 52, 2), (1041, 1042, 52, 2), (1045, 1046, 52, 2), (1054, 40, 52, 2), (1049, 1050, 52, 2), (1066, 41, 52, 2), (1061, 0, 52, 0), (1057, 1058, 52, 2), (1069, 1070, 52, 2), (1074, 1075, 52, 2), (1083, 42, 52, 2), (1078, 1079, 52, 2), (1091, 43, 52, 2), (1086, 1087, 52, 2), (1100, 1101, 52, 2), (1108, 1109, 52, 2), (1112, 1113, 52, 2), (1118, 1119, 52, 2), (1122, 1123, 52, 2), (536, 0, 53, 0), (667, 0, 54, 0), (601, 0, 54, 0), (604, 0, 54, 0)]
def z_cp : List Nat := [242, 410, 496, 572, 170, 386, 406, 548, 556, 390, 382, 85, 330, 398, 434, 459, 471, 418, 438, 374, 378, 475, 501, 505, 513, 430, 426, 422, 451, 599, 584, 447, 92, 354, 402, 358, 522, 479, 488, 509, 517, 526, 530, 534, 262, 635, 651, 67, 314, 326, 346, 350, 362, 366, 370, 334, 342, 338, 59, 307, 318, 322, 394, 414, 442, 455, 463, 484, 492, 544, 552, 560, 564, 568, 576, 580, 590, 595, 609, 631, 639, 643, 655, 675, 686, 690, 696, 700, 310, 467, 612, 617, 621, 625, 647, 661, 682, 678, 665, 671, 705, 710, 991, 839, 907, 1006, 1106, 1095, 1098, 919, 1022, 935, 835, 843, 871, 867, 863, 859, 876, 880, 884, 855, 851, 847, 888, 939, 955, 959, 963, 975, 951, 971, 1003, 995, 999, 988, 1039, 904, 900, 927, 896, 911, 892, 923, 915, 931, 947, 943, 967, 984, 979, 1010, 1014, 1018, 1026, 1030, 1034, 1043, 1047, 1055, 1051, 1067, 1062, 1059, 1071, 1076, 1084, 1080, 1092, 1088, 1102, 1110, 1114, 1120, 1124, 537, 668, 602, 605]
def z_mk (y : MethodName) (q : Nat × Nat × Nat × Nat) : Bool := z_at q.2.2.1 (.initialized y.cls) && (decide (y.cls ≠ "java/lang/invoke/MethodHandle" ∧ y.cls ≠ "java/lang/invoke/VarHandle") && match q.2.2.2 with
  | 0 => z_at q.1 (.static y)
  | 1 => z_at q.1 (.instanceMethod y) && decide (y.name = "<init>")
  | _ => z_at q.1 (.instanceMethod y) && z_at q.2.1 (.selects y.cls y y))
theorem z_mk_all : (List.range 179).all (fun i => z_mk (z_my i) ((z_mp[i]?).getD (0, 0, 0, 3))) = true := by decide +kernel
def z_cw (i : Nat) : Cond := .code (z_my i) (z_mc i) (z_mL i) (z_mr i)
set_option maxRecDepth 1000000 in
theorem z_cw_all : (List.range 179).map z_cw = z_cp.filterMap (fun i => lw_tbl[i]?) := by rfl
theorem z_cw_mem {i : Nat} (h : i < 179) : z_cw i ∈ z_tb := by
  have h1 : z_cw i ∈ (List.range 179).map z_cw := List.mem_map.mpr ⟨i, List.mem_range.mpr h, rfl⟩
  rw [z_cw_all] at h1
  obtain ⟨k, -, hk⟩ := List.mem_filterMap.mp h1
  exact List.mem_filter.mpr ⟨List.mem_of_getElem? hk, rfl⟩
def z_nest : List (String × Nat × MethodName × String) := [("MeshParents", 9, ⟨"MeshParents$Text", "<init>", "()V"⟩, "MeshParents"), ("MeshParents$Mesh", 17, ⟨"MeshParents$Node", "<init>", "()V"⟩, "MeshParents"), ("MeshParents$Mesh", 24, ⟨"MeshParents$Link", "<init>", "()V"⟩, "MeshParents"), ("MeshParents", 43, ⟨"MeshParents$Observations", "<init>", "()V"⟩, "MeshParents")]
theorem z_nest_in : ∀ q ∈ z_nest, Cond.methodLinkNest q.1 q.2.1 q.2.2.1 q.2.2.2 ∈ lw_tbl := by decide +kernel
theorem z_over_in : (Cond.arrayOver (.object "MeshParents$Node") ∈ lw_tbl ∧ Cond.arrayOver (.object "MeshParents$Link") ∈ lw_tbl ∧ Cond.arrayOver (.object "MeshParents$Mesh") ∈ lw_tbl) ∧ Cond.arrayClass .int ∈ z_tb ∧ Cond.arrayClass .boolean ∈ z_tb := ⟨by decide +kernel, z_at_mem (i := 80) (by decide +kernel), z_at_mem (i := 278) (by decide +kernel)⟩
theorem z_obj_in : Cond.instanceMethod objectInit ∈ z_tb ∧ Cond.code objectInit ⟨#[0xb1]⟩ 1 none ∈ z_tb := ⟨z_at_mem (i := 61) (by decide +kernel), List.mem_filter.mpr ⟨List.mem_of_getElem? (i := 62) rfl, rfl⟩⟩
theorem z_stat_in : Cond.laysStatic "MeshParents" "FACTORIAL" "[I" ∈ lw_tbl := List.mem_of_getElem? (i := 657) (by decide +kernel)
end
section
/-! THE FRAME: an evaluator of bytecode over a memory of numbers; that the machine does what it says -/
abbrev ZM : Type := (Nat → Nat → Int32) × (Nat → Nat → Option Nat) × (Nat → Nat → Int64) × ((Nat → Nat × Nat) × Nat × Nat)
abbrev ZL : Type := List (Option Value)
abbrev ZK : Type := ZL → List Value → ZM → Prop
abbrev ZO : Type := Instr × Nat × Nat × Nat
abbrev ZR : Type := Option Value → ZM → Prop
/-- the surroundings: (where the own cells begin, the class's static array, the script), the script's length and values, class numbers, array classes, the heap at the start -/
abbrev ZG : Type := (Nat × Nat × Nat) × (Nat × (Nat → Int32)) × va_G × (Nat → ClassId) × Heap
def z_ad (G : ZG) : Nat → Nat
  | 0 => G.1.2.1
  | 1 => G.1.2.2
  | n + 2 => G.1.1 + n
def z_em (G : ZG) : Value → Value
  | .ref k => .ref (z_ad G k)
  | v => v
def z_kd : FieldType → Nat
  | .boolean => 3
  | .long => 1
  | .array _ => 2
  | .object _ => 2
  | .int => 0
  | _ => 4
def z_fk (ci k : Nat) : Nat := match z_tys[ci]? with
  | some y => z_kd (y k)
  | none => 0
def z_fv : Nat → ZM → Nat → Nat → Value
  | 1, M, a, k => .long (M.2.2.1 a k)
  | 2, M, a, k => va_rf (M.2.1 a k)
  | _, M, a, k => .int (M.1 a k)
def z_ng (n : Nat) : Int32 := -(nI n)
def z_kI : Nat → Nat → Int32
  | 0, a => nI a
  | _ + 1, a => z_ng a
def z_rem (x y : Int32) : Int32 := x - x / y * y
def z_lrem (x y : Int64) : Int64 := x - x / y * y
def z_shl (x y : Int32) : Int32 := x <<< (y &&& 31)
def z_shr (x y : Int32) : Int32 := x >>> (y &&& 31)
def z_ushr (x y : Int32) : Int32 := (x.toUInt32 >>> (y.toUInt32 &&& Int32.toUInt32 31)).toInt32
def z_lshl (x : Int64) (y : Int32) : Int64 := x <<< (y.toInt64 &&& 63)
def z_lushr (x : Int64) (y : Int32) : Int64 := (x.toUInt64 >>> (y.toInt64.toUInt64 &&& Int64.toUInt64 63)).toInt64
def z_fct : Nat → Int32
  | 0 => 1
  | 1 => 1
  | 2 => 2
  | 3 => 6
  | 4 => 24
  | 5 => 120
  | 6 => 720
  | 7 => 5040
  | _ => 40320
def z_u2 (f : Nat → Nat → Int32) (a k : Nat) (x : Int32) : Nat → Nat → Int32 := fun b j => if b = a ∧ j = k then x else f b j
def z_uR (f : Nat → Nat → Option Nat) (a k : Nat) (x : Option Nat) : Nat → Nat → Option Nat := fun b j => if b = a ∧ j = k then x else f b j
def z_uL (f : Nat → Nat → Int64) (a k : Nat) (x : Int64) : Nat → Nat → Int64 := fun b j => if b = a ∧ j = k then x else f b j
def z_ix (i : Int32) : Nat := i.toNatClampNeg
/-! locals -/
def z_lg : Nat → ZL → Option Value
  | _, [] => none
  | 0, a :: _ => a
  | n + 1, _ :: t => z_lg n t
def z_kl : Option Value → Option Value
  | some (.long _) => none
  | some (.double _) => none
  | x => x
def z_s1 : Nat → Value → ZL → ZL
  | _, _, [] => []
  | 0, v, _ :: t => some v :: t
  | 1, v, a :: t => z_kl a :: z_s1 0 v t
  | n + 2, v, a :: t => a :: z_s1 (n + 1) v t
def z_s2 : Nat → Value → ZL → ZL
  | 0, v, _ :: _ :: t => some v :: none :: t
  | 1, v, a :: t => z_kl a :: z_s2 0 v t
  | n + 2, v, a :: t => a :: z_s2 (n + 1) v t
  | _, _, _ => []
def z_mk1 : List Bool → ZL → ZL
  | true :: b, x :: t => x :: z_mk1 b t
  | false :: b, _ :: t => none :: z_mk1 b t
  | _, _ => []
/-! the instructions -/
def o_kI (x : Int32) (K : ZK) (L : ZL) (st : List Value) (M : ZM) : Prop := K L (.int x :: st) M
def o_kL (x : Int64) (K : ZK) (L : ZL) (st : List Value) (M : ZM) : Prop := K L (.long x :: st) M
def o_ldi : Option Value → ZK → ZL → List Value → ZM → Prop
  | some (.int x), K, L, st, M => K L (.int x :: st) M
  | _, _, _, _, _ => False
def o_ldl : Option Value → ZK → ZL → List Value → ZM → Prop
  | some (.long x), K, L, st, M => K L (.long x :: st) M
  | _, _, _, _, _ => False
def o_lda : Option Value → ZK → ZL → List Value → ZM → Prop
  | some (.ref x), K, L, st, M => K L (.ref x :: st) M
  | _, _, _, _, _ => False
def o_sti : Nat → ZK → ZL → List Value → ZM → Prop
  | n, K, L, .int x :: st, M => K (z_s1 n (.int x) L) st M
  | _, _, _, _, _ => False
def o_sta : Nat → ZK → ZL → List Value → ZM → Prop
  | n, K, L, .ref x :: st, M => K (z_s1 n (.ref x) L) st M
  | _, _, _, _, _ => False
def o_stl : Nat → ZK → ZL → List Value → ZM → Prop
  | n, K, L, .long x :: st, M => K (z_s2 n (.long x) L) st M
  | _, _, _, _, _ => False
def o_inc : Nat → Int32 → Option Value → ZK → ZL → List Value → ZM → Prop
  | n, d, some (.int x), K, L, st, M => K (z_s1 n (.int (x + d)) L) st M
  | _, _, _, _, _, _, _ => False
def o_b2 (f : Int32 → Int32 → Int32) : ZK → ZL → List Value → ZM → Prop
  | K, L, .int y :: .int x :: st, M => K L (.int (f x y) :: st) M
  | _, _, _, _ => False
def o_bz (f : Int32 → Int32 → Int32) : ZK → ZL → List Value → ZM → Prop
  | K, L, .int y :: .int x :: st, M => ¬ y = 0 ∧ K L (.int (f x y) :: st) M
  | _, _, _, _ => False
def o_l2 (f : Int64 → Int64 → Int64) : ZK → ZL → List Value → ZM → Prop
  | K, L, .long y :: .long x :: st, M => K L (.long (f x y) :: st) M
  | _, _, _, _ => False
def o_lz (f : Int64 → Int64 → Int64) : ZK → ZL → List Value → ZM → Prop
  | K, L, .long y :: .long x :: st, M => ¬ y = 0 ∧ K L (.long (f x y) :: st) M
  | _, _, _, _ => False
def o_ls (f : Int64 → Int32 → Int64) : ZK → ZL → List Value → ZM → Prop
  | K, L, .int y :: .long x :: st, M => K L (.long (f x y) :: st) M
  | _, _, _, _ => False
def o_lneg : ZK → ZL → List Value → ZM → Prop
  | K, L, .long x :: st, M => K L (.long (-x) :: st) M
  | _, _, _, _ => False
def o_i2l : ZK → ZL → List Value → ZM → Prop
  | K, L, .int x :: st, M => K L (.long x.toInt64 :: st) M
  | _, _, _, _ => False
def o_l2i : ZK → ZL → List Value → ZM → Prop
  | K, L, .long x :: st, M => K L (.int x.toInt32 :: st) M
  | _, _, _, _ => False
def o_lcmp : ZK → ZL → List Value → ZM → Prop
  | K, L, .long y :: .long x :: st, M => K L (.int (lg_cmp x y) :: st) M
  | _, _, _, _ => False
def z_c1 : Value → Prop
  | .int _ => True
  | .ref _ => True
  | _ => False
def o_dup : ZK → ZL → List Value → ZM → Prop
  | K, L, v :: st, M => z_c1 v ∧ K L (v :: v :: st) M
  | _, _, _, _ => False
def o_dupx1 : ZK → ZL → List Value → ZM → Prop
  | K, L, v :: w :: st, M => (z_c1 v ∧ z_c1 w) ∧ K L (v :: w :: v :: st) M
  | _, _, _, _ => False
def o_dup2 : ZK → ZL → List Value → ZM → Prop
  | K, L, v :: w :: st, M => (z_c1 v ∧ z_c1 w) ∧ K L (v :: w :: v :: w :: st) M
  | _, _, _, _ => False
def o_if (c : Int32 → Prop) (J K : ZK) : ZL → List Value → ZM → Prop
  | L, .int x :: st, M => (c x → J L st M) ∧ (¬ c x → K L st M)
  | _, _, _ => False
def o_if2 (c : Int32 → Int32 → Prop) (J K : ZK) : ZL → List Value → ZM → Prop
  | L, .int y :: .int x :: st, M => (c x y → J L st M) ∧ (¬ c x y → K L st M)
  | _, _, _ => False
def z_ic : Jvm.ClassFile.Cond → Int32 → Int32 → Prop
  | .eq, x, y => x = y
  | .ne, x, y => ¬ x = y
  | .lt, x, y => x < y
  | .ge, x, y => y ≤ x
  | .gt, x, y => y < x
  | .le, x, y => x ≤ y
def o_ifnull (J K : ZK) : ZL → List Value → ZM → Prop
  | L, .null :: st, M => J L st M
  | L, .ref _ :: st, M => K L st M
  | _, _, _ => False
def o_get (ci k ty : Nat) : ZK → ZL → List Value → ZM → Prop
  | K, L, .ref o :: st, M => M.2.2.2.1 o = (1, ci) ∧ K L (z_fv ty M o k :: st) M
  | _, _, _, _ => False
def o_put (ci k : Nat) : Nat → ZK → ZL → List Value → ZM → Prop
  | 0, K, L, .int x :: .ref o :: st, M => M.2.2.2.1 o = (1, ci) ∧ K L st (z_u2 M.1 o k x, M.2)
  | 3, K, L, .int x :: .ref o :: st, M => (M.2.2.2.1 o = (1, ci) ∧ (x = 0 ∨ x = 1)) ∧ K L st (z_u2 M.1 o k x, M.2)
  | 1, K, L, .long x :: .ref o :: st, M => M.2.2.2.1 o = (1, ci) ∧ K L st (M.1, M.2.1, z_uL M.2.2.1 o k x, M.2.2.2)
  | 2, K, L, .ref x :: .ref o :: st, M => M.2.2.2.1 o = (1, ci) ∧ K L st (M.1, z_uR M.2.1 o k (some x), M.2.2)
  | 2, K, L, .null :: .ref o :: st, M => M.2.2.2.1 o = (1, ci) ∧ K L st (M.1, z_uR M.2.1 o k none, M.2.2)
  | _, _, _, _, _ => False
def o_iald (G : ZG) : Nat → ZK → ZL → List Value → ZM → Prop
  | 0, K, L, .int i :: .ref o :: st, M => ((M.2.2.2.1 o).1 = 2 ∧ vp_in i (M.2.2.2.1 o).2) ∧ K L (.int (M.1 o (z_ix i)) :: st) M
  | 1, K, L, .int i :: .ref 0 :: st, M => vp_in i 9 ∧ K L (.int (z_fct (z_ix i)) :: st) M
  | 2, K, L, .int i :: .ref 1 :: st, M => vp_in i G.2.1.1 ∧ K L (.int (G.2.1.2 (z_ix i)) :: st) M
  | _, _, _, _, _ => False
def o_zald : ZK → ZL → List Value → ZM → Prop
  | K, L, .int i :: .ref o :: st, M => ((M.2.2.2.1 o).1 = 3 ∧ vp_in i (M.2.2.2.1 o).2) ∧ K L (.int (M.1 o (z_ix i)) :: st) M
  | _, _, _, _ => False
def o_aald : ZK → ZL → List Value → ZM → Prop
  | K, L, .int i :: .ref o :: st, M => ((4 ≤ (M.2.2.2.1 o).1 ∧ (M.2.2.2.1 o).1 ≤ 6) ∧ vp_in i (M.2.2.2.1 o).2) ∧ K L (va_rf (M.2.1 o (z_ix i)) :: st) M
  | _, _, _, _ => False
def o_alen (G : ZG) : ZK → ZL → List Value → ZM → Prop
  | K, L, .ref 1 :: st, M => K L (.int (nI G.2.1.1) :: st) M
  | _, _, _, _ => False
def o_iast : ZK → ZL → List Value → ZM → Prop
  | K, L, .int x :: .int i :: .ref o :: st, M => ((M.2.2.2.1 o).1 = 2 ∧ vp_in i (M.2.2.2.1 o).2) ∧ K L st (z_u2 M.1 o (z_ix i) x, M.2)
  | _, _, _, _ => False
def o_zast : ZK → ZL → List Value → ZM → Prop
  | K, L, .int x :: .int i :: .ref o :: st, M => (((M.2.2.2.1 o).1 = 3 ∧ vp_in i (M.2.2.2.1 o).2) ∧ (x = 0 ∨ x = 1)) ∧ K L st (z_u2 M.1 o (z_ix i) x, M.2)
  | _, _, _, _ => False
/-- an array of references: what its objects' class is -/
def z_ac : Nat → Nat
  | 4 => 3
  | 5 => 1
  | _ => 2
def o_aast : ZK → ZL → List Value → ZM → Prop
  | K, L, .ref v :: .int i :: .ref o :: st, M => (((4 ≤ (M.2.2.2.1 o).1 ∧ (M.2.2.2.1 o).1 ≤ 6) ∧ vp_in i (M.2.2.2.1 o).2) ∧ M.2.2.2.1 v = (1, z_ac (M.2.2.2.1 o).1)) ∧ K L st (M.1, z_uR M.2.1 o (z_ix i) (some v), M.2.2)
  | _, _, _, _ => False
/-- a new cell: its places hold nothing yet -/
def z_nw (M : ZM) (t : Nat × Nat) (n : Nat) : ZM := (fun b j => if b = M.2.2.2.2.1 then 0 else M.1 b j, fun b j => if b = M.2.2.2.2.1 then none else M.2.1 b j, fun b j => if b = M.2.2.2.2.1 then 0 else M.2.2.1 b j, fun b => if b = M.2.2.2.2.1 then t else M.2.2.2.1 b, M.2.2.2.2.1 + 1, M.2.2.2.2.2 + n)
def z_rmk (R : Room) (z0 : Nat × Nat) (M : ZM) (c n : Nat) : Prop := M.2.2.2.2.1 + c ≤ z0.1 + R.cells ∧ M.2.2.2.2.2 + n ≤ z0.2 + R.slots
def o_new (R : Room) (z0 : Nat × Nat) (ci n : Nat) (K : ZK) (L : ZL) (st : List Value) (M : ZM) : Prop := z_rmk R z0 M 1 n ∧ K L (.ref M.2.2.2.2.1 :: st) (z_nw M (1, ci) n)
def o_newa (R : Room) (z0 : Nat × Nat) (k : Nat) : ZK → ZL → List Value → ZM → Prop
  | K, L, .int n :: st, M => (z_rmk R z0 M 1 (z_ix n) ∧ (¬ n < 0 ∧ z_ix n ≤ 65536)) ∧ K L (.ref M.2.2.2.2.1 :: st) (z_nw M (k, z_ix n) (z_ix n))
  | _, _, _, _ => False
/-- what goes on behind a call -/
def z_af (K : ZK) (L : ZL) (st : List Value) : ZR := fun r M => K L (r.toList ++ st) M
def z_sh : List Value → Prop
  | [] => True
  | [_] => True
  | [_, _] => True
  | [_, _, _] => True
  | [_, _, _, _] => True
  | _ => False
def z_pop : Nat → (List Value → List Value → Prop) → List Value → List Value → Prop
  | 0, k, acc, st => k acc st
  | n + 1, k, acc, v :: st => z_pop n k (v :: acc) st
  | _, _, _, _ => False
def z_rc : Nat → List Value → ZM → Prop
  | 0, _, _ => True
  | c + 1, .ref o :: _, M => M.2.2.2.1 o = (1, c)
  | _, _, _ => False
def o_call1 (C : Nat → List Value → ZM → ZR → Prop) (mid c : Nat) (K : ZK) (L : ZL) (M : ZM) (as st : List Value) : Prop := (z_rc c as M ∧ z_sh st) ∧ C mid as M (z_af K L st)
def o_call (C : Nat → List Value → ZM → ZR → Prop) (mid n c : Nat) (K : ZK) (L : ZL) (st : List Value) (M : ZM) : Prop := z_pop n (o_call1 C mid c K L M) [] st
/-- a call that makes cells -/
def o_callN (C : Nat → List Value → ZM → ZR → Prop) (R : Room) (z0 : Nat × Nat) (mid n c : Nat) (K : ZK) (L : ZL) (st : List Value) (M : ZM) : Prop := z_rmk R z0 M (z_rm mid).cells (z_rm mid).slots ∧ z_pop n (o_call1 C mid c K L M) [] st
def o_obj : ZK → ZL → List Value → ZM → Prop
  | K, L, .ref _ :: st, M => z_sh st ∧ K L st M
  | _, _, _, _ => False
def o_reti (Rt : ZR) : Nat → ZL → List Value → ZM → Prop
  | 0, _, [.int x], M => Rt (some (.int x)) M
  | 1, _, [.int x], M => (x = 0 ∨ x = 1) ∧ Rt (some (.int x)) M
  | _, _, _, _ => False
def o_retl (Rt : ZR) : ZL → List Value → ZM → Prop
  | _, [.long x], M => Rt (some (.long x)) M
  | _, _, _ => False
def o_ret (Rt : ZR) : ZL → List Value → ZM → Prop
  | _, [], M => Rt none M
  | _, _, _ => False
def z_tgt (pc : Nat) (off : Int) : Nat := ((pc : Int) + off).toNat
def z_tsw (J : Nat → ZK) (pc : Nat) (x : Int32) : Nat → List Int → ZL → List Value → ZM → Prop
  | _, [], _, _, _ => True
  | k, t :: r, L, st, M => (x = nI k → J (z_tgt pc t) L st M) ∧ z_tsw J pc x (k + 1) r L st M
def o_tsw (J : Nat → ZK) (pc lo hi : Nat) (d : Int) (offs : List Int) : ZL → List Value → ZM → Prop
  | L, .int x :: st, M => (x < nI lo → J (z_tgt pc d) L st M) ∧ (nI hi < x → J (z_tgt pc d) L st M) ∧ z_tsw J pc x lo offs L st M
  | _, _, _ => False
def z_lsw (J : Nat → ZK) (pc : Nat) (x : Int32) (d : Int) : List (Int × Int) → ZL → List Value → ZM → Prop
  | [], L, st, M => J (z_tgt pc d) L st M
  | (k, t) :: r, L, st, M => (x = nI k.toNat → J (z_tgt pc t) L st M) ∧ (¬ x = nI k.toNat → z_lsw J pc x d r L st M)
def o_lsw (J : Nat → ZK) (pc : Nat) (d : Int) (ps : List (Int × Int)) : ZL → List Value → ZM → Prop
  | L, .int x :: st, M => z_lsw J pc x d ps L st M
  | _, _, _ => False
def z_hd (G : ZG) (mid : Nat) (z0 : Nat × Nat) (C : Nat → List Value → ZM → ZR → Prop) (Rt : ZR) (J : Nat → ZK) : Instr → Nat → Nat → Nat → ZK → ZL → List Value → ZM → Prop
  | .iconst _, a, _, c, K, L, st, M => o_kI (z_kI c a) K L st M
  | .bipush _, a, _, c, K, L, st, M => o_kI (z_kI c a) K L st M
  | .sipush _, a, _, c, K, L, st, M => o_kI (z_kI c a) K L st M
  | .ldc_w _, a, _, c, K, L, st, M => o_kI (z_kI c a) K L st M
  | .lconst _, a, _, _, K, L, st, M => o_kL (lN a) K L st M
  | .ldc2_w _, a, _, _, K, L, st, M => o_kL (lN a) K L st M
  | .iload _, a, _, _, K, L, st, M => o_ldi (z_lg a L) K L st M
  | .iload_n _, a, _, _, K, L, st, M => o_ldi (z_lg a L) K L st M
  | .aload _, a, _, _, K, L, st, M => o_lda (z_lg a L) K L st M
  | .aload_n _, a, _, _, K, L, st, M => o_lda (z_lg a L) K L st M
  | .lload _, a, _, _, K, L, st, M => o_ldl (z_lg a L) K L st M
  | .lload_n _, a, _, _, K, L, st, M => o_ldl (z_lg a L) K L st M
  | .istore _, a, _, _, K, L, st, M => o_sti a K L st M
  | .istore_n _, a, _, _, K, L, st, M => o_sti a K L st M
  | .astore _, a, _, _, K, L, st, M => o_sta a K L st M
  | .astore_n _, a, _, _, K, L, st, M => o_sta a K L st M
  | .lstore _, a, _, _, K, L, st, M => o_stl a K L st M
  | .lstore_n _, a, _, _, K, L, st, M => o_stl a K L st M
  | .iinc _ _, a, b, c, K, L, st, M => o_inc b (z_kI c a) (z_lg b L) K L st M
  | .iadd, _, _, _, K, L, st, M => o_b2 (fun x y => x + y) K L st M
  | .isub, _, _, _, K, L, st, M => o_b2 (fun x y => x - y) K L st M
  | .imul, _, _, _, K, L, st, M => o_b2 (fun x y => x * y) K L st M
  | .iand, _, _, _, K, L, st, M => o_b2 (fun x y => x &&& y) K L st M
  | .ior, _, _, _, K, L, st, M => o_b2 (fun x y => x ||| y) K L st M
  | .ixor, _, _, _, K, L, st, M => o_b2 (fun x y => x ^^^ y) K L st M
  | .ishl, _, _, _, K, L, st, M => o_b2 z_shl K L st M
  | .ishr, _, _, _, K, L, st, M => o_b2 z_shr K L st M
  | .iushr, _, _, _, K, L, st, M => o_b2 z_ushr K L st M
  | .idiv, _, _, _, K, L, st, M => o_bz (fun x y => x / y) K L st M
  | .irem, _, _, _, K, L, st, M => o_bz z_rem K L st M
  | .ladd, _, _, _, K, L, st, M => o_l2 (fun x y => x + y) K L st M
  | .lsub, _, _, _, K, L, st, M => o_l2 (fun x y => x - y) K L st M
  | .lmul, _, _, _, K, L, st, M => o_l2 (fun x y => x * y) K L st M
  | .land, _, _, _, K, L, st, M => o_l2 (fun x y => x &&& y) K L st M
  | .lor, _, _, _, K, L, st, M => o_l2 (fun x y => x ||| y) K L st M
  | .ldiv, _, _, _, K, L, st, M => o_lz (fun x y => x / y) K L st M
  | .lrem, _, _, _, K, L, st, M => o_lz z_lrem K L st M
  | .lshl, _, _, _, K, L, st, M => o_ls z_lshl K L st M
  | .lushr, _, _, _, K, L, st, M => o_ls z_lushr K L st M
  | .lneg, _, _, _, K, L, st, M => o_lneg K L st M
  | .i2l, _, _, _, K, L, st, M => o_i2l K L st M
  | .l2i, _, _, _, K, L, st, M => o_l2i K L st M
  | .lcmp, _, _, _, K, L, st, M => o_lcmp K L st M
  | .dup, _, _, _, K, L, st, M => o_dup K L st M
  | .dup_x1, _, _, _, K, L, st, M => o_dupx1 K L st M
  | .dup2, _, _, _, K, L, st, M => o_dup2 K L st M
  | .goto _, a, _, _, _, L, st, M => J a L st M
  | .ifCond .ne _, a, _, _, K, L, st, M => o_if (fun x => x = 0) K (J a) L st M
  | .ifCond c _, a, _, _, K, L, st, M => o_if (fun x => z_ic c x 0) (J a) K L st M
  | .if_icmp .ne _, a, _, _, K, L, st, M => o_if2 (fun x y => x = y) K (J a) L st M
  | .if_icmp c _, a, _, _, K, L, st, M => o_if2 (z_ic c) (J a) K L st M
  | .ifnull _, a, _, _, K, L, st, M => o_ifnull (J a) K L st M
  | .ifnonnull _, a, _, _, K, L, st, M => o_ifnull K (J a) L st M
  | .aconst_null, _, _, _, K, L, st, M => K L (.null :: st) M
  | .getfield _, a, b, c, K, L, st, M => o_get a b c K L st M
  | .putfield _, a, b, c, K, L, st, M => o_put a b c K L st M
  | .getstatic _, _, _, _, K, L, st, M => K L (.ref 0 :: st) M
  | .iaload, a, _, _, K, L, st, M => o_iald G a K L st M
  | .baload, _, _, _, K, L, st, M => o_zald K L st M
  | .aaload, _, _, _, K, L, st, M => o_aald K L st M
  | .arraylength, _, _, _, K, L, st, M => o_alen G K L st M
  | .iastore, _, _, _, K, L, st, M => o_iast K L st M
  | .bastore, _, _, _, K, L, st, M => o_zast K L st M
  | .aastore, _, _, _, K, L, st, M => o_aast K L st M
  | .new _, a, b, _, K, L, st, M => o_new (z_rm mid) z0 a b K L st M
  | .newarray .int, _, _, _, K, L, st, M => o_newa (z_rm mid) z0 2 K L st M
  | .newarray .boolean, _, _, _, K, L, st, M => o_newa (z_rm mid) z0 3 K L st M
  | .anewarray _, a, _, _, K, L, st, M => o_newa (z_rm mid) z0 a K L st M
  | .invokevirtual _, a, b, c, K, L, st, M => o_call C a b c K L st M
  | .invokestatic _, a, b, c, K, L, st, M => o_call C a b c K L st M
  | .invokespecial _, a, b, c, K, L, st, M => if c = 99 then o_obj K L st M else o_callN C (z_rm mid) z0 a b c K L st M
  | .ireturn, a, _, _, _, L, st, M => o_reti Rt a L st M
  | .lreturn, _, _, _, _, L, st, M => o_retl Rt L st M
  | .return_, _, _, _, _, L, st, M => o_ret Rt L st M
  | .tableswitch d _ _ offs, a, b, c, _, L, st, M => o_tsw J a b c d offs.toList L st M
  | .lookupswitch d ps, a, _, _, _, L, st, M => o_lsw J a d ps.toList L st M
  | _, _, _, _, _, _, _, _ => False
def z_wp (G : ZG) (mid : Nat) (z0 : Nat × Nat) (C : Nat → List Value → ZM → ZR → Prop) (Rt : ZR) (J : Nat → ZK) (E : ZK) : List ZO → ZL → List Value → ZM → Prop
  | [], L, st, M => E L st M
  | (i, a, b, c) :: r, L, st, M => z_hd G mid z0 C Rt J i a b c (z_wp G mid z0 C Rt J E r) L st M
abbrev ZE : Type := Bool × List Bool × List ZO × Nat
def z_fd : List (Nat × ZE) → Nat → Option ZE
  | [], _ => none
  | (k, x) :: t, p => if p = k then some x else z_fd t p
def z_qs (G : ZG) (mid : Nat) (z0 : Nat × Nat) (C : Nat → List Value → ZM → ZR → Prop) (Rt : ZR) (J0 Jn : Nat → ZK) (pc : Nat) : Option ZE → ZL → List Value → ZM → Prop
  | some (false, bs, ops, e), L, st, M => z_wp G mid z0 C Rt Jn (Jn e) ops (z_mk1 bs L) st M
  | some (true, bs, _, _), L, st, M => J0 pc (z_mk1 bs L) st M
  | none, L, st, M => J0 pc L st M
def z_q (G : ZG) (mid : Nat) (z0 : Nat × Nat) (bk : List (Nat × ZE)) (C : Nat → List Value → ZM → ZR → Prop) (Rt : ZR) (J0 : Nat → ZK) : Nat → Nat → ZL → List Value → ZM → Prop
  | 0, pc, L, st, M => J0 pc L st M
  | n + 1, pc, L, st, M => z_qs G mid z0 C Rt J0 (z_q G mid z0 bk C Rt J0 n) pc (z_fd bk pc) L st M
end
section
/-! what the heap holds, what a method stands on -/
def z_b0 (G : ZG) : Nat := G.1.1
def z_cell (G : ZG) (M : ZM) (a : Nat) (H : Heap) : Prop := match (M.2.2.2.1 a).1 with
  | 0 => True
  | 1 => ∃ r, z_cls[(M.2.2.2.1 a).2]? = some r ∧ t_OB (z_ad G a) (G.2.2.1.1 (M.2.2.2.1 a).2) r.2.2 (G.2.2.1.2 (M.2.2.2.1 a).2) H (fun k => z_em G (z_fv (z_fk (M.2.2.2.1 a).2 k) M a k))
  | 2 => H[z_ad G a]? = some (arrV (G.2.2.2.1 2) (M.2.2.2.1 a).2 (fun j => .int (M.1 a j)))
  | 3 => H[z_ad G a]? = some (arrV (G.2.2.2.1 3) (M.2.2.2.1 a).2 (fun j => .int (M.1 a j)))
  | k + 4 => H[z_ad G a]? = some (arrV (G.2.2.2.1 (k + 4)) (M.2.2.2.1 a).2 (fun j => z_em G (va_rf (M.2.1 a j))))
def z_Mo (G : ZG) (M : ZM) (H : Heap) : Prop :=
  (H.size + 2 = z_b0 G + M.2.2.2.2.1 ∧ 2 ≤ M.2.2.2.2.1) ∧ (∀ q : Nat, q < z_b0 G → H[q]? = G.2.2.2.2[q]?) ∧ (∀ a : Nat, (M.2.2.2.1 a).1 ≠ 0 → 2 ≤ a ∧ a < M.2.2.2.2.1) ∧ ∀ a : Nat, z_cell G M a H
def z_aty : Nat → FieldType
  | 2 => .int
  | 3 => .boolean
  | 4 => .object "MeshParents$Node"
  | 5 => .object "MeshParents$Link"
  | _ => .object "MeshParents$Mesh"
def z_Kn (G : ZG) (U : State) : Prop :=
  (∀ (c : Nat) (q : vw_C), z_cls[c]? = some q → u_Kn U q.1 q.2.1 q.2.2 (G.2.2.1.1 c) (G.2.2.1.2 c)) ∧
  (∀ k : Nat, 2 ≤ k → k ≤ 6 → ArrOfT U (G.2.2.2.1 k) (z_aty k) ∧ va_RA U (G.2.2.2.1 k) (z_aty k)) ∧
  va_Z "MeshParents" "FACTORIAL" "[I" (.ref G.1.2.1) (fun q => z_b0 G ≤ q) U G.2.2.2.2 ∧
  va_T .int G.1.2.1 9 (fun j => .int (z_fct j)) (fun q => z_b0 G ≤ q) U G.2.2.2.2 ∧
  (va_X G.1.2.2 G.2.1.1 G.2.1.2 U G.2.2.2.2 ∧ G.1.2.2 < z_b0 G ∧ G.2.2.2.2.size = z_b0 G ∧ G.2.1.1 < 2 ^ 31) ∧
  (∀ q ∈ z_nest, va_Nw (.methodLinkNest q.1 q.2.1 q.2.2.1 q.2.2.2) U) ∧
  (va_AO "MeshParents$Node" U ∧ va_AO "MeshParents$Link" U ∧ va_AO "MeshParents$Mesh" U)
theorem z_Kn.moved {G : ZG} {u U : State} (hvm : u.vm.Alike U.vm) (hn : ∀ q ∈ z_nest, va_Nw (.methodLinkNest q.1 q.2.1 q.2.2.1 q.2.2.2) U) (h : z_Kn G u) : z_Kn G U := by
  obtain ⟨h1, h2, h3, h4, ⟨h5, h5b⟩, h6, h7a, h7b, h7c⟩ := h
  exact ⟨fun c q hq => u_Kn_moved hvm (h1 c q hq), fun k a b => ⟨arrOfT_moved hvm (h2 k a b).1, (h2 k a b).2.moved hvm⟩, h3.moved hvm, h4.moved hvm, ⟨h5.moved hvm, h5b⟩, hn, h7a.moved hvm, h7b.moved hvm, h7c.moved hvm⟩
theorem z_Kn.warm {G : ZG} {s U : State} (hW : s.WarmedH U.vm) (h : z_Kn G s) : z_Kn G U := h.moved hW.alike (fun q hq => (h.2.2.2.2.2.1 q hq).warmM hW)
theorem z_Kn.same {G : ZG} {u U : State} (hv : u.vm = U.vm) (h : z_Kn G u) : z_Kn G U := h.moved (by rw [hv]; exact Vm.Alike.refl _) (fun q hq => (h.2.2.2.2.2.1 q hq).same rfl hv)
def z_ws (mid : Nat) : List Cond := z_cw mid :: z_tb
def z_lv (G : ZG) (nL : Nat) (ls : Array Slot) (L : ZL) : Prop := (ls.size = nL ∧ lv_wf ls) ∧ ∀ (k : Nat) (v : Value), z_lg k L = some v → ls[k]? = some (.val (z_em G v))
def z_Std (mid : Nat) (p : Program) (s : State) (m : MethodId) (args : Array Value) (meth : Method) (c : Code) : Prop :=
  (p.tables.exec = Jvm.exec ∧ c.code = z_mc mid) ∧ c.maxLocals = z_mL mid ∧ meth.sig.returnType = z_mr mid ∧ (∀ w ∈ z_tb, w.before args s = true) ∧ s.vm.findClass (z_my mid).cls = some m.cls ∧ meth.locks = false ∧ meth.name = (z_my mid).name
def z_Cn (mid : Nat) (z0 : Nat × Nat) (M : ZM) (cells slots : Nat) : Prop := (M.2.2.2.2.1 = z0.1 + cells ∧ M.2.2.2.2.2 = z0.2 + slots) ∧ cells ≤ (z_rm mid).cells ∧ slots ≤ (z_rm mid).slots
/-- a method's end: its instruction, and the answer -/
def z_rt (mid pc : Nat) : Option Value → Prop
  | none => decode (z_mc mid) pc = .ok (.return_, 1) ∧ z_mr mid = none
  | some (.int x) => decode (z_mc mid) pc = .ok (.ireturn, 1) ∧ ∃ ty, z_mr mid = some ty ∧ narrow ty (.int x) = .int x
  | some (.long _) => decode (z_mc mid) pc = .ok (.lreturn, 1) ∧ z_mr mid = some .long
  | _ => False
def z_Rets (l : Launch) (G : ZG) (mid : Nat) (z0 : Nat × Nat) (Rt : ZR) (p : Program) (e : Env) (s : State) (m : MethodId) (args : Array Value) (below : List Frame) (meth : Method) (c : Code) (Z : State → Prop) : Prop :=
  ∀ (pc : Nat) (ls : Array Slot) (H : Heap) (locs : List Loc) (cells slots : Nat) (v : Option Value) (M : ZM), z_rt mid pc v → z_Mo G M H → Rt v M → (∀ q ∈ locs, z_b0 G ≤ q.base) → z_Cn mid z0 M cells slots →
    W p l e (z_rm mid) s m args below meth c H locs cells slots Z (F0 m pc ls v.toList)
def z_W (l : Launch) (G : ZG) (mid : Nat) (z0 : Nat × Nat) (Rt : ZR) (pc : Nat) (L : ZL) (st : List Value) (M : ZM) : Prop :=
  ∀ (p : Program) (e : Env) (s : State) (m : MethodId) (args : Array Value) (below : List Frame) (meth : Method) (c : Code) (H : Heap) (locs : List Loc) (cells slots : Nat) (ls : Array Slot) (Z : State → Prop),
    z_Std mid p s m args meth c → z_Kn G s → z_Mo G M H → z_lv G (z_mL mid) ls L → (∀ q ∈ locs, z_b0 G ≤ q.base) → z_Cn mid z0 M cells slots → z_Rets l G mid z0 Rt p e s m args below meth c Z →
    W p l e (z_rm mid) s m args below meth c H locs cells slots Z (F0 m pc ls (st.map (z_em G)))
/-- a method's answer and the memory behind it -/
def z_Qc (G : ZG) (mid : Nat) (M : ZM) (Q : ZR) : Array Value → State → Outcome → State → Prop := fun _ _ o t => ∃ (r : Option Value) (M' : ZM), (o = .returned r ∧ Q r M' ∧ z_Mo G M' t.heap) ∧ (M'.2.2.2.2.1 = M.2.2.2.2.1 + (z_rm mid).cells ∧ M'.2.2.2.2.2 = M.2.2.2.2.2 + (z_rm mid).slots) ∧ ∀ x, r ≠ some (.ref x)
/-- a method, called with these arguments in this memory, comes to its end with Q -/
def z_Ok (l : Launch) (G : ZG) (mid : Nat) (as : List Value) (M : ZM) (Q : ZR) : Prop :=
  Met l (z_my mid) (z_ws mid) (z_rm mid) (fun v U => v = (as.map (z_em G)).toArray ∧ z_Mo G M U.heap ∧ z_Kn G U) (z_Qc G mid M Q) (z_rm mid).cells (z_rm mid).slots (fun q => z_b0 G ≤ q)
/-! locals -/
theorem z_cat (G : ZG) (v : Value) : (z_em G v).category = v.category := by cases v <;> rfl
theorem z_kl_some {x : Option Value} {w : Value} (h : z_kl x = some w) : x = some w ∧ w.category = 1 := by
  cases x with
  | none => cases h
  | some v => cases v <;> first | (simp [z_kl] at h; done) | (simp only [z_kl] at h; cases h; exact ⟨rfl, rfl⟩)
theorem z_lg_s1 : ∀ (L : ZL) (i k : Nat) (v w : Value), z_lg k (z_s1 i v L) = some w → (k = i ∧ w = v) ∨ (k ≠ i ∧ z_lg k L = some w ∧ ¬ (k + 1 = i ∧ w.category = 2))
  | [], i, k, v, w, h => by cases i <;> simp [z_s1, z_lg] at h
  | a :: t, 0, 0, v, w, h => by simp only [z_s1, z_lg] at h; cases h; exact Or.inl ⟨rfl, rfl⟩
  | a :: t, 0, k + 1, v, w, h => by simp only [z_s1, z_lg] at h; exact Or.inr ⟨by omega, h, by omega⟩
  | a :: t, 1, 0, v, w, h => by
    simp only [z_s1, z_lg] at h
    obtain ⟨h1, h2⟩ := z_kl_some h
    exact Or.inr ⟨by omega, by simpa [z_lg] using h1, by omega⟩
  | a :: t, 1, k + 1, v, w, h => by
    simp only [z_s1, z_lg] at h
    rcases z_lg_s1 t 0 k v w h with ⟨h1, h2⟩ | ⟨h1, h2, h3⟩
    · exact Or.inl ⟨by omega, h2⟩
    · exact Or.inr ⟨by omega, by simpa [z_lg] using h2, by omega⟩
  | a :: t, n + 2, 0, v, w, h => by simp only [z_s1, z_lg] at h; exact Or.inr ⟨by omega, by simpa [z_lg] using h, by omega⟩
  | a :: t, n + 2, k + 1, v, w, h => by
    simp only [z_s1, z_lg] at h
    rcases z_lg_s1 t (n + 1) k v w h with ⟨h1, h2⟩ | ⟨h1, h2, h3⟩
    · exact Or.inl ⟨by omega, h2⟩
    · exact Or.inr ⟨by omega, by simpa [z_lg] using h2, fun q => h3 ⟨by omega, q.2⟩⟩
theorem z_lg_s2 : ∀ (L : ZL) (i k : Nat) (v w : Value), z_lg k (z_s2 i v L) = some w → (k = i ∧ w = v) ∨ (k ≠ i ∧ k ≠ i + 1 ∧ z_lg k L = some w ∧ ¬ (k + 1 = i ∧ w.category = 2))
  | [], i, k, v, w, h => by cases i <;> simp [z_s2, z_lg] at h
  | [a], 0, k, v, w, h => by simp [z_s2, z_lg] at h
  | a :: b :: t, 0, 0, v, w, h => by simp only [z_s2, z_lg] at h; cases h; exact Or.inl ⟨rfl, rfl⟩
  | a :: b :: t, 0, 1, v, w, h => by simp [z_s2, z_lg] at h
  | a :: b :: t, 0, k + 2, v, w, h => by simp only [z_s2, z_lg] at h; exact Or.inr ⟨by omega, by omega, h, by omega⟩
  | a :: t, 1, 0, v, w, h => by
    simp only [z_s2, z_lg] at h
    obtain ⟨h1, h2⟩ := z_kl_some h
    exact Or.inr ⟨by omega, by omega, by simpa [z_lg] using h1, by omega⟩
  | a :: t, 1, k + 1, v, w, h => by
    simp only [z_s2, z_lg] at h
    rcases z_lg_s2 t 0 k v w h with ⟨h1, h2⟩ | ⟨h1, h1b, h2, h3⟩
    · exact Or.inl ⟨by omega, h2⟩
    · exact Or.inr ⟨by omega, by omega, by simpa [z_lg] using h2, by omega⟩
  | a :: t, n + 2, 0, v, w, h => by simp only [z_s2, z_lg] at h; exact Or.inr ⟨by omega, by omega, by simpa [z_lg] using h, by omega⟩
  | a :: t, n + 2, k + 1, v, w, h => by
    simp only [z_s2, z_lg] at h
    rcases z_lg_s2 t (n + 1) k v w h with ⟨h1, h2⟩ | ⟨h1, h1b, h2, h3⟩
    · exact Or.inl ⟨by omega, h2⟩
    · exact Or.inr ⟨by omega, by omega, by simpa [z_lg] using h2, fun q => h3 ⟨by omega, q.2⟩⟩
theorem z_lg_mk : ∀ (b : List Bool) (L : ZL) (k : Nat) (w : Value), z_lg k (z_mk1 b L) = some w → z_lg k L = some w
  | [], L, k, w, h => by cases L <;> simp [z_mk1, z_lg] at h
  | true :: b, [], k, w, h => by simp [z_mk1, z_lg] at h
  | false :: b, [], k, w, h => by simp [z_mk1, z_lg] at h
  | true :: b, x :: t, 0, w, h => by simpa [z_mk1, z_lg] using h
  | false :: b, x :: t, 0, w, h => by simp [z_mk1, z_lg] at h
  | true :: b, x :: t, k + 1, w, h => by simp only [z_mk1, z_lg] at h; simpa [z_lg] using z_lg_mk b t k w h
  | false :: b, x :: t, k + 1, w, h => by simp only [z_mk1, z_lg] at h; simpa [z_lg] using z_lg_mk b t k w h
/-- the set locals as a list -/
def z_ll (G : ZG) : Nat → ZL → List (Nat × Value)
  | _, [] => []
  | i, some v :: t => (i, z_em G v) :: z_ll G (i + 1) t
  | i, none :: t => z_ll G (i + 1) t
theorem z_ll_mem {G : ZG} : ∀ (L : ZL) (i k : Nat) (w : Value), z_lg k L = some w → (i + k, z_em G w) ∈ z_ll G i L
  | [], i, k, w, h => by simp [z_lg] at h
  | some v :: t, i, 0, w, h => by simp only [z_lg] at h; cases h; exact List.mem_cons_self
  | none :: t, i, 0, w, h => by simp [z_lg] at h
  | some v :: t, i, k + 1, w, h => by
    simp only [z_lg] at h
    have := z_ll_mem (G := G) t (i + 1) k w h
    rw [show i + (k + 1) = i + 1 + k by omega]
    exact List.mem_cons_of_mem _ this
  | none :: t, i, k + 1, w, h => by
    simp only [z_lg] at h
    have := z_ll_mem (G := G) t (i + 1) k w h
    rw [show i + (k + 1) = i + 1 + k by omega]
    exact this
theorem z_ll_of {G : ZG} : ∀ (L : ZL) (i : Nat) (q : Nat × Value), q ∈ z_ll G i L → ∃ (k : Nat) (w : Value), q = (i + k, z_em G w) ∧ z_lg k L = some w
  | [], i, q, h => by simp [z_ll] at h
  | some v :: t, i, q, h => by
    simp only [z_ll] at h
    rcases List.mem_cons.mp h with rfl | h
    · exact ⟨0, v, rfl, rfl⟩
    · obtain ⟨k, w, h1, h2⟩ := z_ll_of t (i + 1) q h
      exact ⟨k + 1, w, by rw [h1, show i + 1 + k = i + (k + 1) by omega], h2⟩
  | none :: t, i, q, h => by
    simp only [z_ll] at h
    obtain ⟨k, w, h1, h2⟩ := z_ll_of t (i + 1) q h
    exact ⟨k + 1, w, by rw [h1, show i + 1 + k = i + (k + 1) by omega], h2⟩
theorem z_lv.has {G : ZG} {nL : Nat} {ls : Array Slot} {L : ZL} (h : z_lv G nL ls L) : lv_has ls nL (z_ll G 0 L) := by
  refine ⟨h.1.1, h.1.2, fun q hq => ?_⟩
  obtain ⟨k, w, rfl, h2⟩ := z_ll_of L 0 q hq
  rw [Nat.zero_add]
  exact h.2 k w h2
theorem z_lv.st1 {G : ZG} {nL : Nat} {ls : Array Slot} {L : ZL} {i : Nat} {v : Value} (h : lv_has ls nL ((i, z_em G v) :: (z_ll G 0 L).filter (fun q => !(q.1 == i) && !(q.1 + 1 == i && q.2.category == 2)))) : z_lv G nL ls (z_s1 i v L) := by
  refine ⟨⟨h.1, h.2.1⟩, fun k w hk => ?_⟩
  rcases z_lg_s1 L i k v w hk with ⟨rfl, rfl⟩ | ⟨h1, h2, h3⟩
  · exact h.2.2 _ List.mem_cons_self
  · refine h.2.2 (k, z_em G w) (List.mem_cons_of_mem _ (List.mem_filter.mpr ⟨?_, ?_⟩))
    · have := z_ll_mem (G := G) L 0 k w h2
      rwa [Nat.zero_add] at this
    · rw [← z_cat G w] at h3
      simp [h1]
      by_cases a : k + 1 = i
      · exact Or.inr fun b => h3 ⟨a, b⟩
      · exact Or.inl a
theorem z_lv.st2 {G : ZG} {nL : Nat} {ls : Array Slot} {L : ZL} {i : Nat} {v : Value} (h : lv_has ls nL ((i, z_em G v) :: (z_ll G 0 L).filter (fun q => !(q.1 == i) && (!(q.1 == i + 1) && !(q.1 + 1 == i && q.2.category == 2))))) : z_lv G nL ls (z_s2 i v L) := by
  refine ⟨⟨h.1, h.2.1⟩, fun k w hk => ?_⟩
  rcases z_lg_s2 L i k v w hk with ⟨rfl, rfl⟩ | ⟨h1, h1b, h2, h3⟩
  · exact h.2.2 _ List.mem_cons_self
  · refine h.2.2 (k, z_em G w) (List.mem_cons_of_mem _ (List.mem_filter.mpr ⟨?_, ?_⟩))
    · have := z_ll_mem (G := G) L 0 k w h2
      rwa [Nat.zero_add] at this
    · rw [← z_cat G w] at h3
      simp [h1, h1b]
      by_cases a : k + 1 = i
      · exact Or.inr fun b => h3 ⟨a, b⟩
      · exact Or.inl a
theorem z_lv.mk {G : ZG} {nL : Nat} {ls : Array Slot} {L : ZL} (b : List Bool) (h : z_lv G nL ls L) : z_lv G nL ls (z_mk1 b L) := ⟨h.1, fun k w hk => h.2 k w (z_lg_mk b L k w hk)⟩
/-! the heap -/
theorem z_ad_inj {G : ZG} {a b : Nat} (ha : 2 ≤ a) (hb : 2 ≤ b) (h : z_ad G a = z_ad G b) : a = b := by
  match a, b, ha, hb, h with
  | a + 2, b + 2, _, _, h => simp only [z_ad] at h; omega
theorem z_ad_ge {G : ZG} {a : Nat} (ha : 2 ≤ a) : z_ad G a = z_b0 G + (a - 2) := by
  match a, ha with
  | a + 2, _ => rfl
theorem z_fv_same {M M' : ZM} {a : Nat} (t k : Nat) (h1 : M'.1 a k = M.1 a k) (h2 : M'.2.1 a k = M.2.1 a k) (h3 : M'.2.2.1 a k = M.2.2.1 a k) : z_fv t M a k = z_fv t M' a k := by
  match t with
  | 0 => show Value.int _ = Value.int _; rw [h1]
  | 1 => show Value.long _ = Value.long _; rw [h3]
  | 2 => show va_rf _ = va_rf _; rw [h2]
  | t + 3 => show Value.int _ = Value.int _; rw [h1]
theorem z_cell.same {G : ZG} {M M' : ZM} {a : Nat} {H H' : Heap} (h : z_cell G M a H) (h1 : ∀ j, M'.1 a j = M.1 a j) (h2 : ∀ j, M'.2.1 a j = M.2.1 a j) (h3 : ∀ j, M'.2.2.1 a j = M.2.2.1 a j) (h4 : M'.2.2.2.1 a = M.2.2.2.1 a) (h5 : (M.2.2.2.1 a).1 ≠ 0 → H'[z_ad G a]? = H[z_ad G a]?) : z_cell G M' a H' := by
  unfold z_cell at h ⊢
  rw [h4]
  generalize hq : M.2.2.2.1 a = q at h h5 ⊢
  obtain ⟨k, n⟩ := q
  have e1 : (fun j => Value.int (M'.1 a j)) = (fun j => Value.int (M.1 a j)) := funext fun j => by rw [h1]
  have e2 : (fun j => z_em G (va_rf (M'.2.1 a j))) = (fun j => z_em G (va_rf (M.2.1 a j))) := funext fun j => by rw [h2]
  match k, h, h5 with
  | 0, _, _ => trivial
  | 1, ⟨r, h6, h7⟩, h5 =>
    refine ⟨r, h6, (h7.kept (h5 (by simp))).to fun k hk => ?_⟩
    congr 1
    exact z_fv_same _ k (h1 k) (h2 k) (h3 k)
  | 2, h, h5 => show H'[_]? = _; rw [e1, h5 (by simp)]; exact h
  | 3, h, h5 => show H'[_]? = _; rw [e1, h5 (by simp)]; exact h
  | k + 4, h, h5 => show H'[_]? = _; rw [e2, h5 (by simp)]; exact h
/-- one cell changes -/
theorem z_Mo.upd {G : ZG} {M M' : ZM} {H H' : Heap} {a : Nat} (h : z_Mo G M H) (ha : (M.2.2.2.1 a).1 ≠ 0) (hT : M'.2.2.2 = M.2.2.2) (hz : H'.size = H.size) (ho : ∀ q : Nat, q ≠ z_ad G a → H'[q]? = H[q]?) (h1 : ∀ b, b ≠ a → ∀ j, M'.1 b j = M.1 b j) (h2 : ∀ b, b ≠ a → ∀ j, M'.2.1 b j = M.2.1 b j) (h3 : ∀ b, b ≠ a → ∀ j, M'.2.2.1 b j = M.2.2.1 b j) (hc : z_cell G M' a H') : z_Mo G M' H' := by
  obtain ⟨⟨q1, q1b⟩, q2, q3, q4⟩ := h
  have h2a := (q3 a ha).1
  refine ⟨⟨by rw [hz, hT]; exact q1, by rw [hT]; exact q1b⟩, fun q hq => ?_, fun b hb => ?_, fun b => ?_⟩
  · rw [ho q (fun e => by rw [z_ad_ge h2a] at e; omega)]
    exact q2 q hq
  · rw [hT] at hb ⊢
    exact q3 b hb
  · by_cases e : b = a
    · subst e; exact hc
    · refine (q4 b).same (h1 b e) (h2 b e) (h3 b e) (by rw [hT]) fun hb => ho _ fun e2 => e (z_ad_inj (q3 b hb).1 h2a e2)
theorem z_loc {G : ZG} {M : ZM} {H : Heap} {a i : Nat} {locs : List Loc} (h : z_Mo G M H) (ha : (M.2.2.2.1 a).1 ≠ 0) (hl : ∀ q ∈ locs, z_b0 G ≤ q.base) : ∀ q ∈ locs ++ [⟨z_ad G a, i⟩], z_b0 G ≤ q.base := by
  intro q hq
  rcases List.mem_append.mp hq with h1 | h1
  · exact hl q h1
  · rw [List.mem_singleton.mp h1]
    show z_b0 G ≤ z_ad G a
    rw [z_ad_ge (h.2.2.1 a ha).1]
    exact Nat.le_add_right _ _
theorem z_Mo.obj {G : ZG} {M : ZM} {H : Heap} {a ci : Nat} (h : z_Mo G M H) (ha : M.2.2.2.1 a = (1, ci)) : ∃ r, z_cls[ci]? = some r ∧ t_OB (z_ad G a) (G.2.2.1.1 ci) r.2.2 (G.2.2.1.2 ci) H (fun k => z_em G (z_fv (z_fk ci k) M a k)) := by
  have := h.2.2.2 a
  unfold z_cell at this
  rw [ha] at this
  exact this
end
section
/-! the rows of single instructions, over the memory -/
section
variable {l : Launch} {G : ZG} {mid : Nat} {z0 : Nat × Nat} {Rt : ZR} {pc : Nat} {L : ZL} {st : List Value} {M : ZM}
theorem z_row {pc' : Nat} {st' : List Value} (row : ∀ {p : Program} {e : Env} {R : Room} {s : State} {m : MethodId} {args : Array Value} {below : List Frame} {meth : Method} {c : Code} {H : Heap} {locs : List Loc} {cells slots : Nat} {Z : State → Prop} {ls : Array Slot}, p.tables.exec = Jvm.exec → c.code = z_mc mid → W p l e R s m args below meth c H locs cells slots Z (F0 m pc' ls (st'.map (z_em G))) → W p l e R s m args below meth c H locs cells slots Z (F0 m pc ls (st.map (z_em G))))
    (h : z_W l G mid z0 Rt pc' L st' M) : z_W l G mid z0 Rt pc L st M :=
  fun p e s m args below meth c H locs cells slots ls Z hS hN hM hl hlo hC hR => row hS.1.1 hS.1.2 (h p e s m args below meth c H locs cells slots ls Z hS hN hM hl hlo hC hR)
theorem z_mask (b : List Bool) (h : z_W l G mid z0 Rt pc (z_mk1 b L) st M) : z_W l G mid z0 Rt pc L st M :=
  fun p e s m args below meth c H locs cells slots ls Z hS hN hM hl hlo hC hR => h p e s m args below meth c H locs cells slots ls Z hS hN hM (hl.mk b) hlo hC hR
theorem s_get {idx ci k ty o : Nat} {r : vw_C} (hd : decode (z_mc mid) pc = .ok (.getfield idx, 3)) (hc : z_cls[ci]? = some r) (hk : k < r.2.2) (hty : z_fk ci k = ty) (hw : Cond.fieldLink (z_my mid).cls idx (r.2.1 k).1 (r.2.1 k).2.1 (r.2.1 k).2.2.1 ∈ z_tb) (ht : M.2.2.2.1 o = (1, ci))
    (h : z_W l G mid z0 Rt (pc + 3) L (z_fv ty M o k :: st) M) : z_W l G mid z0 Rt pc L (.ref o :: st) M := by
  intro p e s m args below meth c H locs cells slots ls Z hS hN hM hl hlo hC hR
  obtain ⟨⟨hx, hb⟩, hml, hr, hts, hown, hlk, hnm⟩ := id hS
  obtain ⟨hin, hnames, ⟨y, hy, hpd⟩, hini, hins⟩ := z_clsok ci r hc
  obtain ⟨r', hr', cell, q1, q2, q3, q4⟩ := hM.obj ht
  obtain rfl : r' = r := Option.some.inj (hr'.symm.trans hc)
  obtain ⟨hSl, hfc, kC, hkC, hkind⟩ := hN.1 ci _ hc
  obtain ⟨cf, kf, fi, f, hi, hsl⟩ := hSl k hk
  refine W.getf hx hb hown (hts _ hw) hi (u_facts hfc hkC (u_lays hts hin hk) hi).1 q1 (by rw [q3]; exact fun h => by cases h) (v := z_em G (z_fv ty M o k)) ?_ rfl rfl hd (h p e s m args below meth c H locs cells slots ls Z hS hN hM hl hlo hC hR)
  rw [hsl, ← hty]
  exact q4 k hk
theorem s_put {idx ci k o : Nat} {v : Value} {M' : ZM} {r : vw_C} {ty : FieldType} (hd : decode (z_mc mid) pc = .ok (.putfield idx, 3)) (hc : z_cls[ci]? = some r) (hk : k < r.2.2) (hw : Cond.fieldLink (z_my mid).cls idx (r.2.1 k).1 (r.2.1 k).2.1 (r.2.1 k).2.2.1 ∈ z_tb) (hfin : (r.2.1 k).2.2.2 = false ∨ ((z_my mid).name = "<init>" ∧ (r.2.1 k).1 = (z_my mid).cls))
    (hpt : parseFieldDescriptor (r.2.1 k).2.2.1 = some ty) (hn : narrow ty (z_em G v) = z_em G v) (hf : fits ty (z_em G v) = true)
    (ht : M.2.2.2.1 o = (1, ci)) (hT : M'.2.2.2 = M.2.2.2) (h1 : ∀ b, b ≠ o → ∀ j, M'.1 b j = M.1 b j) (h2 : ∀ b, b ≠ o → ∀ j, M'.2.1 b j = M.2.1 b j) (h3 : ∀ b, b ≠ o → ∀ j, M'.2.2.1 b j = M.2.2.1 b j)
    (hV : ∀ j, z_fv (z_fk ci j) M' o j = if j = k then v else z_fv (z_fk ci j) M o j)
    (h : z_W l G mid z0 Rt (pc + 3) L st M') : z_W l G mid z0 Rt pc L (v :: .ref o :: st) M := by
  intro p e s m args below meth c H locs cells slots ls Z hS hN hM hl hlo hC hR
  obtain ⟨⟨hx, hb⟩, hml, hr, hts, hown, hlk, hnm⟩ := id hS
  obtain ⟨hin, hnames, ⟨y, hy, hpd⟩, hini, hins⟩ := z_clsok ci r hc
  obtain ⟨r', hr', cell, q1, q2, q3, q4⟩ := hM.obj ht
  obtain rfl : r' = r := Option.some.inj (hr'.symm.trans hc)
  obtain ⟨hSl, hfc, kC, hkC, hkind⟩ := hN.1 ci _ hc
  have hap : ∀ x y, x < r'.2.2 → y < r'.2.2 → x ≠ y → (G.2.2.1.2 ci) x ≠ (G.2.2.1.2 ci) y := by
    intro x y' hx' hy' hne
    obtain ⟨_, _, _, fa, hia, ea⟩ := hSl x hx'
    obtain ⟨_, _, _, fb, hib, eb⟩ := hSl y' hy'
    rw [← ea, ← eb]
    refine u_apart (u_lays hts hin hx') (u_lays hts hin hy') hia hib ?_
    rw [(State.fieldFound?_type hia (hpd x hx')).1, (State.fieldFound?_type hib (hpd y' hy')).1]
    exact hnames x hx' y' hy' hne
  obtain ⟨cf, kf, fi, f, hi, hsl⟩ := hSl k hk
  have hlay := hts _ (hin _ (u_in_lay hk))
  have hst := (u_facts hfc hkC (u_lays hts hin hk) hi).1
  have goal : ∀ H' : Heap, H'[z_ad G o]? = some (cell.setSlot f.slot (z_em G v)) → H'.size = H.size → (∀ q, q ≠ z_ad G o → H'[q]? = H[q]?) → W p l e (z_rm mid) s m args below meth c H' (locs ++ [⟨z_ad G o, f.slot⟩]) cells slots Z (F0 m (pc + 3) ls (st.map (z_em G))) := by
    intro H' e1 e2 e3
    refine h p e s m args below meth c H' _ cells slots ls Z hS hN (hM.upd (by rw [ht]; simp) hT e2 e3 h1 h2 h3 ?_) hl (z_loc hM (by rw [ht]; simp) hlo) ⟨by rw [hT]; exact hC.1, hC.2⟩ hR
    unfold z_cell
    rw [hT, ht]
    refine ⟨_, hc, ?_⟩
    rw [hsl] at e1
    refine t_OB.to (V := updV (fun k => z_em G (z_fv (z_fk ci k) M o k)) k (z_em G v)) ⟨_, e1, q2, q3, t_set q4 hap hk _⟩ (fun j _ => ?_)
    show (if j = k then _ else _) = _
    rw [hV j]
    by_cases e : j = k
    · rw [if_pos e, if_pos e]
    · rw [if_neg e, if_neg e]
  have hhs : f.slot < cell.slots.size := by rw [hsl]; exact k2_hasslot (q4 k hk)
  unfold u_lay at hlay
  cases hF : (r'.2.1 k).2.2.2 with
  | false =>
    rw [if_neg (by rw [hF]; decide)] at hlay
    have h6 := u_store hfc hkC hkind hlay hi hpt hn hf
    exact W.putK hx hb (f := f) ⟨hown, hts _ hw, ⟨_, _, _, hi⟩, hst⟩ (by rw [q2]; exact h6) q1 q3 hhs rfl rfl hd goal
  | true =>
    rcases hfin with h9 | ⟨h9, h9b⟩
    · rw [hF] at h9; cases h9
    rw [if_pos hF] at hlay
    have hcf : m.cls = cf := by
      obtain ⟨_, _, c', _, _, _, -, -, hf', -, -, -, hown2, -⟩ := Cond.laysFinal_spec hlay
      have e1 : c' = cf := by have := hi.symm.trans hf'; simp at this; exact this.1.symm
      rw [h9b] at hown2
      rw [← e1]; exact Option.some.inj (hown.symm.trans hown2)
    have h6 := u_fits hfc hkC hkind (Or.inr hlay) hi hpt hn hf
    exact W.putFinK hx hb hown (hts _ hw) hi hst hcf (hnm.trans h9) (by rw [q2]; exact h6) q1 q3 hhs rfl rfl hd goal
/-! arrays -/
theorem z_Mo.arr {H : Heap} {a k n : Nat} (h : z_Mo G M H) (ha : M.2.2.2.1 a = (k, n)) (hk : k = 2 ∨ k = 3) : H[z_ad G a]? = some (arrV (G.2.2.2.1 k) n (fun j => .int (M.1 a j))) := by
  have := h.2.2.2 a
  unfold z_cell at this
  rw [ha] at this
  rcases hk with rfl | rfl <;> exact this
theorem z_Mo.arq {H : Heap} {a k n : Nat} (h : z_Mo G M H) (ha : M.2.2.2.1 a = (k, n)) (hk : 4 ≤ k) : H[z_ad G a]? = some (arrV (G.2.2.2.1 k) n (fun j => z_em G (va_rf (M.2.1 a j)))) := by
  have := h.2.2.2 a
  unfold z_cell at this
  rw [ha] at this
  match k, hk, this with
  | k + 4, _, this => exact this
theorem z_cell_arq {M : ZM} {H : Heap} {a k n : Nat} (ha : M.2.2.2.1 a = (k, n)) (hk : 4 ≤ k) (h : H[z_ad G a]? = some (arrV (G.2.2.2.1 k) n (fun j => z_em G (va_rf (M.2.1 a j))))) : z_cell G M a H := by
  unfold z_cell
  rw [ha]
  match k, hk, h with
  | k + 4, _, h => exact h
theorem z_upR {M : ZM} {H H' : Heap} {o k n v : Nat} {i : Int32} (hM : z_Mo G M H) (ht : M.2.2.2.1 o = (k, n)) (hk : 4 ≤ k) (e1 : H'[z_ad G o]? = some ((arrV (G.2.2.2.1 k) n (fun j => z_em G (va_rf (M.2.1 o j)))).setSlot i.toNatClampNeg (.ref (z_ad G v)))) (e2 : H'.size = H.size) (e3 : ∀ q, q ≠ z_ad G o → H'[q]? = H[q]?) : z_Mo G (M.1, z_uR M.2.1 o (z_ix i) (some v), M.2.2) H' := by
  refine hM.upd (a := o) (by rw [ht]; show k ≠ 0; omega) rfl e2 e3 (fun _ _ _ => rfl) (fun b hb j => if_neg (fun q => hb q.1)) (fun _ _ _ => rfl) (z_cell_arq (k := k) (n := n) ht hk ?_)
  rw [e1, arrV_store]
  congr 2
  funext j
  show updV _ _ _ j = z_em G (va_rf (z_uR M.2.1 o (z_ix i) (some v) o j))
  unfold updV z_uR z_ix
  by_cases hj : j = i.toNatClampNeg
  · rw [if_pos hj, if_pos ⟨rfl, hj⟩]; rfl
  · rw [if_neg hj, if_neg (fun q => hj q.2)]
theorem z_in_lt {i : Int32} {n : Nat} (h : vp_in i n) : i.toNatClampNeg < n := Nat.not_le.mp fun q => h (Or.inr q)
theorem s_iald {o n : Nat} {i : Int32} (hd : decode (z_mc mid) pc = .ok (.iaload, 1)) (ht : M.2.2.2.1 o = (2, n)) (hi : vp_in i n) (h : z_W l G mid z0 Rt (pc + 1) L (.int (M.1 o (z_ix i)) :: st) M) : z_W l G mid z0 Rt pc L (.int i :: .ref o :: st) M := by
  intro p e s m args below meth c H locs cells slots ls Z hS hN hM hl hlo hC hR
  exact W.iald (v := .int (M.1 o (z_ix i))) hS.1.1 hS.1.2 (hM.arr ht (Or.inl rfl)) ((hN.2.1 2 (by omega) (by omega)).1 n _) (fun q => by cases q) (by rw [arrV_size]; exact hi) (by rw [arrV_read _ _ (z_in_lt hi)]; rfl) rfl rfl hd (h p e s m args below meth c H locs cells slots ls Z hS hN hM hl hlo hC hR)
theorem s_zald {o n : Nat} {i : Int32} (hd : decode (z_mc mid) pc = .ok (.baload, 1)) (ht : M.2.2.2.1 o = (3, n)) (hi : vp_in i n) (h : z_W l G mid z0 Rt (pc + 1) L (.int (M.1 o (z_ix i)) :: st) M) : z_W l G mid z0 Rt pc L (.int i :: .ref o :: st) M := by
  intro p e s m args below meth c H locs cells slots ls Z hS hN hM hl hlo hC hR
  exact W.zald (v := .int (M.1 o (z_ix i))) hS.1.1 hS.1.2 (hM.arr ht (Or.inr rfl)) ((hN.2.1 3 (by omega) (by omega)).1 n _) (fun q => by cases q) (by rw [arrV_size]; exact hi) (by rw [arrV_read _ _ (z_in_lt hi)]; rfl) rfl rfl hd (h p e s m args below meth c H locs cells slots ls Z hS hN hM hl hlo hC hR)
theorem z_atyR {k : Nat} (hk : 4 ≤ k) : (z_aty k).isReference = true := by
  match k, hk with
  | 4, _ => rfl
  | 5, _ => rfl
  | k + 6, _ => rfl
theorem s_aald {o k n : Nat} {i : Int32} (hd : decode (z_mc mid) pc = .ok (.aaload, 1)) (ht : M.2.2.2.1 o = (k, n)) (hk : 4 ≤ k ∧ k ≤ 6) (hi : vp_in i n) (h : z_W l G mid z0 Rt (pc + 1) L (va_rf (M.2.1 o (z_ix i)) :: st) M) : z_W l G mid z0 Rt pc L (.int i :: .ref o :: st) M := by
  intro p e s m args below meth c H locs cells slots ls Z hS hN hM hl hlo hC hR
  exact W.aald (v := z_em G (va_rf (M.2.1 o (z_ix i)))) hS.1.1 hS.1.2 (hM.arq ht hk.1) ((hN.2.1 k (by omega) hk.2).1 n _) (z_atyR hk.1) (fun q => by cases q) (by rw [arrV_size]; exact hi) (by rw [arrV_read _ _ (z_in_lt hi)]; rfl) rfl rfl hd (h p e s m args below meth c H locs cells slots ls Z hS hN hM hl hlo hC hR)
theorem s_iast {o n : Nat} {i x : Int32} (hd : decode (z_mc mid) pc = .ok (.iastore, 1)) (ht : M.2.2.2.1 o = (2, n)) (hi : vp_in i n) (h : z_W l G mid z0 Rt (pc + 1) L st (z_u2 M.1 o (z_ix i) x, M.2)) : z_W l G mid z0 Rt pc L (.int x :: .int i :: .ref o :: st) M := by
  intro p e s m args below meth c H locs cells slots ls Z hS hN hM hl hlo hC hR
  refine W.iast hS.1.1 hS.1.2 (hM.arr ht (Or.inl rfl)) ((hN.2.1 2 (by omega) (by omega)).1 n _) (fun q => by cases q) (by rw [arrV_size]; exact hi) rfl rfl hd fun H' e1 e2 e3 => ?_
  refine h p e s m args below meth c H' _ cells slots ls Z hS hN (hM.upd (by rw [ht]; simp) rfl e2 e3 (fun b hb j => if_neg (fun q => hb q.1)) (fun _ _ _ => rfl) (fun _ _ _ => rfl) ?_) hl (z_loc hM (by rw [ht]; simp) hlo) hC hR
  unfold z_cell
  show match (M.2.2.2.1 o).1 with | 0 => _ | 1 => _ | 2 => _ | 3 => _ | k + 4 => _
  rw [ht]
  show H'[_]? = _
  rw [e1, arrV_store]
  congr 2
  funext j
  show updV _ _ _ j = Value.int (z_u2 M.1 o (z_ix i) x o j)
  unfold updV z_u2 z_ix
  by_cases hj : j = i.toNatClampNeg
  · rw [if_pos hj, if_pos ⟨rfl, hj⟩]
  · rw [if_neg hj, if_neg (fun q => hj q.2)]
theorem s_zast {o n : Nat} {i x : Int32} (hd : decode (z_mc mid) pc = .ok (.bastore, 1)) (ht : M.2.2.2.1 o = (3, n)) (hi : vp_in i n) (hx01 : x = 0 ∨ x = 1) (h : z_W l G mid z0 Rt (pc + 1) L st (z_u2 M.1 o (z_ix i) x, M.2)) : z_W l G mid z0 Rt pc L (.int x :: .int i :: .ref o :: st) M := by
  intro p e s m args below meth c H locs cells slots ls Z hS hN hM hl hlo hC hR
  have hn : narrow .boolean (.int x) = .int x := by rcases hx01 with rfl | rfl <;> rfl
  refine W.zast hS.1.1 hS.1.2 (hM.arr ht (Or.inr rfl)) ((hN.2.1 3 (by omega) (by omega)).1 n _) (fun q => by cases q) (by rw [arrV_size]; exact hi) rfl rfl hd fun H' e1 e2 e3 => ?_
  refine h p e s m args below meth c H' _ cells slots ls Z hS hN (hM.upd (by rw [ht]; simp) rfl e2 e3 (fun b hb j => if_neg (fun q => hb q.1)) (fun _ _ _ => rfl) (fun _ _ _ => rfl) ?_) hl (z_loc hM (by rw [ht]; simp) hlo) hC hR
  unfold z_cell
  show match (M.2.2.2.1 o).1 with | 0 => _ | 1 => _ | 2 => _ | 3 => _ | k + 4 => _
  rw [ht]
  show H'[_]? = _
  rw [e1, arrV_store, hn]
  congr 2
  funext j
  show updV _ _ _ j = Value.int (z_u2 M.1 o (z_ix i) x o j)
  unfold updV z_u2 z_ix
  by_cases hj : j = i.toNatClampNeg
  · rw [if_pos hj, if_pos ⟨rfl, hj⟩]
  · rw [if_neg hj, if_neg (fun q => hj q.2)]
theorem z_acOk {k : Nat} (hk : 4 ≤ k ∧ k ≤ 6) : ∃ r : vw_C, z_cls[z_ac k]? = some r ∧ z_aty k = .object r.1 := by
  obtain ⟨h1, h2⟩ := hk
  rcases (show k = 4 ∨ k = 5 ∨ k = 6 by omega) with rfl | rfl | rfl <;> exact ⟨_, rfl, rfl⟩
theorem s_aast {o v k n : Nat} {i : Int32} (hd : decode (z_mc mid) pc = .ok (.aastore, 1)) (ht : M.2.2.2.1 o = (k, n)) (hk : 4 ≤ k ∧ k ≤ 6) (hi : vp_in i n) (hv : M.2.2.2.1 v = (1, z_ac k)) (h : z_W l G mid z0 Rt (pc + 1) L st (M.1, z_uR M.2.1 o (z_ix i) (some v), M.2.2)) : z_W l G mid z0 Rt pc L (.ref v :: .int i :: .ref o :: st) M := by
  intro p e s m args below meth c H locs cells slots ls Z hS hN hM hl hlo hC hR
  obtain ⟨r, hr, hro⟩ := z_acOk hk
  obtain ⟨r', hr', cellV, g1, g2, g3, -⟩ := hM.obj hv
  have hcls := (hN.1 (z_ac k) r hr).2
  have hra := (hN.2.1 k (by omega) hk.2).2
  rw [hro] at hra
  obtain ⟨kA, comp, k1, k2, k3, -⟩ := hra
  have hcomp : comp = G.2.2.1.1 (z_ac k) := Option.some.inj (k3.symm.trans hcls.1)
  subst hcomp
  obtain ⟨kC, hkC, -⟩ := hcls.2
  refine W.aast hS.1.1 hS.1.2 (hM.arq ht hk.1) (fun q h => by cases h) (fun h => by cases h) k1 k2 rfl hkC ⟨fun q => hi (Or.inl q), by rw [arrV_size]; exact z_in_lt hi⟩ g1 (fun q h => by rw [g3] at h; cases h) (by rw [g2]; exact hkC) (by rw [g2]; exact va_assign hcls) rfl rfl hd fun H' e1 e2 e3 => ?_
  exact h p e s m args below meth c H' _ cells slots ls Z hS hN (z_upR hM ht hk.1 e1 e2 e3) hl (z_loc hM (by rw [ht]; show k ≠ 0; omega) hlo) hC hR
/-! new cells -/
theorem z_ad_new {H : Heap} (h : z_Mo G M H) : z_ad G M.2.2.2.2.1 = H.size := by
  rw [z_ad_ge h.1.2]
  have := h.1.1
  have := h.1.2
  omega
theorem z_Mo.new {H H' : Heap} {t : Nat × Nat} {n : Nat} (h : z_Mo G M H) (hz : H'.size = H.size + 1) (ho : ∀ q : Nat, q < H.size → H'[q]? = H[q]?) (hc : z_cell G (z_nw M t n) M.2.2.2.2.1 H') : z_Mo G (z_nw M t n) H' := by
  obtain ⟨⟨q1, q1b⟩, q2, q3, q4⟩ := id h
  refine ⟨⟨?_, ?_⟩, fun q hq => ?_, fun b hb => ?_, fun b => ?_⟩
  · show H'.size + 2 = z_b0 G + (M.2.2.2.2.1 + 1); omega
  · show 2 ≤ M.2.2.2.2.1 + 1; omega
  · rw [ho q (by omega)]; exact q2 q hq
  · show 2 ≤ b ∧ b < M.2.2.2.2.1 + 1
    by_cases e : b = M.2.2.2.2.1
    · omega
    · have hb2 : ((z_nw M t n).2.2.2.1 b).1 = (M.2.2.2.1 b).1 := by show (if _ then _ else _ : Nat × Nat).1 = _; rw [if_neg e]
      rw [hb2] at hb
      have := q3 b hb
      omega
  · by_cases e : b = M.2.2.2.2.1
    · rw [e]; exact hc
    · refine (q4 b).same (fun j => if_neg e) (fun j => if_neg e) (fun j => if_neg e) (if_neg e) fun hb => ho _ ?_
      have := q3 b hb
      rw [z_ad_ge this.1]
      omega
theorem s_new {idx ci : Nat} {r : vw_C} (hd : decode (z_mc mid) pc = .ok (.new idx, 3)) (hc : z_cls[ci]? = some r) (hw : Cond.classLink (z_my mid).cls idx r.1 ∈ z_tb) (hrm : z_rmk (z_rm mid) z0 M 1 r.2.2) (h : z_W l G mid z0 Rt (pc + 3) L (.ref M.2.2.2.2.1 :: st) (z_nw M (1, ci) r.2.2)) : z_W l G mid z0 Rt pc L st M := by
  intro p e s m args below meth c H locs cells slots ls Z hS hN hM hl hlo hC hR
  obtain ⟨⟨hx, hb⟩, hml, hr, hts, hown, hlk, hnm⟩ := id hS
  obtain ⟨hin, hnames, ⟨y, hy, hpd⟩, hini, hins⟩ := z_clsok ci r hc
  have hKn := hN.1 ci _ hc
  obtain ⟨r1, r2⟩ := hrm
  obtain ⟨⟨c1, c2⟩, c3, c4⟩ := hC
  refine W.newcK hx hb hown (hts _ hw) (hts _ hins) (hts _ hini) rfl hd (by omega) (by omega) hKn.2.1 rfl fun H1 kC hkC e1 z1 o1 => ?_
  have e9 : (F0 m (pc + 3) ls (Value.ref H.size :: st.map (z_em G))) = F0 m (pc + 3) ls ((Value.ref M.2.2.2.2.1 :: st).map (z_em G)) := by
    show F0 _ _ _ _ = F0 m (pc + 3) ls (Value.ref (z_ad G M.2.2.2.2.1) :: st.map (z_em G))
    rw [z_ad_new hM]
  refine W.eq e9 (h p e s m args below meth c H1 locs (cells + 1) (slots + r.2.2) ls Z hS hN (hM.new z1 o1 ?_) hl hlo ⟨⟨by show _ + 1 = _; omega, by show _ + r.2.2 = _; omega⟩, by omega, by omega⟩ hR)
  unfold z_cell
  have ht : (z_nw M (1, ci) r.2.2).2.2.2.1 M.2.2.2.2.1 = (1, ci) := if_pos rfl
  rw [ht, z_ad_new hM]
  refine ⟨r, hc, (u_born y hts hin hKn hkC e1 hpd).to fun k hk => ?_⟩
  show defaultValue (y k) = _
  have : z_fk ci k = z_kd (y k) := by unfold z_fk; rw [hy]
  rw [show (1, ci).2 = ci from rfl, this]
  have hz : (z_nw M (1, ci) r.2.2).1 M.2.2.2.2.1 k = 0 ∧ (z_nw M (1, ci) r.2.2).2.1 M.2.2.2.2.1 k = none ∧ (z_nw M (1, ci) r.2.2).2.2.1 M.2.2.2.2.1 k = 0 := ⟨if_pos rfl, if_pos rfl, if_pos rfl⟩
  generalize z_nw M (1, ci) r.2.2 = M2 at hz
  have hok : y k ≠ .float ∧ y k ≠ .double := by
    have h9 : ∀ (ci : Nat) (r : vw_C) (y : Nat → FieldType), z_cls[ci]? = some r → z_tys[ci]? = some y → ∀ k, k < r.2.2 → y k ≠ .float ∧ y k ≠ .double := by
      intro ci r y h1 h2
      match ci, h1, h2 with
      | 0, h1, h2 => cases h1; cases h2; decide
      | 1, h1, h2 => cases h1; cases h2; decide
      | 2, h1, h2 => cases h1; cases h2; decide
      | 3, h1, h2 => cases h1; cases h2; decide
      | 4, h1, h2 => cases h1; cases h2; decide
      | 5, h1, h2 => cases h1; cases h2; decide
      | 6, h1, h2 => cases h1; cases h2; decide
      | 7, h1, h2 => cases h1; cases h2; decide +kernel
      | n + 8, h1, h2 => simp [z_cls] at h1
    exact h9 ci r y hc hy k hk
  cases hyk : y k with
  | float => exact absurd hyk hok.1
  | double => exact absurd hyk hok.2
  | long => show Value.long 0 = Value.long (M2.2.2.1 _ _); rw [hz.2.2]
  | array t => show Value.null = z_em G (va_rf (M2.2.1 _ _)); rw [hz.2.1]; rfl
  | object t => show Value.null = z_em G (va_rf (M2.2.1 _ _)); rw [hz.2.1]; rfl
  | _ => show Value.int 0 = Value.int (M2.1 _ _); rw [hz.1]
theorem s_newaP {n : Int32} {at0 : ArrayType} {k : Nat} (hd : decode (z_mc mid) pc = .ok (.newarray at0, 2)) (hk : (at0 = .int ∧ k = 2) ∨ (at0 = .boolean ∧ k = 3)) (hrm : z_rmk (z_rm mid) z0 M 1 (z_ix n)) (hn : ¬ n < 0) (hsm : z_ix n ≤ 65536) (h : z_W l G mid z0 Rt (pc + 2) L (.ref M.2.2.2.2.1 :: st) (z_nw M (k, z_ix n) (z_ix n))) : z_W l G mid z0 Rt pc L (.int n :: st) M := by
  intro p e s m args below meth c H locs cells slots ls Z hS hN hM hl hlo hC hR
  obtain ⟨⟨hx, hb⟩, hml, hr, hts, hown, hlk, hnm⟩ := id hS
  obtain ⟨r1, r2⟩ := hrm
  obtain ⟨⟨c1, c2⟩, c3, c4⟩ := hC
  have hk2 : k = 2 ∨ k = 3 := by rcases hk with h | h <;> omega
  have harr : (Cond.arrayClass (newarray.typeOf at0)).before args s = true := by
    rcases hk with ⟨rfl, -⟩ | ⟨rfl, -⟩
    · exact hts _ z_over_in.2.1
    · exact hts _ z_over_in.2.2
  have hby : z_ix n * componentBytes (newarray.typeOf at0) ≤ 536870912 := by
    rcases hk with ⟨rfl, -⟩ | ⟨rfl, -⟩
    · show z_ix n * 4 ≤ _; omega
    · show z_ix n * 1 ≤ _; omega
  refine va_newaK hx hb harr rfl hd rfl hn rfl hby (by omega) (by show slots + z_ix n ≤ _; omega) rfl fun H1 cA e1 z1 o1 hAr hNm => ?_
  have hcA : cA = G.2.2.2.1 k := by
    rcases hk with ⟨rfl, rfl⟩ | ⟨rfl, rfl⟩
    · exact Option.some.inj (hNm.symm.trans (hN.2.1 2 (by omega) (by omega)).2)
    · exact Option.some.inj (hNm.symm.trans (hN.2.1 3 (by omega) (by omega)).2)
  have e9 : (F0 m (pc + 2) ls (Value.ref H.size :: st.map (z_em G))) = F0 m (pc + 2) ls ((Value.ref M.2.2.2.2.1 :: st).map (z_em G)) := by
    show F0 _ _ _ _ = F0 m (pc + 2) ls (Value.ref (z_ad G M.2.2.2.2.1) :: st.map (z_em G))
    rw [z_ad_new hM]
  refine W.eq e9 (h p e s m args below meth c H1 locs (cells + 1) (slots + z_ix n) ls Z hS hN (hM.new z1 o1 ?_) hl hlo ⟨⟨by show _ + 1 = _; omega, by show _ + z_ix n = _; omega⟩, by omega, by omega⟩ hR)
  unfold z_cell
  have ht : (z_nw M (k, z_ix n) (z_ix n)).2.2.2.1 M.2.2.2.2.1 = (k, z_ix n) := if_pos rfl
  rw [ht, z_ad_new hM]
  have hz : ∀ j, (z_nw M (k, z_ix n) (z_ix n)).1 M.2.2.2.2.1 j = 0 := fun j => if_pos rfl
  generalize z_nw M (k, z_ix n) (z_ix n) = M2 at hz
  have e2 : (fun j => Value.int (M2.1 M.2.2.2.2.1 j)) = fun _ => Value.int 0 := funext fun j => by rw [hz]
  subst hcA
  rcases hk with ⟨rfl, rfl⟩ | ⟨rfl, rfl⟩
  · show H1[_]? = _; rw [e2]; exact e1
  · show H1[_]? = _; rw [e2]; exact e1
theorem s_newaR {n : Int32} {idx k : Nat} (hd : decode (z_mc mid) pc = .ok (.anewarray idx, 3)) (hk : 4 ≤ k ∧ k ≤ 6) {r : vw_C} (hc : z_cls[z_ac k]? = some r) (hw : Cond.classLink (z_my mid).cls idx r.1 ∈ z_tb) (hrm : z_rmk (z_rm mid) z0 M 1 (z_ix n)) (hn : ¬ n < 0) (hsm : z_ix n ≤ 65536) (h : z_W l G mid z0 Rt (pc + 3) L (.ref M.2.2.2.2.1 :: st) (z_nw M (k, z_ix n) (z_ix n))) : z_W l G mid z0 Rt pc L (.int n :: st) M := by
  intro p e s m args below meth c H locs cells slots ls Z hS hN hM hl hlo hC hR
  obtain ⟨⟨hx, hb⟩, hml, hr, hts, hown, hlk, hnm⟩ := id hS
  obtain ⟨r1, r2⟩ := hrm
  obtain ⟨⟨c1, c2⟩, c3, c4⟩ := hC
  obtain ⟨r', hr', hro⟩ := z_acOk hk
  obtain rfl : r' = r := Option.some.inj (hr'.symm.trans hc)
  have hra := (hN.2.1 k (by omega) hk.2).2
  rw [hro] at hra
  obtain ⟨kA0, comp0, k1, k2, k3, k4⟩ := hra
  have hover : va_AO r'.1 s := by
    obtain ⟨-, -, -, -, -, -, ha, hb', hc'⟩ := hN
    obtain ⟨h1, h2⟩ := hk
    rcases (show k = 4 ∨ k = 5 ∨ k = 6 by omega) with rfl | rfl | rfl
    · cases hc; exact ha
    · cases hc; exact hb'
    · cases hc; exact hc'
  refine W.anew hx hb hown (hts _ hw) (va_AO.use hover) rfl hd rfl hn (by show z_ix n * 4 ≤ _; omega) (by omega) (by show slots + z_ix n ≤ _; omega) fun cA kA comp f1 f2 f3 f4 => ?_
  have hcA : cA = G.2.2.2.1 k := Option.some.inj (f1.symm.trans k4)
  generalize hH1 : H.push ({ cls := cA, slots := Array.replicate n.toNatClampNeg .null, vm := .none } : Cell) = H1
  have z1 : H1.size = H.size + 1 := by rw [← hH1, Array.size_push]
  have e1 : H1[H.size]? = some (arrV cA n.toNatClampNeg (fun _ => .null)) := by rw [← hH1, Array.getElem?_push_size, ← arrV_new]
  have o1 : ∀ q : Nat, q < H.size → H1[q]? = H[q]? := fun q hq => by rw [← hH1, Array.getElem?_push, if_neg (Nat.ne_of_lt hq)]
  have e9 : (F0 m (pc + 3) ls (Value.ref H.size :: st.map (z_em G))) = F0 m (pc + 3) ls ((Value.ref M.2.2.2.2.1 :: st).map (z_em G)) := by
    show F0 _ _ _ _ = F0 m (pc + 3) ls (Value.ref (z_ad G M.2.2.2.2.1) :: st.map (z_em G))
    rw [z_ad_new hM]
  refine W.eq e9 (h p e s m args below meth c H1 locs (cells + 1) (slots + z_ix n) ls Z hS hN (hM.new z1 o1 ?_) hl hlo ⟨⟨by show _ + 1 = _; omega, by show _ + z_ix n = _; omega⟩, by omega, by omega⟩ hR)
  unfold z_cell
  have ht : (z_nw M (k, z_ix n) (z_ix n)).2.2.2.1 M.2.2.2.2.1 = (k, z_ix n) := if_pos rfl
  rw [ht, z_ad_new hM]
  have hz : ∀ j, (z_nw M (k, z_ix n) (z_ix n)).2.1 M.2.2.2.2.1 j = none := fun j => if_pos rfl
  generalize z_nw M (k, z_ix n) (z_ix n) = M2 at hz
  have e2 : (fun j => z_em G (va_rf (M2.2.1 M.2.2.2.2.1 j))) = fun _ => Value.null := funext fun j => by rw [hz]; rfl
  subst hcA
  match k, hk, e1 with
  | k + 4, _, e1 => show H1[_]? = _; rw [e2]; exact e1
/-! the class's static array, the law's script -/
theorem s_gets {idx : Nat} (hd : decode (z_mc mid) pc = .ok (.getstatic idx, 3)) (hw : Cond.fieldLink (z_my mid).cls idx "MeshParents" "FACTORIAL" "[I" ∈ z_tb) (h : z_W l G mid z0 Rt (pc + 3) L (.ref 0 :: st) M) : z_W l G mid z0 Rt pc L st M := by
  intro p e s m args below meth c H locs cells slots ls Z hS hN hM hl hlo hC hR
  obtain ⟨⟨hx, hb⟩, hml, hr, hts, hown, hlk, hnm⟩ := id hS
  obtain ⟨cf, kf, fi, f, a, cell, h1, h2, h3, h4, h5, h6, h7, h8⟩ := id hN.2.2.1
  have ha : a < z_b0 G := Nat.not_le.mp h8
  refine W.gets hx hb hown (hts _ hw) h1 h2 h3 h4 (by rw [hM.2.1 a ha]; exact h5) (fun q => by rw [q] at h6; cases h6) h7 rfl hd ?_
  exact h p e s m args below meth c H locs cells slots ls Z hS hN hM hl hlo hC hR
theorem s_ialdF {i : Int32} (hd : decode (z_mc mid) pc = .ok (.iaload, 1)) (hi : vp_in i 9) (h : z_W l G mid z0 Rt (pc + 1) L (.int (z_fct (z_ix i)) :: st) M) : z_W l G mid z0 Rt pc L (.int i :: .ref 0 :: st) M := by
  intro p e s m args below meth c H locs cells slots ls Z hS hN hM hl hlo hC hR
  obtain ⟨cell, h1, h2, h3, h4, h5, h6, h7⟩ := id hN.2.2.2.1
  have ha : G.1.2.1 < z_b0 G := Nat.not_le.mp h7
  have hlt := z_in_lt hi
  exact W.iald (v := .int (z_fct (z_ix i))) hS.1.1 hS.1.2 (a := z_ad G 0) (by show H[G.1.2.1]? = _; rw [hM.2.1 _ ha]; exact h1) h2 h3 (fun q => hi (q.imp id (fun q => Nat.le_trans h4 q))) (h6 _ hlt) rfl rfl hd (h p e s m args below meth c H locs cells slots ls Z hS hN hM hl hlo hC hR)
theorem s_ialdX {i : Int32} (hd : decode (z_mc mid) pc = .ok (.iaload, 1)) (hi : vp_in i G.2.1.1) (h : z_W l G mid z0 Rt (pc + 1) L (.int (G.2.1.2 (z_ix i)) :: st) M) : z_W l G mid z0 Rt pc L (.int i :: .ref 1 :: st) M := by
  intro p e s m args below meth c H locs cells slots ls Z hS hN hM hl hlo hC hR
  obtain ⟨⟨cell, h1, h2, h3, h4, h5⟩, ha, -, -⟩ := id hN.2.2.2.2.1
  have hlt := z_in_lt hi
  exact W.iald (v := .int (G.2.1.2 (z_ix i))) hS.1.1 hS.1.2 (a := z_ad G 1) (by show H[G.1.2.2]? = _; rw [hM.2.1 _ ha]; exact h1) h2 h3 (by rw [h4]; exact hi) (h5 _ hlt) rfl rfl hd (h p e s m args below meth c H locs cells slots ls Z hS hN hM hl hlo hC hR)
theorem s_alen (hd : decode (z_mc mid) pc = .ok (.arraylength, 1)) (h : z_W l G mid z0 Rt (pc + 1) L (.int (nI G.2.1.1) :: st) M) : z_W l G mid z0 Rt pc L (.ref 1 :: st) M := by
  intro p e s m args below meth c H locs cells slots ls Z hS hN hM hl hlo hC hR
  obtain ⟨⟨cell, h1, h2, h3, h4, h5⟩, ha, -, -⟩ := id hN.2.2.2.2.1
  exact W.alen (n := nI G.2.1.1) hS.1.1 hS.1.2 (a := z_ad G 1) (by show H[G.1.2.2]? = _; rw [hM.2.1 _ ha]; exact h1) h2 (by rw [h4]; rfl) rfl rfl hd (h p e s m args below meth c H locs cells slots ls Z hS hN hM hl hlo hC hR)
end
end
section
/-! calls -/
theorem z_pop_spec {k : List Value → List Value → Prop} : ∀ (n : Nat) (acc st : List Value), z_pop n k acc st → ∃ as rest, st = as.reverse ++ rest ∧ as.length = n ∧ k (as ++ acc) rest
  | 0, acc, st, h => ⟨[], st, rfl, rfl, h⟩
  | n + 1, acc, [], h => by simp [z_pop] at h
  | n + 1, acc, v :: st, h => by
    obtain ⟨as, rest, h1, h2, h3⟩ := z_pop_spec n (v :: acc) st h
    refine ⟨as ++ [v], rest, ?_, by simp [h2], by simpa using h3⟩
    rw [h1]; simp
theorem z_sh_sum {G : ZG} {st : List Value} (h : z_sh st) : ((st.map (z_em G)).map fun v => v.category).sum ≤ 8 := by
  have c : ∀ v : Value, v.category ≤ 2 := fun v => by rcases lv_cat v with h | h <;> omega
  match st, h with
  | [], _ => simp
  | [a], _ => have := c (z_em G a); simp; omega
  | [a, b], _ => have := c (z_em G a); have := c (z_em G b); simp; omega
  | [a, b, d], _ => have := c (z_em G a); have := c (z_em G b); have := c (z_em G d); simp; omega
  | [a, b, d, f], _ => have := c (z_em G a); have := c (z_em G b); have := c (z_em G d); have := c (z_em G f); simp; omega
theorem z_good : ∀ w ∈ z_tb, goodWord w = true := fun w h => (List.mem_filter.mp h).2
theorem z_ws_good {mid : Nat} (h : mid < 179) : GoodIn z_tb (z_ws mid) := by
  intro w hw
  have hm : w ∈ z_tb := by
    rcases List.mem_cons.mp hw with rfl | hw
    · exact z_cw_mem h
    · exact hw
  exact ⟨hm, good_of_word (z_good w hm)⟩
theorem z_mk_at {i : Nat} (h : i < 179) : z_mk (z_my i) ((z_mp[i]?).getD (0, 0, 0, 3)) = true := List.all_eq_true.mp z_mk_all i (List.mem_range.mpr h)
def z_okc (mid a : Nat) : Bool := decide (a < 179) && (decide ((z_rm a).frames + 1 ≤ (z_rm mid).frames) && decide (8 + (z_mL a + 11) + (z_rm a).locals ≤ (z_rm mid).locals))
def z_npar (a : Nat) : Option Nat := (parseMethodDescriptor (z_my a).desc).map (fun d => d.parameters.length)
def z_kindOf (a : Nat) : Nat := ((z_mp[a]?).getD (0, 0, 0, 3)).2.2.2
section
variable {l : Launch} {G : ZG} {mid a : Nat} {z0 : Nat × Nat} {Rt : ZR} {pc len : Nat} {L : ZL} {st : List Value} {M : ZM}
/-- behind a call that has run -/
theorem z_goes {p : Program} {e : Env} {s : State} {m : MethodId} {args : Array Value} {below : List Frame} {meth : Method} {c : Code} {H : Heap} {locs : List Loc} {cells slots : Nat} {ls : Array Slot} {Z : State → Prop} {S rest : List Value} {Q : ZR} {arr : Array Value}
    (hr : va_Run p l e (z_rm mid) s m args below meth c H locs cells slots (z_rm a).cells (z_rm a).slots (F0 m pc ls S) (rest.map (z_em G)) (z_Qc G a M Q arr) (fun q => z_b0 G ≤ q))
    (hS : z_Std mid p s m args meth c) (hN : z_Kn G s) (hl : z_lv G (z_mL mid) ls L) (hlo : ∀ q ∈ locs, z_b0 G ≤ q.base) (hC : z_Cn mid z0 M cells slots) (hrm : cells + (z_rm a).cells ≤ (z_rm mid).cells ∧ slots + (z_rm a).slots ≤ (z_rm mid).slots) (hR : z_Rets l G mid z0 Rt p e s m args below meth c Z)
    (hK : ∀ r M', Q r M' → z_W l G mid z0 Rt (pc + 3) L (r.toList ++ rest) M') : W p l e (z_rm mid) s m args below meth c H locs cells slots Z (F0 m pc ls S) := by
  intro T hT X
  obtain ⟨v, st₀, t, T', L1, h0, X', hL, e1, e2, ⟨r, M', ⟨ho, hQ, hM'⟩, ⟨q1, q2⟩, hnr⟩, hgo⟩ := hr T hT X
  have hv : v = r := Outcome.returned.inj ho
  subst hv
  obtain ⟨⟨c1, c2⟩, c3, c4⟩ := hC
  obtain ⟨t2, a1, b1⟩ := hK v M' hQ p e s m args below meth c T'.heap (locs ++ L1) (cells + (z_rm a).cells) (slots + (z_rm a).slots) ls Z hS hN (by rw [e1]; exact hM') hl (fun q hq => by
    rcases List.mem_append.mp hq with h | h
    · exact hlo q h
    · exact hL q h) ⟨⟨by omega, by omega⟩, hrm.1, hrm.2⟩ hR T' rfl X'
  refine ⟨t2, hgo t2 ?_, b1⟩
  have e9 : (v.toList ++ rest).map (z_em G) = v.toList ++ rest.map (z_em G) := by
    cases v with
    | none => rfl
    | some w => cases w <;> first | rfl | exact absurd rfl (hnr _)
  rw [e9] at a1
  exact a1
theorem z_blind {arr : List Value} {M : ZM} : FrameBlind (fun v U => v = (arr.map (z_em G)).toArray ∧ z_Mo G M U.heap ∧ z_Kn G U) := by
  intro v U g mk h
  exact ⟨h.1, h.2.1, h.2.2.same rfl⟩
theorem z_callB {s : State} {args : Array Value} {own : String} {idx n : Nat} (hts : ∀ w ∈ z_tb, w.before args s = true) (ha : a < 179) (hl : Cond.methodLink own idx (z_my a) ∈ z_tb) (hnp : z_npar a = some n) (hfr : (z_rm a).frames + 1 ≤ (z_rm mid).frames ∧ 8 + (z_mL a + 11) + (z_rm a).locals ≤ (z_rm mid).locals) :
    CallB (z_rm mid) s args own idx (z_my a) (z_mc a) (z_mL a) (z_mr a) (z_ws a) (z_rm a) (z_rm a).cells (z_rm a).slots n := by
  have hmk := z_mk_at ha
  simp only [z_mk, Bool.and_eq_true, decide_eq_true_eq] at hmk
  exact callB_of n hts (z_ws_good ha) rfl rfl rfl (hts _ (z_at_mem hmk.1)) (hts _ hl) ⟨hmk.2.1.1, hmk.2.1.2, hnp⟩ hfr
theorem s_callV {idx n ci : Nat} (hd : decode (z_mc mid) pc = .ok (.invokevirtual idx, 3)) (hok : z_okc mid a = true) (hl : Cond.methodLink (z_my mid).cls idx (z_my a) ∈ z_tb) (hnp : z_npar a = some n) (hk : z_kindOf a = 2) (h0 : (z_rm a).cells = 0 ∧ (z_rm a).slots = 0)
    (hcl : ∃ r : vw_C, z_cls[ci]? = some r ∧ r.1 = (z_my a).cls) {K : ZK} (hK : ∀ L st M, K L st M → z_W l G mid z0 Rt (pc + 3) L st M) (h : o_call (z_Ok l G) a (n + 1) (ci + 1) K L st M) : z_W l G mid z0 Rt pc L st M := by
  obtain ⟨as, rest, rfl, hlen, ⟨hrc, hsh⟩, hM⟩ := z_pop_spec _ _ _ h
  rw [List.append_nil] at hrc hM
  intro p e s m args below meth c H locs cells slots ls Z hS hN hMo hlv hlo hC hR
  obtain ⟨⟨hx, hb⟩, hml, hr, hts, hown, hlk, hnm⟩ := id hS
  simp only [z_okc, Bool.and_eq_true, decide_eq_true_eq] at hok
  obtain ⟨ha, hfr⟩ := hok
  match as, hlen, hrc, hM with
  | .ref o :: As, hlen, hrc, hM =>
    have hmk := z_mk_at ha
    simp only [z_mk, Bool.and_eq_true, decide_eq_true_eq] at hmk
    have hk' : ((z_mp[a]?).getD (0, 0, 0, 3)).2.2.2 = 2 := hk
    rw [hk'] at hmk
    simp only [Bool.and_eq_true] at hmk
    obtain ⟨r, hr1, hr2⟩ := hcl
    obtain ⟨r', hr', cell, q1, q2, q3, q4⟩ := hMo.obj (show M.2.2.2.1 o = (1, ci) from hrc)
    have e9 : ((Value.ref o :: As).reverse ++ rest).map (z_em G) = (As.map (z_em G)).reverse ++ .ref (z_ad G o) :: rest.map (z_em G) := by
      simp [z_em]
    rw [e9]
    refine z_goes (rest := rest) (Q := z_af K L rest) (M := M) (a := a) (arr := (Value.ref (z_ad G o) :: As.map (z_em G)).toArray) ?_ hS hN hlv hlo hC ⟨by have := hC.2.1; omega, by have := hC.2.2; omega⟩ hR (fun r M' hq => hK _ _ _ hq)
    exact va_runV (C := (z_my a).cls) (b := z_ad G o) (As := As.map (z_em G)) (n := n) (Ts := z_tb) ⟨hx, hb, hml, hown, hts⟩ hM ⟨z_callB hts ha hl hnp hfr, hts _ (z_at_mem hmk.2.2.1), hts _ (z_at_mem hmk.2.2.2)⟩
      ⟨z_blind, ⟨cell, q1, by rw [q3]; rfl, by rw [q2, ← hr2]; exact (hN.1 ci r hr1).2.1⟩, fun U hU hW => ⟨by simp [z_em], by rw [hU]; exact hMo, hN.warm hW⟩⟩ rfl (by simp at hlen; simp [hlen]) hlv.1.1 rfl (lv_room (z_sh_sum hsh)) hd ⟨by have := hC.2.1; omega, by have := hC.2.2; omega⟩
theorem s_callS {idx n : Nat} (hd : decode (z_mc mid) pc = .ok (.invokestatic idx, 3)) (hok : z_okc mid a = true) (hl : Cond.methodLink (z_my mid).cls idx (z_my a) ∈ z_tb) (hnp : z_npar a = some n) (hk : z_kindOf a = 0) (h0 : (z_rm a).cells = 0 ∧ (z_rm a).slots = 0)
    {K : ZK} (hK : ∀ L st M, K L st M → z_W l G mid z0 Rt (pc + 3) L st M) (h : o_call (z_Ok l G) a n 0 K L st M) : z_W l G mid z0 Rt pc L st M := by
  obtain ⟨as, rest, rfl, hlen, ⟨hrc, hsh⟩, hM⟩ := z_pop_spec _ _ _ h
  rw [List.append_nil] at hrc hM
  intro p e s m args below meth c H locs cells slots ls Z hS hN hMo hlv hlo hC hR
  obtain ⟨⟨hx, hb⟩, hml, hr, hts, hown, hlk, hnm⟩ := id hS
  simp only [z_okc, Bool.and_eq_true, decide_eq_true_eq] at hok
  obtain ⟨ha, hfr⟩ := hok
  have hmk := z_mk_at ha
  simp only [z_mk, Bool.and_eq_true, decide_eq_true_eq] at hmk
  have hk' : ((z_mp[a]?).getD (0, 0, 0, 3)).2.2.2 = 0 := hk
  rw [hk'] at hmk
  have e9 : (as.reverse ++ rest).map (z_em G) = (as.map (z_em G)).reverse ++ rest.map (z_em G) := by simp
  rw [e9]
  refine z_goes (rest := rest) (Q := z_af K L rest) (M := M) (a := a) (arr := (as.map (z_em G)).toArray) ?_ hS hN hlv hlo hC ⟨by have := hC.2.1; omega, by have := hC.2.2; omega⟩ hR (fun r M' hq => hK _ _ _ hq)
  exact va_runS (As := as.map (z_em G)) (n := n) (Ts := z_tb) ⟨hx, hb, hml, hown, hts⟩ hM ⟨z_callB hts ha hl hnp hfr, hts _ (z_at_mem hmk.2.2)⟩
    ⟨z_blind, fun U hU hW => ⟨rfl, by rw [hU]; exact hMo, hN.warm hW⟩⟩ rfl (by simp [hlen]) hlv.1.1 rfl (lv_room (z_sh_sum hsh)) hd ⟨by have := hC.2.1; omega, by have := hC.2.2; omega⟩
theorem s_callI {idx n c9 : Nat} (hd : decode (z_mc mid) pc = .ok (.invokespecial idx, 3)) (hok : z_okc mid a = true) (hl : Cond.methodLink (z_my mid).cls idx (z_my a) ∈ z_tb ∨ ∃ host, ((z_my mid).cls, idx, z_my a, host) ∈ z_nest) (hnp : z_npar a = some n) (hk : z_kindOf a = 1) (hret : z_mr a = none)
    {K : ZK} (hK : ∀ L st M, K L st M → z_W l G mid z0 Rt (pc + 3) L st M) (h : o_callN (z_Ok l G) (z_rm mid) z0 a (n + 1) (c9 + 1) K L st M) : z_W l G mid z0 Rt pc L st M := by
  obtain ⟨⟨rm1, rm2⟩, h⟩ := h
  obtain ⟨as, rest, rfl, hlen, ⟨hrc, hsh⟩, hM⟩ := z_pop_spec _ _ _ h
  rw [List.append_nil] at hrc hM
  intro p e s m args below meth c H locs cells slots ls Z hS hN hMo hlv hlo hC hR
  obtain ⟨⟨hx, hb⟩, hml, hr, hts, hown, hlk, hnm⟩ := id hS
  simp only [z_okc, Bool.and_eq_true, decide_eq_true_eq] at hok
  obtain ⟨ha, hfr⟩ := hok
  have hroom : cells + (z_rm a).cells ≤ (z_rm mid).cells ∧ slots + (z_rm a).slots ≤ (z_rm mid).slots := by
    obtain ⟨⟨c1, c2⟩, c3, c4⟩ := hC
    constructor <;> omega
  match as, hlen, hrc, hM with
  | .ref o :: As, hlen, hrc, hM =>
    have hmk := z_mk_at ha
    simp only [z_mk, Bool.and_eq_true, decide_eq_true_eq] at hmk
    have hk' : ((z_mp[a]?).getD (0, 0, 0, 3)).2.2.2 = 1 := hk
    rw [hk'] at hmk
    simp only [Bool.and_eq_true, decide_eq_true_eq] at hmk
    have e9 : ((Value.ref o :: As).reverse ++ rest).map (z_em G) = (As.map (z_em G)).reverse ++ .ref (z_ad G o) :: rest.map (z_em G) := by
      simp [z_em]
    rw [e9]
    refine z_goes (rest := rest) (Q := z_af K L rest) (M := M) (a := a) (arr := (Value.ref (z_ad G o) :: As.map (z_em G)).toArray) ?_ hS hN hlv hlo hC hroom hR (fun r M' hq => hK _ _ _ hq)
    have hp : PreS s H (fun v U => v = ((Value.ref o :: As).map (z_em G)).toArray ∧ z_Mo G M U.heap ∧ z_Kn G U) (.ref (z_ad G o) :: As.map (z_em G)) := ⟨z_blind, fun U hU hW => ⟨by simp [z_em], by rw [hU]; exact hMo, hN.warm hW⟩⟩
    rcases hl with hl | ⟨host, hl⟩
    · have cb := z_callB (s := s) (args := args) (own := (z_my mid).cls) hts ha hl hnp hfr
      rw [hret] at cb
      exact va_runI (b := z_ad G o) (As := As.map (z_em G)) (n := n) (Ts := z_tb) ⟨hx, hb, hml, hown, hts⟩ hM ⟨cb, hmk.2.2.2, hts _ (z_at_mem hmk.2.2.1)⟩ hp rfl (by simp at hlen; simp [hlen]) hlv.1.1 rfl (lv_room (z_sh_sum hsh)) hd hroom
    · have hcw := z_cw_mem ha
      unfold z_cw at hcw
      have cb := va_cnB (own := (z_my mid).cls) (host := host) (index := idx) (R := z_rm mid) (s := s) (args := args) (y := z_my a) (bytes := z_mc a) (maxL := z_mL a) (ret := z_mr a) (ws := z_ws a) (rm := z_rm a) n hts (z_ws_good ha) rfl rfl rfl (hN.2.2.2.2.2.1 _ hl) (hts _ (z_at_mem hmk.1)) ⟨hmk.2.1.1, hmk.2.1.2, hnp⟩ hfr
      rw [hret] at cb
      exact va_runIN (b := z_ad G o) (As := As.map (z_em G)) (n := n) (Ts := z_tb) (host := host) ⟨hx, hb, hml, hown, hts⟩ hM ⟨cb, hmk.2.2.2, hts _ (z_at_mem hmk.2.2.1)⟩ hp rfl (by simp at hlen; simp [hlen]) hlv.1.1 rfl (lv_room (z_sh_sum hsh)) hd hroom
theorem s_obj {idx o : Nat} (hd : decode (z_mc mid) pc = .ok (.invokespecial idx, 3)) (hl : Cond.methodLink (z_my mid).cls idx objectInit ∈ z_tb) (hfr : 1 ≤ (z_rm mid).frames ∧ 20 ≤ (z_rm mid).locals) (hsh : z_sh st) (h : z_W l G mid z0 Rt (pc + 3) L st M) : z_W l G mid z0 Rt pc L (.ref o :: st) M := by
  intro p e s m args below meth c H locs cells slots ls Z hS hN hMo hlv hlo hC hR
  obtain ⟨⟨hx, hb⟩, hml, hr, hts, hown, hlk, hnm⟩ := id hS
  refine W.objInit hx hb hown (hts _ hl) (hts _ z_obj_in.1) (hts _ z_obj_in.2) rfl (by rw [hml]; exact hlv.1.1) rfl hd hfr.1 ?_ (W.eq rfl (h p e s m args below meth c H locs cells slots ls Z hS hN hMo hlv hlo hC hR))
  have := lv_room (m := m) (pc := pc) (ls := ls) (rest := (Value.ref o :: st).map (z_em G)) (z_sh_sum (G := G) hsh)
  have e8 : (F0 m pc ls ((Value.ref o :: st).map (z_em G))).monitorRoom = (F0 m pc ls ((Value.ref o :: st).map (z_em G))).monitorRoom := rfl
  omega
/-! a method's end, and its contract -/
theorem s_end {v : Option Value} (hrt : z_rt mid pc v) (h : Rt v M) : z_W l G mid z0 Rt pc L v.toList M := by
  intro p e s m args below meth c H locs cells slots ls Z hS hN hMo hlv hlo hC hR
  have e9 : v.toList.map (z_em G) = v.toList := by
    match v, hrt with
    | none, _ => rfl
    | some (.int x), _ => rfl
    | some (.long x), _ => rfl
  rw [e9]
  exact hR pc ls H locs cells slots v M hrt hMo h hlo hC
def z_en : Nat → List Value → ZL
  | 0, _ => []
  | n + 1, [] => none :: z_en n []
  | n + 2, .long x :: t => some (.long x) :: none :: z_en n t
  | n + 1, .int x :: t => some (.int x) :: z_en n t
  | n + 1, .ref x :: t => some (.ref x) :: z_en n t
  | _, _ => []
def z_wd : List Value → Nat
  | [] => 0
  | .long _ :: t => z_wd t + 2
  | .double _ :: t => z_wd t + 2
  | _ :: t => z_wd t + 1
theorem z_wd_eq : ∀ as : List Value, (lg_sl (as.map (z_em G))).length = z_wd as
  | [] => rfl
  | v :: t => by
    have ih := z_wd_eq t
    have e : lg_sl ((v :: t).map (z_em G)) = (if (z_em G v).category = 2 then [Slot.val (z_em G v), .second] else [Slot.val (z_em G v)]) ++ lg_sl (t.map (z_em G)) := rfl
    rw [e, List.length_append, ih]
    cases v <;> simp [z_em, z_wd, Value.category] <;> omega
theorem z_en_nil : ∀ (n k : Nat) (w : Value), z_lg k (z_en n []) = some w → False
  | 0, k, w, h => by simp [z_en, z_lg] at h
  | n + 1, 0, w, h => by simp [z_en, z_lg] at h
  | n + 1, k + 1, w, h => z_en_nil n k w (by simpa [z_en, z_lg] using h)
theorem z_en_mem : ∀ (n : Nat) (as : List Value) (k i : Nat) (w : Value), z_lg k (z_en n as) = some w → (i + k, z_em G w) ∈ lv_args i (as.map (z_em G))
  | n, [], k, i, w, h => (z_en_nil n k w h).elim
  | 0, _ :: _, k, i, w, h => by simp [z_en, z_lg] at h
  | 1, .long x :: t, k, i, w, h => by simp [z_en, z_lg] at h
  | n + 2, .long x :: t, 0, i, w, h => by simp only [z_en, z_lg] at h; cases h; exact List.mem_cons_self
  | n + 2, .long x :: t, 1, i, w, h => by simp [z_en, z_lg] at h
  | n + 2, .long x :: t, k + 2, i, w, h => by
    have := z_en_mem n t k (i + 2) w (by simpa [z_en, z_lg] using h)
    rw [show i + (k + 2) = i + 2 + k by omega]
    exact List.mem_cons_of_mem _ this
  | n + 1, .int x :: t, 0, i, w, h => by simp only [z_en, z_lg] at h; cases h; exact List.mem_cons_self
  | n + 1, .int x :: t, k + 1, i, w, h => by
    have := z_en_mem n t k (i + 1) w (by simpa [z_en, z_lg] using h)
    rw [show i + (k + 1) = i + 1 + k by omega]
    exact List.mem_cons_of_mem _ this
  | n + 1, .ref x :: t, 0, i, w, h => by simp only [z_en, z_lg] at h; cases h; exact List.mem_cons_self
  | n + 1, .ref x :: t, k + 1, i, w, h => by
    have := z_en_mem n t k (i + 1) w (by simpa [z_en, z_lg] using h)
    rw [show i + (k + 1) = i + 1 + k by omega]
    exact List.mem_cons_of_mem _ this
  | n + 1, .null :: t, k, i, w, h => by simp [z_en, z_lg] at h
  | n + 1, .float x :: t, k, i, w, h => by simp [z_en, z_lg] at h
  | n + 1, .double x :: t, k, i, w, h => by simp [z_en, z_lg] at h
  | n + 1, .retAddr x :: t, k, i, w, h => by simp [z_en, z_lg] at h
/-- a method's contract out of its body -/
theorem z_ok_of {as : List Value} {Q : ZR} (hp : plainFor (z_my mid) = true) (hw : z_wd as ≤ z_mL mid) (h : z_W l G mid (M.2.2.2.2.1, M.2.2.2.2.2) (fun v M' => Q v M' ∧ (M'.2.2.2.2.1 = M.2.2.2.2.1 + (z_rm mid).cells ∧ M'.2.2.2.2.2 = M.2.2.2.2.2 + (z_rm mid).slots)) 0 (z_en (z_mL mid) as) [] M) : z_Ok l G mid as M Q := by
  refine va_MetF (cc := z_mc mid) (maxL := z_mL mid) (ret := z_mr mid) hp rfl ?_
  intro p e s m args below meth c s₁ B hml hv
  obtain ⟨rfl, hM, hN⟩ := hv
  have hts := atoms_spec (ws := z_ws mid) B.pre
  have hl := lv_entry (as.map (z_em G)) (n := z_mL mid) (by rw [z_wd_eq]; exact hw)
  rw [lg_entry_eq]
  have hS : z_Std mid p s m (as.map (z_em G)).toArray meth c := ⟨⟨B.exec, B.bytes⟩, hml, B.returns, fun w hw => hts w (List.mem_cons_of_mem _ hw), findClass_of_methodNamed B.named, B.notSynchronized, (name_of_methodNamed B.named B.method).1⟩
  refine h p e s m _ below meth c s.heap [] 0 0 _ _ hS hN hM ⟨⟨hl.1, hl.2.1⟩, fun k w hk => ?_⟩ (fun q hq => by cases hq) ⟨⟨rfl, rfl⟩, Nat.zero_le _, Nat.zero_le _⟩ ?_
  · have := hl.2.2 _ (z_en_mem (G := G) _ as k 0 w hk)
    rwa [Nat.zero_add] at this
  · intro pc ls H locs cells slots v M' hrt hM' hQ hlo hC
    refine W.widen hC.2.1 hC.2.2 ?_
    match v, hrt, hQ with
    | none, hrt, hQ => exact W.vret B.exec B.bytes (by rw [B.returns]; exact hrt.2) (fun t ht hW => ⟨none, M', ⟨rfl, hQ.1, by rw [ht]; exact hM'⟩, hQ.2, fun x q => by cases q⟩) hlo hrt.1 B.notSynchronized
    | some (.int x), ⟨h1, ty, h2, h3⟩, hQ => exact W.zret (ty := ty) B.exec B.bytes (by rw [B.returns]; exact h2) h3 (fun t ht hW => ⟨some (.int x), M', ⟨rfl, hQ.1, by rw [ht]; exact hM'⟩, hQ.2, fun x q => by cases q⟩) hlo h1 B.notSynchronized
    | some (.long x), hrt, hQ => exact W.lret B.exec B.bytes (by rw [B.returns]; exact hrt.2) (fun t ht hW => ⟨some (.long x), M', ⟨rfl, hQ.1, by rw [ht]; exact hM'⟩, hQ.2, fun x q => by cases q⟩) hlo hrt.1 B.notSynchronized
/-- the same, of a method that makes no cells: the memory's bounds stay -/
theorem z_okN {as : List Value} {Q : ZR} {mi : Nat → Nat → Int32} {mr : Nat → Nat → Option Nat} {ml : Nat → Nat → Int64} {T : (Nat → Nat × Nat) × Nat × Nat} (hp : plainFor (z_my mid) = true) (hw : z_wd as ≤ z_mL mid) (h0 : (z_rm mid).cells = 0 ∧ (z_rm mid).slots = 0) (h : z_W l G mid (T.2.1, T.2.2) (fun v M' => Q v M' ∧ M'.2.2.2 = T) 0 (z_en (z_mL mid) as) [] (mi, mr, ml, T)) : z_Ok l G mid as (mi, mr, ml, T) Q := by
  refine z_ok_of hp hw ?_
  have e : (fun (v : Option Value) (M' : ZM) => Q v M' ∧ (M'.2.2.2.2.1 = T.2.1 + (z_rm mid).cells ∧ M'.2.2.2.2.2 = T.2.2 + (z_rm mid).slots)) = fun v M' => Q v M' ∧ (M'.2.2.2.2.1 = T.2.1 ∧ M'.2.2.2.2.2 = T.2.2) := by rw [h0.1, h0.2]; rfl
  show z_W l G mid (T.2.1, T.2.2) (fun v M' => Q v M' ∧ (M'.2.2.2.2.1 = T.2.1 + (z_rm mid).cells ∧ M'.2.2.2.2.2 = T.2.2 + (z_rm mid).slots)) 0 _ [] _
  rw [e]
  intro p e s m args below meth c H locs cells slots ls Z hS hN hM hl hlo hC hR
  refine h p e s m args below meth c H locs cells slots ls Z hS hN hM hl hlo hC ?_
  intro pc ls H locs cells slots v M' hrt hM' hQ hlo hC
  exact hR pc ls H locs cells slots v M' hrt hM' ⟨hQ.1, by rw [hQ.2]; exact ⟨rfl, rfl⟩⟩ hlo hC
end
end
section
/-! that a block's list of instructions is the bytecode's, and that the evaluator is right about it -/
def z_own (mid : Nat) : String := (z_my mid).cls
def z_i32 (n : Int) : Bool := decide (-2147483648 ≤ n) && decide (n < 2147483648)
def z_jmp (pc : Nat) (off : Int) (a : Nat) : Bool := decide ((pc : Int) + off = (a : Int))
def z_fdc (mid idx a b pl : Nat) : Bool := match z_cls[a]? with
  | some r => decide (b < r.2.2) && z_at pl (.fieldLink (z_own mid) idx (r.2.1 b).1 (r.2.1 b).2.1 (r.2.1 b).2.2.1)
  | none => false
def z_fin (mid a b : Nat) : Bool := match z_cls[a]? with
  | some r => (r.2.1 b).2.2.2 == false || (decide ((z_my mid).name = "<init>") && decide ((r.2.1 b).1 = z_own mid))
  | none => false
def z_cic (c a : Nat) : Bool := match z_cls[c]? with
  | some r => decide (r.1 = z_own a)
  | none => false
def z_clk (mid idx c n pl : Nat) : Bool := match z_cls[c]? with
  | some r => decide (n = r.2.2) && z_at pl (.classLink (z_own mid) idx r.1)
  | none => false
def z_nst (mid idx a k : Nat) : Bool := match z_nest[k]? with
  | some q => decide (q.1 = z_own mid) && (decide (q.2.1 = idx) && decide (q.2.2.1 = z_my a))
  | none => false
def z_calls (mid a n : Nat) : Bool := z_okc mid a && decide (z_npar a = some n)
def z_nocell (a : Nat) : Bool := decide ((z_rm a).cells = 0) && decide ((z_rm a).slots = 0)
def z_okop (mid pc : Nat) : Instr → Nat → Nat → Nat → Nat → Nat → Bool
  | .iconst n, len, a, _, c, _ => len == 1 && decide (Int32.ofInt n = z_kI c a)
  | .bipush n, len, a, _, c, _ => len == 2 && decide ((Int8.ofInt n).toInt32 = z_kI c a)
  | .sipush n, len, a, _, c, _ => len == 3 && decide ((Int16.ofInt n).toInt32 = z_kI c a)
  | .ldc_w i, len, a, _, c, pl => len == 3 && z_at pl (.constant (z_own mid) i (z_kI c a))
  | .lconst n, len, a, _, _, _ => len == 1 && decide (Int64.ofNat n.val = lN a)
  | .ldc2_w i, len, a, _, _, pl => len == 3 && z_at pl (.constantLong (z_own mid) i (lN a))
  | .iload n, len, a, _, _, _ => len == 2 && a == n
  | .iload_n n, len, a, _, _, _ => len == 1 && a == n.val
  | .aload n, len, a, _, _, _ => len == 2 && a == n
  | .aload_n n, len, a, _, _, _ => len == 1 && a == n.val
  | .lload n, len, a, _, _, _ => len == 2 && a == n
  | .lload_n n, len, a, _, _, _ => len == 1 && a == n.val
  | .istore n, len, a, _, _, _ => (len == 2 && a == n) && decide (n < z_mL mid)
  | .istore_n n, len, a, _, _, _ => (len == 1 && a == n.val) && decide (n.val < z_mL mid)
  | .astore n, len, a, _, _, _ => (len == 2 && a == n) && decide (n < z_mL mid)
  | .astore_n n, len, a, _, _, _ => (len == 1 && a == n.val) && decide (n.val < z_mL mid)
  | .lstore n, len, a, _, _, _ => (len == 2 && a == n) && decide (n + 1 < z_mL mid)
  | .lstore_n n, len, a, _, _, _ => (len == 1 && a == n.val) && decide (n.val + 1 < z_mL mid)
  | .iinc n d, len, a, b, c, _ => (len == 3 && b == n) && (decide (n < z_mL mid) && decide (Int32.ofInt d = z_kI c a))
  | .iadd, len, _, _, _, _ => len == 1
  | .isub, len, _, _, _, _ => len == 1
  | .imul, len, _, _, _, _ => len == 1
  | .iand, len, _, _, _, _ => len == 1
  | .ior, len, _, _, _, _ => len == 1
  | .ixor, len, _, _, _, _ => len == 1
  | .ishl, len, _, _, _, _ => len == 1
  | .ishr, len, _, _, _, _ => len == 1
  | .iushr, len, _, _, _, _ => len == 1
  | .idiv, len, _, _, _, _ => len == 1
  | .irem, len, _, _, _, _ => len == 1
  | .ladd, len, _, _, _, _ => len == 1
  | .lsub, len, _, _, _, _ => len == 1
  | .lmul, len, _, _, _, _ => len == 1
  | .land, len, _, _, _, _ => len == 1
  | .lor, len, _, _, _, _ => len == 1
  | .ldiv, len, _, _, _, _ => len == 1
  | .lrem, len, _, _, _, _ => len == 1
  | .lshl, len, _, _, _, _ => len == 1
  | .lushr, len, _, _, _, _ => len == 1
  | .lneg, len, _, _, _, _ => len == 1
  | .i2l, len, _, _, _, _ => len == 1
  | .l2i, len, _, _, _, _ => len == 1
  | .lcmp, len, _, _, _, _ => len == 1
  | .dup, len, _, _, _, _ => len == 1
  | .dup_x1, len, _, _, _, _ => len == 1
  | .dup2, len, _, _, _, _ => len == 1
  | .goto off, len, a, _, _, _ => len == 3 && z_jmp pc off a
  | .ifCond _ off, len, a, _, _, _ => len == 3 && z_jmp pc off a
  | .if_icmp _ off, len, a, _, _, _ => len == 3 && z_jmp pc off a
  | .ifnull off, len, a, _, _, _ => len == 3 && z_jmp pc off a
  | .ifnonnull off, len, a, _, _, _ => len == 3 && z_jmp pc off a
  | .aconst_null, len, _, _, _, _ => len == 1
  | .getfield i, len, a, b, c, pl => len == 3 && (decide (z_fk a b = c) && z_fdc mid i a b pl)
  | .putfield i, len, a, b, c, pl => len == 3 && (decide (z_fk a b = c) && (z_fin mid a b && z_fdc mid i a b pl))
  | .getstatic i, len, _, _, _, pl => len == 3 && z_at pl (.fieldLink (z_own mid) i "MeshParents" "FACTORIAL" "[I")
  | .iaload, len, _, _, _, _ => len == 1
  | .baload, len, _, _, _, _ => len == 1
  | .aaload, len, _, _, _, _ => len == 1
  | .arraylength, len, _, _, _, _ => len == 1
  | .iastore, len, _, _, _, _ => len == 1
  | .bastore, len, _, _, _, _ => len == 1
  | .aastore, len, _, _, _, _ => len == 1
  | .new i, len, a, b, _, pl => len == 3 && z_clk mid i a b pl
  | .newarray .int, len, _, _, _, _ => len == 2
  | .newarray .boolean, len, _, _, _, _ => len == 2
  | .anewarray i, len, a, b, _, pl => len == 3 && ((decide (4 ≤ a) && decide (a ≤ 6)) && z_clk mid i (z_ac a) ((z_cls[z_ac a]?).elim 0 fun r => r.2.2) pl)
  | .invokevirtual i, len, a, b, c, pl => len == 3 && (z_at pl (.methodLink (z_own mid) i (z_my a)) && (match b, c with | n + 1, k + 1 => z_calls mid a n && z_cic k a | _, _ => false) && (decide (z_kindOf a = 2) && z_nocell a))
  | .invokestatic i, len, a, b, c, pl => len == 3 && (z_at pl (.methodLink (z_own mid) i (z_my a)) && (c == 0 && z_calls mid a b) && (decide (z_kindOf a = 0) && z_nocell a))
  | .invokespecial i, len, a, b, c, pl => len == 3 && if c = 99 then z_at pl (.methodLink (z_own mid) i objectInit) && (decide (1 ≤ (z_rm mid).frames) && decide (20 ≤ (z_rm mid).locals))
    else (z_at pl (.methodLink (z_own mid) i (z_my a)) || z_nst mid i a pl) && ((match b, c with | n + 1, _ + 1 => z_calls mid a n | _, _ => false) && (decide (z_kindOf a = 1) && decide (z_mr a = none)))
  | .ireturn, len, a, _, _, _ => len == 1 && match z_mr mid with
    | some .int => a == 0
    | some .boolean => a == 1
    | _ => false
  | .lreturn, len, _, _, _, _ => len == 1 && decide (z_mr mid = some .long)
  | .return_, len, _, _, _, _ => len == 1 && decide (z_mr mid = none)
  | .tableswitch d lo hi offs, _, a, b, c, _ => (a == pc && (decide ((b : Int) = lo) && (decide ((c : Int) = hi) && decide (c < 1000)))) && (decide (0 ≤ (pc : Int) + d) && (decide (lo ≤ hi) && decide ((offs.size : Int) = hi - lo + 1)) && offs.toList.all (fun t => decide (0 ≤ (pc : Int) + t)))
  | .lookupswitch d ps, _, a, _, _, _ => (a == pc && ((ps.toList.zip (ps.toList.drop 1)).all (fun (x, next) => x.1 < next.1))) && (decide (0 ≤ (pc : Int) + d) && ps.toList.all (fun t => decide (0 ≤ (pc : Int) + t.2) && (decide (0 ≤ t.1) && decide (t.1 < 1000))))
  | _, _, _, _, _, _ => false
/-- is the way over behind it? -/
def z_term : Instr → Bool
  | .goto _ => true
  | .ireturn => true
  | .lreturn => true
  | .return_ => true
  | .tableswitch .. => true
  | .lookupswitch .. => true
  | _ => false
def z_pool : Instr → Bool
  | .ldc_w _ => true
  | .ldc2_w _ => true
  | .getfield _ => true
  | .putfield _ => true
  | .getstatic _ => true
  | .new _ => true
  | .anewarray _ => true
  | .invokevirtual _ => true
  | .invokestatic _ => true
  | .invokespecial _ => true
  | _ => false
def z_chk (mid : Nat) : List ZO → Nat → Nat → List Nat → Bool
  | [], pc, e, _ => pc == e
  | (i, a, b, c) :: r, pc, e, pl => match decode (z_mc mid) pc with
    | .ok (j, len) => decide (j = i) && (z_okop mid pc i len a b c (pl.headD 0) && (if z_term i then r.isEmpty else z_chk mid r (pc + len) e (if z_pool i then pl.tail else pl)))
    | .error _ => false
def z_chks (mid : Nat) : List (Nat × ZE) → List (List Nat) → Bool
  | [], _ => true
  | (pc, x) :: t, pl => z_chk mid x.2.2.1 pc x.2.2.2 (pl.headD []) && z_chks mid t pl.tail
theorem z_len {len n : Nat} (h : (len == n) = true) : len = n := by simpa using h
theorem z_jmpS {pc a : Nat} {off : Int} (h : z_jmp pc off a = true) : (pc : Int) + off = (a : Int) := of_decide_eq_true h
theorem z_tgtS {pc : Nat} {off : Int} (h : 0 ≤ (pc : Int) + off) : (pc : Int) + off = (z_tgt pc off : Int) := by unfold z_tgt; omega
theorem z_i32S {n : Int} (h : z_i32 n = true) : (Int32.ofInt n).toInt = n := by
  simp only [z_i32, Bool.and_eq_true, decide_eq_true_eq] at h
  exact Int32.toInt_ofInt_of_le (by simpa using h.1) (by simpa using h.2)
section
variable {l : Launch} {G : ZG} {mid : Nat} {z0 : Nat × Nat} {Rt : ZR} {pc len a b c pl : Nat} {L : ZL} {st : List Value} {M : ZM} {J : Nat → ZK} {K : ZK}
theorem h_if {cd : Jvm.ClassFile.Cond} {off : Int} (hne : cd ≠ .ne) (hd : decode (z_mc mid) pc = .ok (.ifCond cd off, 3)) (hj : (pc : Int) + off = (a : Int)) (hJ : ∀ t L st M, J t L st M → z_W l G mid z0 Rt t L st M) (hK : ∀ L st M, K L st M → z_W l G mid z0 Rt (pc + 3) L st M) (h : o_if (fun x => z_ic cd x 0) (J a) K L st M) : z_W l G mid z0 Rt pc L st M := by
  match st, h with
  | .int x :: st, ⟨ht, hf⟩ =>
    intro p e s m args below meth c H locs cells slots ls Z hS hN hM hl hlo hC hR
    have kt := fun (q : z_ic cd x 0) => hJ _ _ _ _ (ht q) p e s m args below meth c H locs cells slots ls Z hS hN hM hl hlo hC hR
    have kf := fun (q : ¬ z_ic cd x 0) => hK _ _ _ (hf q) p e s m args below meth c H locs cells slots ls Z hS hN hM hl hlo hC hR
    cases cd with
    | eq => exact lv_if_eq hS.1.1 hS.1.2 hd hj kt kf
    | ne => exact absurd rfl hne
    | lt => exact lv_if_lt hS.1.1 hS.1.2 hd hj kt kf
    | ge => exact lv_if_ge hS.1.1 hS.1.2 hd hj kt kf
    | gt => exact lv_if_gt hS.1.1 hS.1.2 hd hj kt kf
    | le => exact lv_if_le hS.1.1 hS.1.2 hd hj kt kf
theorem h_if2 {cd : Jvm.ClassFile.Cond} {off : Int} (hne : cd ≠ .ne) (hd : decode (z_mc mid) pc = .ok (.if_icmp cd off, 3)) (hj : (pc : Int) + off = (a : Int)) (hJ : ∀ t L st M, J t L st M → z_W l G mid z0 Rt t L st M) (hK : ∀ L st M, K L st M → z_W l G mid z0 Rt (pc + 3) L st M) (h : o_if2 (z_ic cd) (J a) K L st M) : z_W l G mid z0 Rt pc L st M := by
  match st, h with
  | .int y :: .int x :: st, ⟨ht, hf⟩ =>
    intro p e s m args below meth c H locs cells slots ls Z hS hN hM hl hlo hC hR
    have kt := fun (q : z_ic cd x y) => hJ _ _ _ _ (ht q) p e s m args below meth c H locs cells slots ls Z hS hN hM hl hlo hC hR
    have kf := fun (q : ¬ z_ic cd x y) => hK _ _ _ (hf q) p e s m args below meth c H locs cells slots ls Z hS hN hM hl hlo hC hR
    cases cd with
    | eq => exact lv_icmp_eq hS.1.1 hS.1.2 hd hj kt kf
    | ne => exact absurd rfl hne
    | lt => exact lv_icmp_lt hS.1.1 hS.1.2 hd hj kt kf
    | ge => exact lv_icmp_ge hS.1.1 hS.1.2 hd hj kt kf
    | gt => exact lv_icmp_gt hS.1.1 hS.1.2 hd hj kt kf
    | le => exact lv_icmp_le hS.1.1 hS.1.2 hd hj kt kf
theorem h_ifN {off : Int} (hd : decode (z_mc mid) pc = .ok (.ifCond .ne off, 3)) (hj : (pc : Int) + off = (a : Int)) (hJ : ∀ t L st M, J t L st M → z_W l G mid z0 Rt t L st M) (hK : ∀ L st M, K L st M → z_W l G mid z0 Rt (pc + 3) L st M) (h : o_if (fun x => x = 0) K (J a) L st M) : z_W l G mid z0 Rt pc L st M := by
  match st, h with
  | .int x :: st, ⟨ht, hf⟩ =>
    intro p e s m args below meth c H locs cells slots ls Z hS hN hM hl hlo hC hR
    exact lv_if_ne hS.1.1 hS.1.2 hd hj (fun q => hJ _ _ _ _ (hf q) p e s m args below meth c H locs cells slots ls Z hS hN hM hl hlo hC hR) (fun q => hK _ _ _ (ht q) p e s m args below meth c H locs cells slots ls Z hS hN hM hl hlo hC hR)
theorem h_ifN2 {off : Int} (hd : decode (z_mc mid) pc = .ok (.if_icmp .ne off, 3)) (hj : (pc : Int) + off = (a : Int)) (hJ : ∀ t L st M, J t L st M → z_W l G mid z0 Rt t L st M) (hK : ∀ L st M, K L st M → z_W l G mid z0 Rt (pc + 3) L st M) (h : o_if2 (fun x y => x = y) K (J a) L st M) : z_W l G mid z0 Rt pc L st M := by
  match st, h with
  | .int y :: .int x :: st, ⟨ht, hf⟩ =>
    intro p e s m args below meth c H locs cells slots ls Z hS hN hM hl hlo hC hR
    exact lv_icmp_ne hS.1.1 hS.1.2 hd hj (fun q => hJ _ _ _ _ (hf q) p e s m args below meth c H locs cells slots ls Z hS hN hM hl hlo hC hR) (fun q => hK _ _ _ (ht q) p e s m args below meth c H locs cells slots ls Z hS hN hM hl hlo hC hR)
theorem h_ldi {v : Option Value} (row : ∀ x, v = some (.int x) → K L (.int x :: st) M → z_W l G mid z0 Rt pc L st M) (h : o_ldi v K L st M) : z_W l G mid z0 Rt pc L st M := by
  match v, h with
  | some (.int x), h => exact row x rfl h
theorem h_ldl {v : Option Value} (row : ∀ x, v = some (.long x) → K L (.long x :: st) M → z_W l G mid z0 Rt pc L st M) (h : o_ldl v K L st M) : z_W l G mid z0 Rt pc L st M := by
  match v, h with
  | some (.long x), h => exact row x rfl h
theorem h_lda {v : Option Value} (row : ∀ x, v = some (.ref x) → K L (.ref x :: st) M → z_W l G mid z0 Rt pc L st M) (h : o_lda v K L st M) : z_W l G mid z0 Rt pc L st M := by
  match v, h with
  | some (.ref x), h => exact row x rfl h
/-- a row that reads a local -/
theorem z_rowL {n : Nat} {v : Value} {pc' : Nat} {st' : List Value} (hv : z_lg n L = some v) (row : ∀ {p : Program} {e : Env} {R : Room} {s : State} {m : MethodId} {args : Array Value} {below : List Frame} {meth : Method} {c : Code} {H : Heap} {locs : List Loc} {cells slots : Nat} {Z : State → Prop} {ls : Array Slot}, p.tables.exec = Jvm.exec → c.code = z_mc mid → ls[n]? = some (.val (z_em G v)) → W p l e R s m args below meth c H locs cells slots Z (F0 m pc' ls (st'.map (z_em G))) → W p l e R s m args below meth c H locs cells slots Z (F0 m pc ls (st.map (z_em G))))
    (h : z_W l G mid z0 Rt pc' L st' M) : z_W l G mid z0 Rt pc L st M :=
  fun p e s m args below meth c H locs cells slots ls Z hS hN hM hl hlo hC hR => row hS.1.1 hS.1.2 (hl.2 n v hv) (h p e s m args below meth c H locs cells slots ls Z hS hN hM hl hlo hC hR)
/-- a row that writes a local -/
theorem z_rowS {L' : ZL} {pc' : Nat} {st' : List Value} (row : ∀ {p : Program} {e : Env} {R : Room} {s : State} {m : MethodId} {args : Array Value} {below : List Frame} {meth : Method} {c : Code} {H : Heap} {locs : List Loc} {cells slots : Nat} {Z : State → Prop} {ls : Array Slot}, p.tables.exec = Jvm.exec → c.code = z_mc mid → z_lv G (z_mL mid) ls L → (∀ ls' : Array Slot, z_lv G (z_mL mid) ls' L' → W p l e R s m args below meth c H locs cells slots Z (F0 m pc' ls' (st'.map (z_em G)))) → W p l e R s m args below meth c H locs cells slots Z (F0 m pc ls (st.map (z_em G))))
    (h : z_W l G mid z0 Rt pc' L' st' M) : z_W l G mid z0 Rt pc L st M :=
  fun p e s m args below meth c H locs cells slots ls Z hS hN hM hl hlo hC hR => row hS.1.1 hS.1.2 hl (fun ls' hl' => h p e s m args below meth c H locs cells slots ls' Z hS hN hM hl' hlo hC hR)
theorem h_c1 {v : Value} (h : z_c1 v) : (z_em G v).category = 1 := by
  match v, h with
  | .int _, _ => rfl
  | .ref _, _ => rfl
theorem h_get {i : Nat} (hd : decode (z_mc mid) pc = .ok (.getfield i, 3)) (h1 : z_fk a b = c) (h2 : z_fdc mid i a b pl = true) (hK : ∀ L st M, K L st M → z_W l G mid z0 Rt (pc + 3) L st M) (h : o_get a b c K L st M) : z_W l G mid z0 Rt pc L st M := by
  match st, h with
  | .ref o :: st, ⟨ht, h⟩ =>
    unfold z_fdc at h2
    cases hc : z_cls[a]? with
    | none => rw [hc] at h2; cases h2
    | some r =>
      rw [hc] at h2
      simp only [Bool.and_eq_true, decide_eq_true_eq] at h2
      exact s_get hd hc h2.1 h1 (z_at_mem h2.2) ht (hK _ _ _ h)
theorem z_fkty {r : vw_C} (hc : z_cls[a]? = some r) (hb : b < r.2.2) : ∃ ty, parseFieldDescriptor (r.2.1 b).2.2.1 = some ty ∧ z_fk a b = z_kd ty := by
  obtain ⟨-, -, ⟨y, hy, hpd⟩, -⟩ := z_clsok a r hc
  exact ⟨y b, hpd b hb, by unfold z_fk; rw [hy]⟩
theorem z_fvI {o k : Nat} {x : Int32} (t j : Nat) (hj : j ≠ k) : z_fv t (z_u2 M.1 o k x, M.2) o j = z_fv t M o j := z_fv_same t j (if_neg fun z => hj z.2).symm rfl rfl
theorem z_fvL {o k : Nat} {x : Int64} (t j : Nat) (hj : j ≠ k) : z_fv t (M.1, M.2.1, z_uL M.2.2.1 o k x, M.2.2.2) o j = z_fv t M o j := z_fv_same t j rfl rfl (if_neg fun z => hj z.2).symm
theorem z_fvR {o k : Nat} {x : Option Nat} (t j : Nat) (hj : j ≠ k) : z_fv t (M.1, z_uR M.2.1 o k x, M.2.2) o j = z_fv t M o j := z_fv_same t j rfl (if_neg fun z => hj z.2).symm rfl
theorem h_put {i : Nat} (hd : decode (z_mc mid) pc = .ok (.putfield i, 3)) (h1 : z_fk a b = c) (hfi : z_fin mid a b = true) (h2 : z_fdc mid i a b pl = true) (hK : ∀ L st M, K L st M → z_W l G mid z0 Rt (pc + 3) L st M) (h : o_put a b c K L st M) : z_W l G mid z0 Rt pc L st M := by
  unfold z_fdc at h2
  unfold z_fin at hfi
  cases hc : z_cls[a]? with
  | none => rw [hc] at h2; cases h2
  | some r =>
    rw [hc] at h2 hfi
    simp only [Bool.and_eq_true, decide_eq_true_eq] at h2
    simp only [Bool.or_eq_true, beq_iff_eq, Bool.and_eq_true, decide_eq_true_eq] at hfi
    obtain ⟨ty, hty, hfk⟩ := z_fkty hc h2.1
    rw [h1] at hfk
    have base := fun (v : Value) (o : Nat) (M' : ZM) (st : List Value) => s_put (l := l) (G := G) (z0 := z0) (Rt := Rt) (L := L) (M := M) (v := v) (o := o) (M' := M') (ty := ty) (st := st) hd hc h2.1 (z_at_mem h2.2) hfi hty
    match c, st, h with
    | 0, .int x :: .ref o :: st, ⟨ht, h⟩ =>
      refine base (.int x) o (z_u2 M.1 o b x, M.2) st ?_ ?_ ht rfl (fun q hq j => if_neg (fun z => hq z.1)) (fun _ _ _ => rfl) (fun _ _ _ => rfl) (fun j => ?_) (hK _ _ _ h)
      · cases ty <;> first | rfl | (simp [z_kd] at hfk; done)
      · cases ty <;> first | rfl | (simp [z_kd] at hfk; done)
      · by_cases e : j = b
        · subst e; rw [if_pos rfl, h1]; show Value.int (if _ then _ else _) = _; rw [if_pos ⟨rfl, rfl⟩]
        · rw [if_neg e]; exact z_fvI _ j e
    | 3, .int x :: .ref o :: st, ⟨⟨ht, h01⟩, h⟩ =>
      refine base (.int x) o (z_u2 M.1 o b x, M.2) st ?_ ?_ ht rfl (fun q hq j => if_neg (fun z => hq z.1)) (fun _ _ _ => rfl) (fun _ _ _ => rfl) (fun j => ?_) (hK _ _ _ h)
      · rcases h01 with rfl | rfl <;> cases ty <;> first | rfl | (simp [z_kd] at hfk; done)
      · rcases h01 with rfl | rfl <;> cases ty <;> first | rfl | (simp [z_kd] at hfk; done)
      · by_cases e : j = b
        · subst e; rw [if_pos rfl, h1]; show Value.int (if _ then _ else _) = _; rw [if_pos ⟨rfl, rfl⟩]
        · rw [if_neg e]; exact z_fvI _ j e
    | 1, .long x :: .ref o :: st, ⟨ht, h⟩ =>
      refine base (.long x) o (M.1, M.2.1, z_uL M.2.2.1 o b x, M.2.2.2) st ?_ ?_ ht rfl (fun _ _ _ => rfl) (fun _ _ _ => rfl) (fun q hq j => if_neg (fun z => hq z.1)) (fun j => ?_) (hK _ _ _ h)
      · cases ty <;> first | rfl | (simp [z_kd] at hfk; done)
      · cases ty <;> first | rfl | (simp [z_kd] at hfk; done)
      · by_cases e : j = b
        · subst e; rw [if_pos rfl, h1]; show Value.long (if _ then _ else _) = _; rw [if_pos ⟨rfl, rfl⟩]
        · rw [if_neg e]; exact z_fvL _ j e
    | 2, .ref x :: .ref o :: st, ⟨ht, h⟩ =>
      refine base (.ref x) o (M.1, z_uR M.2.1 o b (some x), M.2.2) st ?_ ?_ ht rfl (fun _ _ _ => rfl) (fun q hq j => if_neg (fun z => hq z.1)) (fun _ _ _ => rfl) (fun j => ?_) (hK _ _ _ h)
      · cases ty <;> first | rfl | (simp [z_kd] at hfk; done)
      · cases ty <;> first | rfl | (simp [z_kd] at hfk; done)
      · by_cases e : j = b
        · subst e; rw [if_pos rfl, h1]; show va_rf (if _ then _ else _) = _; rw [if_pos ⟨rfl, rfl⟩]; rfl
        · rw [if_neg e]; exact z_fvR _ j e
    | 2, .null :: .ref o :: st, ⟨ht, h⟩ =>
      refine base .null o (M.1, z_uR M.2.1 o b none, M.2.2) st ?_ ?_ ht rfl (fun _ _ _ => rfl) (fun q hq j => if_neg (fun z => hq z.1)) (fun _ _ _ => rfl) (fun j => ?_) (hK _ _ _ h)
      · cases ty <;> first | rfl | (simp [z_kd] at hfk; done)
      · cases ty <;> first | rfl | (simp [z_kd] at hfk; done)
      · by_cases e : j = b
        · subst e; rw [if_pos rfl, h1]; show va_rf (if _ then _ else _) = _; rw [if_pos ⟨rfl, rfl⟩]; rfl
        · rw [if_neg e]; exact z_fvR _ j e
theorem h_tswS {x : Int32} (hJ : ∀ t L st M, J t L st M → z_W l G mid z0 Rt t L st M) : ∀ (offs : List Int) (k : Nat), k + offs.length ≤ 1000 → z_tsw J pc x k offs L st M → ∀ (n : Nat) (t : Int), offs[n]? = some t → x.toInt = (k : Int) + n → z_W l G mid z0 Rt (z_tgt pc t) L st M
  | [], k, hk, h, n, t, ht, hx => by simp at ht
  | o :: r, k, hk, h, 0, t, ht, hx => by
    simp only [List.getElem?_cons_zero] at ht
    cases ht
    refine hJ _ _ _ _ (h.1 ?_)
    simp only [List.length_cons] at hk
    exact Int32.toInt_inj.mp (by rw [nI_toInt (by omega)]; simpa using hx)
  | o :: r, k, hk, h, n + 1, t, ht, hx => by
    simp only [List.length_cons] at hk
    exact h_tswS hJ r (k + 1) (by omega) h.2 n t (by simpa using ht) (by rw [hx]; omega)
theorem h_lswS {x : Int32} {d : Int} (hJ : ∀ t L st M, J t L st M → z_W l G mid z0 Rt t L st M) : ∀ (ps : List (Int × Int)), (∀ q ∈ ps, 0 ≤ q.1 ∧ q.1 < 1000) → z_lsw J pc x d ps L st M → z_W l G mid z0 Rt (z_tgt pc (Op.lookupswitch.offset ps d x.toInt)) L st M
  | [], hk, h => hJ _ _ _ _ h
  | (k, t) :: r, hk, h => by
    have hk1 := hk (k, t) List.mem_cons_self
    have e : (nI k.toNat).toInt = k := by
      have h0 : 0 ≤ k := hk1.1
      have h1 : k < 1000 := hk1.2
      rw [nI_toInt (by omega)]; omega
    rw [Op.lookupswitch.offset_cons]
    by_cases q : x = nI k.toNat
    · rw [if_pos (by rw [q, e])]
      exact hJ _ _ _ _ (h.1 q)
    · rw [if_neg (fun z => q (Int32.toInt_inj.mp (by rw [e]; exact z.symm)))]
      exact h_lswS hJ r (fun q hq => hk q (List.mem_cons_of_mem _ hq)) (h.2 q)
end
end
section
section
variable {l : Launch} {G : ZG} {mid : Nat} {z0 : Nat × Nat} {Rt : ZR}
set_option maxHeartbeats 8000000 in
theorem z_hd_sound {J : Nat → ZK} (hJ : ∀ t L st M, J t L st M → z_W l G mid z0 Rt t L st M) {pc len a b c pl : Nat} {K : ZK} {i : Instr} {L : ZL} {st : List Value} {M : ZM} (hd : decode (z_mc mid) pc = .ok (i, len)) (ok : z_okop mid pc i len a b c pl = true)
    (hK : z_term i = false → ∀ L st M, K L st M → z_W l G mid z0 Rt (pc + len) L st M) (h : z_hd G mid z0 (z_Ok l G) Rt J i a b c K L st M) : z_W l G mid z0 Rt pc L st M := by
  have b2 : ∀ {f : Int32 → Int32 → Int32}, o_b2 f K L st M → (∀ {x y : Int32} {r : List Value}, st = .int y :: .int x :: r → K L (.int (f x y) :: r) M → z_W l G mid z0 Rt pc L st M) → z_W l G mid z0 Rt pc L st M := by
    intro f h k
    match st, h with
    | .int y :: .int x :: r, h => exact k rfl h
  have l2 : ∀ {f : Int64 → Int64 → Int64}, o_l2 f K L st M → (∀ {x y : Int64} {r : List Value}, st = .long y :: .long x :: r → K L (.long (f x y) :: r) M → z_W l G mid z0 Rt pc L st M) → z_W l G mid z0 Rt pc L st M := by
    intro f h k
    match st, h with
    | .long y :: .long x :: r, h => exact k rfl h
  cases i with
  | iconst n =>
    simp only [z_okop, Bool.and_eq_true, decide_eq_true_eq] at ok
    obtain rfl := z_len ok.1
    exact z_row (fun hx hb k => lv_iconst hx hb hd ok.2 k) (hK rfl _ _ _ h)
  | bipush n =>
    simp only [z_okop, Bool.and_eq_true, decide_eq_true_eq] at ok
    obtain rfl := z_len ok.1
    exact z_row (fun hx hb k => lv_bipush hx hb hd ok.2 k) (hK rfl _ _ _ h)
  | sipush n =>
    simp only [z_okop, Bool.and_eq_true, decide_eq_true_eq] at ok
    obtain rfl := z_len ok.1
    exact z_row (fun hx hb k => lv_sipush hx hb hd ok.2 k) (hK rfl _ _ _ h)
  | ldc_w n =>
    simp only [z_okop, Bool.and_eq_true] at ok
    obtain rfl := z_len ok.1
    intro p e s m args below meth c' H locs cells slots ls Z hS hN hM hl hlo hC hR
    exact lv_ldcw hS.1.1 hS.1.2 hS.2.2.2.2.1 (hS.2.2.2.1 _ (z_at_mem ok.2)) hd (hK rfl _ _ _ h p e s m args below meth c' H locs cells slots ls Z hS hN hM hl hlo hC hR)
  | lconst n =>
    simp only [z_okop, Bool.and_eq_true, decide_eq_true_eq] at ok
    obtain rfl := z_len ok.1
    exact z_row (fun hx hb k => lv_lconst hx hb hd ok.2 k) (hK rfl _ _ _ h)
  | ldc2_w n =>
    simp only [z_okop, Bool.and_eq_true] at ok
    obtain rfl := z_len ok.1
    intro p e s m args below meth c' H locs cells slots ls Z hS hN hM hl hlo hC hR
    exact lv_ldc2 hS.1.1 hS.1.2 hS.2.2.2.2.1 (hS.2.2.2.1 _ (z_at_mem ok.2)) hd (hK rfl _ _ _ h p e s m args below meth c' H locs cells slots ls Z hS hN hM hl hlo hC hR)
  | iload n =>
    simp only [z_okop, Bool.and_eq_true] at ok
    obtain rfl := z_len ok.1
    obtain rfl := z_len ok.2
    exact h_ldi (fun x hx h => z_rowL hx (fun he hb hl k => lv_iload he hb hd hl k) (hK rfl _ _ _ h)) h
  | iload_n n =>
    simp only [z_okop, Bool.and_eq_true] at ok
    obtain rfl := z_len ok.1
    obtain rfl := z_len ok.2
    exact h_ldi (fun x hx h => z_rowL hx (fun he hb hl k => lv_iload_n he hb hd rfl hl k) (hK rfl _ _ _ h)) h
  | lload n =>
    simp only [z_okop, Bool.and_eq_true] at ok
    obtain rfl := z_len ok.1
    obtain rfl := z_len ok.2
    exact h_ldl (fun x hx h => z_rowL hx (fun he hb hl k => lv_lload he hb hd hl k) (hK rfl _ _ _ h)) h
  | lload_n n =>
    simp only [z_okop, Bool.and_eq_true] at ok
    obtain rfl := z_len ok.1
    obtain rfl := z_len ok.2
    exact h_ldl (fun x hx h => z_rowL hx (fun he hb hl k => lv_lload_n he hb hd rfl hl k) (hK rfl _ _ _ h)) h
  | aload n =>
    simp only [z_okop, Bool.and_eq_true] at ok
    obtain rfl := z_len ok.1
    obtain rfl := z_len ok.2
    exact h_lda (fun x hx h => z_rowL hx (fun he hb hl k => lv_aload he hb hd hl k) (hK rfl _ _ _ h)) h
  | aload_n n =>
    simp only [z_okop, Bool.and_eq_true] at ok
    obtain rfl := z_len ok.1
    obtain rfl := z_len ok.2
    exact h_lda (fun x hx h => z_rowL hx (fun he hb hl k => lv_aload_n he hb hd rfl hl k) (hK rfl _ _ _ h)) h
  | istore n =>
    simp only [z_okop, Bool.and_eq_true, decide_eq_true_eq] at ok
    obtain rfl := z_len ok.1.1
    obtain rfl := z_len ok.1.2
    match st, h with
    | .int x :: st, h => exact z_rowS (fun he hb hl k => lv_istore he hb hd hl.has ok.2 rfl (fun ls' hl' => k ls' (z_lv.st1 hl'))) (hK rfl _ _ _ h)
  | istore_n n =>
    simp only [z_okop, Bool.and_eq_true, decide_eq_true_eq] at ok
    obtain rfl := z_len ok.1.1
    obtain rfl := z_len ok.1.2
    match st, h with
    | .int x :: st, h => exact z_rowS (fun he hb hl k => lv_istore_n he hb hd rfl hl.has ok.2 rfl (fun ls' hl' => k ls' (z_lv.st1 hl'))) (hK rfl _ _ _ h)
  | astore n =>
    simp only [z_okop, Bool.and_eq_true, decide_eq_true_eq] at ok
    obtain rfl := z_len ok.1.1
    obtain rfl := z_len ok.1.2
    match st, h with
    | .ref x :: st, h => exact z_rowS (fun he hb hl k => lv_astore he hb hd hl.has ok.2 rfl (fun ls' hl' => k ls' (z_lv.st1 (v := .ref x) hl'))) (hK rfl _ _ _ h)
  | astore_n n =>
    simp only [z_okop, Bool.and_eq_true, decide_eq_true_eq] at ok
    obtain rfl := z_len ok.1.1
    obtain rfl := z_len ok.1.2
    match st, h with
    | .ref x :: st, h => exact z_rowS (fun he hb hl k => lv_astore_n he hb hd rfl hl.has ok.2 rfl (fun ls' hl' => k ls' (z_lv.st1 (v := .ref x) hl'))) (hK rfl _ _ _ h)
  | lstore n =>
    simp only [z_okop, Bool.and_eq_true, decide_eq_true_eq] at ok
    obtain rfl := z_len ok.1.1
    obtain rfl := z_len ok.1.2
    match st, h with
    | .long x :: st, h => exact z_rowS (fun he hb hl k => lv_lstore he hb hd hl.has ok.2 rfl (fun ls' hl' => k ls' (z_lv.st2 hl'))) (hK rfl _ _ _ h)
  | lstore_n n =>
    simp only [z_okop, Bool.and_eq_true, decide_eq_true_eq] at ok
    obtain rfl := z_len ok.1.1
    obtain rfl := z_len ok.1.2
    match st, h with
    | .long x :: st, h => exact z_rowS (fun he hb hl k => lv_lstore_n he hb hd rfl hl.has ok.2 rfl (fun ls' hl' => k ls' (z_lv.st2 hl'))) (hK rfl _ _ _ h)
  | iinc n d =>
    simp only [z_okop, Bool.and_eq_true, decide_eq_true_eq] at ok
    obtain ⟨⟨ok0, ok1⟩, ok2, ok3⟩ := ok
    obtain rfl := z_len ok0
    obtain rfl := z_len ok1
    have h' : o_inc b (z_kI c a) (z_lg b L) K L st M := h
    cases hv : z_lg b L with
    | none => rw [hv] at h'; exact h'.elim
    | some v =>
      rw [hv] at h'
      match v, h', hv with
      | .int x, h', hv =>
        refine z_rowS (fun he hb hl k => ?_) (hK rfl _ _ _ h')
        have hm := z_ll_mem (G := G) L 0 b _ hv
        rw [Nat.zero_add] at hm
        obtain ⟨q, hq⟩ := List.getElem?_of_mem hm
        exact lv_iinc he hb hd hl.has (k := q) hq (by rw [ok3]) ok2 rfl (fun ls' hl' => k ls' (z_lv.st1 (v := .int (x + z_kI c a)) hl'))
  | iadd => obtain rfl := z_len ok; exact b2 h (fun e h => by subst e; exact z_row (fun hx hb k => lv_iadd hx hb hd k) (hK rfl _ _ _ h))
  | isub => obtain rfl := z_len ok; exact b2 h (fun e h => by subst e; exact z_row (fun hx hb k => lv_isub hx hb hd k) (hK rfl _ _ _ h))
  | imul => obtain rfl := z_len ok; exact b2 h (fun e h => by subst e; exact z_row (fun hx hb k => lv_imul hx hb hd k) (hK rfl _ _ _ h))
  | iand => obtain rfl := z_len ok; exact b2 h (fun e h => by subst e; exact z_row (fun hx hb k => lv_iand hx hb hd k) (hK rfl _ _ _ h))
  | ior => obtain rfl := z_len ok; exact b2 h (fun e h => by subst e; exact z_row (fun hx hb k => lv_ior hx hb hd k) (hK rfl _ _ _ h))
  | ixor => obtain rfl := z_len ok; exact b2 h (fun e h => by subst e; exact z_row (fun hx hb k => lv_ixor hx hb hd k) (hK rfl _ _ _ h))
  | ishl => obtain rfl := z_len ok; exact b2 h (fun e h => by subst e; exact z_row (fun hx hb k => lv_ishl hx hb hd k) (hK rfl _ _ _ h))
  | ishr => obtain rfl := z_len ok; exact b2 h (fun e h => by subst e; exact z_row (fun hx hb k => lv_ishr hx hb hd k) (hK rfl _ _ _ h))
  | iushr => obtain rfl := z_len ok; exact b2 h (fun e h => by subst e; exact z_row (fun hx hb k => lv_iushr hx hb hd rfl k) (hK rfl _ _ _ h))
  | idiv =>
    obtain rfl := z_len ok
    match st, h with
    | .int y :: .int x :: st, h => exact z_row (fun hx hb k => lv_idiv hx hb hd h.1 k) (hK rfl _ _ _ h.2)
  | irem =>
    obtain rfl := z_len ok
    match st, h with
    | .int y :: .int x :: st, h => exact z_row (fun hx hb k => lv_irem hx hb hd h.1 k) (hK rfl _ _ _ h.2)
  | ladd => obtain rfl := z_len ok; exact l2 h (fun e h => by subst e; exact z_row (fun hx hb k => lv_ladd hx hb hd k) (hK rfl _ _ _ h))
  | lsub => obtain rfl := z_len ok; exact l2 h (fun e h => by subst e; exact z_row (fun hx hb k => lv_lsub hx hb hd k) (hK rfl _ _ _ h))
  | lmul => obtain rfl := z_len ok; exact l2 h (fun e h => by subst e; exact z_row (fun hx hb k => lv_lmul hx hb hd k) (hK rfl _ _ _ h))
  | land => obtain rfl := z_len ok; exact l2 h (fun e h => by subst e; exact z_row (fun hx hb k => lv_land hx hb hd k) (hK rfl _ _ _ h))
  | lor => obtain rfl := z_len ok; exact l2 h (fun e h => by subst e; exact z_row (fun hx hb k => lv_lor hx hb hd k) (hK rfl _ _ _ h))
  | ldiv =>
    obtain rfl := z_len ok
    match st, h with
    | .long y :: .long x :: st, h => exact z_row (fun hx hb k => lv_ldiv hx hb hd h.1 k) (hK rfl _ _ _ h.2)
  | lrem =>
    obtain rfl := z_len ok
    match st, h with
    | .long y :: .long x :: st, h => exact z_row (fun hx hb k => lv_lrem hx hb hd h.1 k) (hK rfl _ _ _ h.2)
  | lshl =>
    obtain rfl := z_len ok
    match st, h with
    | .int y :: .long x :: st, h => exact z_row (fun hx hb k => lv_lshl hx hb hd rfl k) (hK rfl _ _ _ h)
  | lushr =>
    obtain rfl := z_len ok
    match st, h with
    | .int y :: .long x :: st, h => exact z_row (fun hx hb k => lv_lushr hx hb hd rfl k) (hK rfl _ _ _ h)
  | lneg =>
    obtain rfl := z_len ok
    match st, h with
    | .long x :: st, h => exact z_row (fun hx hb k => lv_lneg hx hb hd k) (hK rfl _ _ _ h)
  | i2l =>
    obtain rfl := z_len ok
    match st, h with
    | .int x :: st, h => exact z_row (fun hx hb k => lv_i2l hx hb hd rfl k) (hK rfl _ _ _ h)
  | l2i =>
    obtain rfl := z_len ok
    match st, h with
    | .long x :: st, h => exact z_row (fun hx hb k => lv_l2i hx hb hd rfl k) (hK rfl _ _ _ h)
  | lcmp =>
    obtain rfl := z_len ok
    match st, h with
    | .long y :: .long x :: st, h => exact z_row (fun hx hb k => W.lcmp hx hb hd k) (hK rfl _ _ _ h)
  | dup =>
    obtain rfl := z_len ok
    match st, h with
    | v :: st, h => exact z_row (fun hx hb k => lv_dup hx hb hd (h_c1 h.1) k) (hK rfl _ _ _ h.2)
  | dup_x1 =>
    obtain rfl := z_len ok
    match st, h with
    | v :: w :: st, h => exact z_row (fun hx hb k => lv_dup_x1 hx hb hd (h_c1 h.1.1) (h_c1 h.1.2) k) (hK rfl _ _ _ h.2)
  | dup2 =>
    obtain rfl := z_len ok
    match st, h with
    | v :: w :: st, h => exact z_row (fun hx hb k => lv_dup2_11 hx hb hd (h_c1 h.1.1) (h_c1 h.1.2) k) (hK rfl _ _ _ h.2)
  | goto off =>
    simp only [z_okop, Bool.and_eq_true] at ok
    obtain rfl := z_len ok.1
    exact z_row (fun hx hb k => lv_goto hx hb hd (z_jmpS ok.2) k) (hJ _ _ _ _ h)
  | ifCond cd off =>
    simp only [z_okop, Bool.and_eq_true] at ok
    obtain rfl := z_len ok.1
    cases cd with
    | ne => exact h_ifN hd (z_jmpS ok.2) hJ (hK rfl) h
    | eq => exact h_if (by simp) hd (z_jmpS ok.2) hJ (hK rfl) h
    | lt => exact h_if (by simp) hd (z_jmpS ok.2) hJ (hK rfl) h
    | ge => exact h_if (by simp) hd (z_jmpS ok.2) hJ (hK rfl) h
    | gt => exact h_if (by simp) hd (z_jmpS ok.2) hJ (hK rfl) h
    | le => exact h_if (by simp) hd (z_jmpS ok.2) hJ (hK rfl) h
  | if_icmp cd off =>
    simp only [z_okop, Bool.and_eq_true] at ok
    obtain rfl := z_len ok.1
    cases cd with
    | ne => exact h_ifN2 hd (z_jmpS ok.2) hJ (hK rfl) h
    | eq => exact h_if2 (by simp) hd (z_jmpS ok.2) hJ (hK rfl) h
    | lt => exact h_if2 (by simp) hd (z_jmpS ok.2) hJ (hK rfl) h
    | ge => exact h_if2 (by simp) hd (z_jmpS ok.2) hJ (hK rfl) h
    | gt => exact h_if2 (by simp) hd (z_jmpS ok.2) hJ (hK rfl) h
    | le => exact h_if2 (by simp) hd (z_jmpS ok.2) hJ (hK rfl) h
  | ifnull off =>
    simp only [z_okop, Bool.and_eq_true] at ok
    obtain rfl := z_len ok.1
    match st, h with
    | .null :: st, h => exact z_row (fun hx hb k => lv_ifnullN hx hb hd (z_jmpS ok.2) k) (hJ _ _ _ _ h)
    | .ref o :: st, h => exact z_row (fun hx hb k => lv_ifnull hx hb hd k) (hK rfl _ _ _ h)
  | ifnonnull off =>
    simp only [z_okop, Bool.and_eq_true] at ok
    obtain rfl := z_len ok.1
    match st, h with
    | .null :: st, h => exact z_row (fun hx hb k => lv_ifnonnullN hx hb hd k) (hK rfl _ _ _ h)
    | .ref o :: st, h => exact z_row (fun hx hb k => lv_ifnonnull hx hb hd (z_jmpS ok.2) k) (hJ _ _ _ _ h)
  | aconst_null => obtain rfl := z_len ok; exact z_row (fun hx hb k => lv_null hx hb hd k) (hK rfl _ _ _ h)
  | getfield i =>
    simp only [z_okop, Bool.and_eq_true, decide_eq_true_eq] at ok
    obtain rfl := z_len ok.1
    exact h_get hd ok.2.1 ok.2.2 (hK rfl) h
  | putfield i =>
    simp only [z_okop, Bool.and_eq_true, decide_eq_true_eq] at ok
    obtain rfl := z_len ok.1
    exact h_put hd ok.2.1 ok.2.2.1 ok.2.2.2 (hK rfl) h
  | getstatic i =>
    simp only [z_okop, Bool.and_eq_true] at ok
    obtain rfl := z_len ok.1
    exact s_gets hd (z_at_mem ok.2) (hK rfl _ _ _ h)
  | iaload =>
    obtain rfl := z_len ok
    match a, st, h with
    | 0, .int i :: .ref o :: st, h => exact s_iald (n := (M.2.2.2.1 o).2) hd (Prod.ext h.1.1 rfl) h.1.2 (hK rfl _ _ _ h.2)
    | 1, .int i :: .ref 0 :: st, h => exact s_ialdF hd h.1 (hK rfl _ _ _ h.2)
    | 2, .int i :: .ref 1 :: st, h => exact s_ialdX hd h.1 (hK rfl _ _ _ h.2)
  | baload =>
    obtain rfl := z_len ok
    match st, h with
    | .int i :: .ref o :: st, h => exact s_zald (n := (M.2.2.2.1 o).2) hd (Prod.ext h.1.1 rfl) h.1.2 (hK rfl _ _ _ h.2)
  | aaload =>
    obtain rfl := z_len ok
    match st, h with
    | .int i :: .ref o :: st, h => exact s_aald (k := (M.2.2.2.1 o).1) (n := (M.2.2.2.1 o).2) hd rfl h.1.1 h.1.2 (hK rfl _ _ _ h.2)
  | arraylength =>
    obtain rfl := z_len ok
    match st, h with
    | .ref 1 :: st, h => exact s_alen hd (hK rfl _ _ _ h)
  | iastore =>
    obtain rfl := z_len ok
    match st, h with
    | .int x :: .int i :: .ref o :: st, h => exact s_iast (n := (M.2.2.2.1 o).2) hd (Prod.ext h.1.1 rfl) h.1.2 (hK rfl _ _ _ h.2)
  | bastore =>
    obtain rfl := z_len ok
    match st, h with
    | .int x :: .int i :: .ref o :: st, h => exact s_zast (n := (M.2.2.2.1 o).2) hd (Prod.ext h.1.1.1 rfl) h.1.1.2 h.1.2 (hK rfl _ _ _ h.2)
  | aastore =>
    obtain rfl := z_len ok
    match st, h with
    | .ref v :: .int i :: .ref o :: st, h => exact s_aast (k := (M.2.2.2.1 o).1) (n := (M.2.2.2.1 o).2) hd rfl h.1.1.1 h.1.1.2 h.1.2 (hK rfl _ _ _ h.2)
  | new i =>
    simp only [z_okop, Bool.and_eq_true] at ok
    obtain rfl := z_len ok.1
    have ok2 := ok.2
    unfold z_clk at ok2
    cases hc : z_cls[a]? with
    | none => rw [hc] at ok2; cases ok2
    | some r =>
      rw [hc] at ok2
      simp only [Bool.and_eq_true, decide_eq_true_eq] at ok2
      obtain ⟨rfl, hw⟩ := ok2
      exact s_new hd hc (z_at_mem hw) h.1 (hK rfl _ _ _ h.2)
  | newarray t =>
    cases t with
    | int =>
      obtain rfl := z_len ok
      match st, h with
      | .int n :: st, h => exact s_newaP hd (Or.inl ⟨rfl, rfl⟩) h.1.1 h.1.2.1 h.1.2.2 (hK rfl _ _ _ h.2)
    | boolean =>
      obtain rfl := z_len ok
      match st, h with
      | .int n :: st, h => exact s_newaP hd (Or.inr ⟨rfl, rfl⟩) h.1.1 h.1.2.1 h.1.2.2 (hK rfl _ _ _ h.2)
    | _ => exact h.elim
  | anewarray i =>
    simp only [z_okop, Bool.and_eq_true, decide_eq_true_eq] at ok
    obtain ⟨ok0, ⟨k1, k2⟩, ok2⟩ := ok
    obtain rfl := z_len ok0
    unfold z_clk at ok2
    cases hc : z_cls[z_ac a]? with
    | none => rw [hc] at ok2; cases ok2
    | some r =>
      rw [hc] at ok2
      simp only [Bool.and_eq_true] at ok2
      match st, h with
      | .int n :: st, h => exact s_newaR hd ⟨k1, k2⟩ hc (z_at_mem ok2.2) h.1.1 h.1.2.1 h.1.2.2 (hK rfl _ _ _ h.2)
  | invokevirtual i =>
    simp only [z_okop, Bool.and_eq_true, decide_eq_true_eq, z_nocell] at ok
    obtain ⟨ok0, ⟨ok1, ok2⟩, ok3, ok4, ok5⟩ := ok
    obtain rfl := z_len ok0
    match b, c, ok2, h with
    | n + 1, k + 1, ok2, h =>
      simp only [Bool.and_eq_true, z_calls, decide_eq_true_eq, z_cic] at ok2
      have hcl : ∃ r : vw_C, z_cls[k]? = some r ∧ r.1 = (z_my a).cls := by
        cases hc : z_cls[k]? with
        | none => rw [hc] at ok2; exact absurd ok2.2 (by simp)
        | some r => rw [hc] at ok2; exact ⟨r, rfl, of_decide_eq_true ok2.2⟩
      exact s_callV hd ok2.1.1 (z_at_mem ok1) ok2.1.2 ok3 ⟨ok4, ok5⟩ hcl (hK rfl) h
  | invokestatic i =>
    simp only [z_okop, Bool.and_eq_true, decide_eq_true_eq, z_nocell, z_calls, beq_iff_eq] at ok
    obtain ⟨ok0, ⟨ok1, rfl, ok2, ok6⟩, ok3, ok4, ok5⟩ := ok
    subst ok0
    exact s_callS hd ok2 (z_at_mem ok1) ok6 ok3 ⟨ok4, ok5⟩ (hK rfl) h
  | invokespecial i =>
    simp only [z_okop, Bool.and_eq_true] at ok
    obtain ⟨ok0, ok⟩ := ok
    obtain rfl := z_len ok0
    have h' : (if c = 99 then o_obj K L st M else o_callN (z_Ok l G) (z_rm mid) z0 a b c K L st M) := h
    by_cases hc : c = 99
    · rw [if_pos hc] at ok h'
      simp only [Bool.and_eq_true, decide_eq_true_eq] at ok
      match st, h' with
      | .ref o :: st, h => exact s_obj hd (z_at_mem ok.1) ok.2 h.1 (hK rfl _ _ _ h.2)
    · rw [if_neg hc] at ok h'
      simp only [Bool.and_eq_true, decide_eq_true_eq, Bool.or_eq_true] at ok
      obtain ⟨ok1, ok2, ok3, ok4⟩ := ok
      match b, c, ok2, h' with
      | n + 1, k + 1, ok2, h' =>
        simp only [Bool.and_eq_true, z_calls, decide_eq_true_eq] at ok2
        refine s_callI (c9 := k) hd ok2.1 ?_ ok2.2 ok3 ok4 (hK rfl) h'
        rcases ok1 with h | h
        · exact Or.inl (z_at_mem h)
        · refine Or.inr ?_
          unfold z_nst at h
          cases hq : z_nest[pl]? with
          | none => rw [hq] at h; cases h
          | some q =>
            rw [hq] at h
            simp only [Bool.and_eq_true, decide_eq_true_eq] at h
            obtain ⟨q1, q2, q3, q4⟩ := q
            obtain ⟨rfl, rfl, rfl⟩ := h
            exact ⟨q4, List.mem_of_getElem? hq⟩
  | ireturn =>
    simp only [z_okop, Bool.and_eq_true] at ok
    obtain rfl := z_len ok.1
    have ok2 := ok.2
    cases hr : z_mr mid with
    | none => rw [hr] at ok2; cases ok2
    | some t =>
      rw [hr] at ok2
      cases t with
      | int =>
        have ha : a = 0 := by simpa using ok2
        subst ha
        match st, h with
        | [.int x], h => exact s_end (v := some (.int x)) ⟨hd, _, hr, rfl⟩ h
      | boolean =>
        have ha : a = 1 := by simpa using ok2
        subst ha
        match st, h with
        | [.int x], h => exact s_end (v := some (.int x)) ⟨hd, _, hr, by rcases h.1 with rfl | rfl <;> rfl⟩ h.2
      | _ => cases ok2
  | lreturn =>
    simp only [z_okop, Bool.and_eq_true, decide_eq_true_eq] at ok
    obtain rfl := z_len ok.1
    match st, h with
    | [.long x], h => exact s_end (v := some (.long x)) ⟨hd, ok.2⟩ h
  | return_ =>
    simp only [z_okop, Bool.and_eq_true, decide_eq_true_eq] at ok
    obtain rfl := z_len ok.1
    match st, h with
    | [], h => exact s_end (v := none) ⟨hd, ok.2⟩ h
  | tableswitch d lo hi offs =>
    simp only [z_okop, Bool.and_eq_true, decide_eq_true_eq, List.all_eq_true, beq_iff_eq] at ok
    obtain ⟨⟨rfl, rfl, rfl, hc1⟩, ⟨hd0, hlh, hsz⟩, hall⟩ := ok
    match st, h with
    | .int x :: st, h =>
      intro p e s m args below meth c' H locs cells slots ls Z hS hN hM hl hlo hC hR
      by_cases q1 : x.toInt < (b : Int)
      · exact lv_tableOut hS.1.1 hS.1.2 hd (Or.inl q1) (z_tgtS hd0) (hJ _ _ _ _ (h.1 (Int32.lt_iff_toInt_lt.mpr (by rw [nI_toInt (by omega)]; exact q1))) p e s m args below meth c' H locs cells slots ls Z hS hN hM hl hlo hC hR)
      · by_cases q2 : (c : Int) < x.toInt
        · exact lv_tableOut hS.1.1 hS.1.2 hd (Or.inr q2) (z_tgtS hd0) (hJ _ _ _ _ (h.2.1 (Int32.lt_iff_toInt_lt.mpr (by rw [nI_toInt (by omega)]; exact q2))) p e s m args below meth c' H locs cells slots ls Z hS hN hM hl hlo hC hR)
        · have hlt : (x.toInt - b).toNat < offs.size := by omega
          have ho : offs[(x.toInt - b).toNat]? = some offs[(x.toInt - b).toNat] := Array.getElem?_eq_getElem hlt
          have ho2 : offs.toList[(x.toInt - b).toNat]? = some offs[(x.toInt - b).toNat] := by rw [Array.getElem?_toList]; exact ho
          refine lv_tableIn hS.1.1 hS.1.2 hd q1 q2 ho (z_tgtS (hall _ (List.mem_of_getElem? ho2))) ?_
          exact h_tswS hJ offs.toList b (by simp only [Array.length_toList]; omega) h.2.2 _ _ ho2 (by omega) p e s m args below meth c' H locs cells slots ls Z hS hN hM hl hlo hC hR
  | lookupswitch d ps =>
    simp only [z_okop, Bool.and_eq_true, decide_eq_true_eq, beq_iff_eq] at ok
    obtain ⟨⟨rfl, hsort⟩, hd0, hall⟩ := ok
    rw [List.all_eq_true] at hall
    match st, h with
    | .int x :: st, h =>
      intro p e s m args below meth c' H locs cells slots ls Z hS hN hM hl hlo hC hR
      have hge : 0 ≤ (a : Int) + Op.lookupswitch.offset ps.toList d x.toInt := by
        have : ∀ (l : List (Int × Int)), (∀ q ∈ l, 0 ≤ (a : Int) + q.2) → 0 ≤ (a : Int) + Op.lookupswitch.offset l d x.toInt := by
          intro l
          induction l with
          | nil => intro _; exact hd0
          | cons q r ih =>
            intro hq
            obtain ⟨k, t⟩ := q
            rw [Op.lookupswitch.offset_cons]
            split
            · exact hq (k, t) List.mem_cons_self
            · exact ih (fun q hq' => hq q (List.mem_cons_of_mem _ hq'))
        refine this _ fun q hq => ?_
        have := hall q hq
        simp only [Bool.and_eq_true, decide_eq_true_eq] at this
        exact this.1
      refine lv_lookup hS.1.1 hS.1.2 hd hsort rfl (z_tgtS hge) ?_
      refine h_lswS hJ ps.toList (fun q hq => ?_) h p e s m args below meth c' H locs cells slots ls Z hS hN hM hl hlo hC hR
      have := hall q hq
      simp only [Bool.and_eq_true, decide_eq_true_eq] at this
      exact this.2
  | _ => exact h.elim
theorem z_wp_sound {J : Nat → ZK} {e : Nat} (hJ : ∀ t L st M, J t L st M → z_W l G mid z0 Rt t L st M) : ∀ (ops : List ZO) (pc : Nat) (pl : List Nat), z_chk mid ops pc e pl = true → ∀ L st M, z_wp G mid z0 (z_Ok l G) Rt J (J e) ops L st M → z_W l G mid z0 Rt pc L st M
  | [], pc, pl, hc, L, st, M, h => by
    have : pc = e := by simpa [z_chk] using hc
    subst this
    exact hJ _ _ _ _ h
  | (i, a, b, c) :: r, pc, pl, hc, L, st, M, h => by
    unfold z_chk at hc
    cases hd : decode (z_mc mid) pc with
    | error x => rw [hd] at hc; cases hc
    | ok q =>
      obtain ⟨j, len⟩ := q
      rw [hd] at hc
      simp only [Bool.and_eq_true, decide_eq_true_eq] at hc
      obtain ⟨rfl, ok, hr⟩ := hc
      refine z_hd_sound hJ hd ok (fun ht L st M h => ?_) h
      rw [if_neg (by rw [ht]; simp)] at hr
      exact z_wp_sound hJ r _ _ hr L st M h
theorem z_fd_chk {bk : List (Nat × ZE)} : ∀ (pl : List (List Nat)), z_chks mid bk pl = true → ∀ (pc : Nat) (x : ZE), z_fd bk pc = some x → ∃ q, z_chk mid x.2.2.1 pc x.2.2.2 q = true := by
  induction bk with
  | nil => intro pl h pc x hx; cases hx
  | cons k t ih =>
    intro pl h pc x hx
    obtain ⟨k, y⟩ := k
    simp only [z_chks, Bool.and_eq_true] at h
    unfold z_fd at hx
    by_cases e : pc = k
    · rw [if_pos e] at hx
      cases hx
      subst e
      exact ⟨_, h.1⟩
    · rw [if_neg e] at hx
      exact ih _ h.2 pc x hx
theorem z_q_sound {bk : List (Nat × ZE)} {pl : List (List Nat)} (hc : z_chks mid bk pl = true) : ∀ (n pc : Nat) (L : ZL) (st : List Value) (M : ZM), z_q G mid z0 bk (z_Ok l G) Rt (z_W l G mid z0 Rt) n pc L st M → z_W l G mid z0 Rt pc L st M
  | 0, pc, L, st, M, h => h
  | n + 1, pc, L, st, M, h => by
    unfold z_q at h
    cases hf : z_fd bk pc with
    | none => rw [hf] at h; exact h
    | some x =>
      obtain ⟨cut, bs, ops, e⟩ := x
      rw [hf] at h
      cases cut with
      | true => exact z_mask bs h
      | false =>
        obtain ⟨q, hq⟩ := z_fd_chk pl hc pc _ hf
        exact z_mask bs (z_wp_sound (fun t L st M h => z_q_sound hc n t L st M h) ops pc q hq _ st M h)
/-- from a block on, to the next cuts -/
theorem z_run {bk : List (Nat × ZE)} {pl : List (List Nat)} (hc : z_chks mid bk pl = true) {pc : Nat} (n : Nat) {cut : Bool} {bs : List Bool} {ops : List ZO} {e : Nat} (hf : z_fd bk pc = some (cut, bs, ops, e)) {L : ZL} {st : List Value} {M : ZM} (h : z_wp G mid z0 (z_Ok l G) Rt (z_q G mid z0 bk (z_Ok l G) Rt (z_W l G mid z0 Rt) n) (z_q G mid z0 bk (z_Ok l G) Rt (z_W l G mid z0 Rt) n e) ops (z_mk1 bs L) st M) : z_W l G mid z0 Rt pc L st M := by
  obtain ⟨q, hq⟩ := z_fd_chk pl hc pc _ hf
  exact z_mask bs (z_wp_sound (fun t L st M h => z_q_sound hc n t L st M h) ops pc q hq _ st M h)
end
theorem z_chks_cons {mid pc e : Nat} {cut : Bool} {bs : List Bool} {ops : List ZO} {t : List (Nat × ZE)} {q : List Nat} {pl : List (List Nat)} (h1 : z_chk mid ops pc e q = true) (h2 : z_chks mid t pl = true) : z_chks mid ((pc, cut, bs, ops, e) :: t) (q :: pl) = true := by
  simp only [z_chks, List.headD_cons, List.tail_cons, h1, h2, Bool.and_self]
theorem z_chks_nil {mid : Nat} : z_chks mid [] [] = true := rfl
end
section
/-! the code of the methods in blocks (written by wip/whole/gen08.py): (instruction, what it means) *, checked against the bytes -/
-- 0 History_init
def bo_0_0 : List ZO := [(.aload_n 0, 0, 0, 0), (.invokespecial 3, 0, 1, 99), (.aload_n 0, 0, 0, 0), (.bipush 14, 14, 0, 0), (.anewarray 9, 6, 0, 0), (.putfield 11, 0, 0, 2), (.iconst 0, 0, 0, 0), (.istore_n 1, 1, 0, 0)]
def bo_0_15 : List ZO := [(.iload_n 1, 1, 0, 0), (.bipush 14, 14, 0, 0), (.if_icmp .ge 22, 40, 0, 0), (.aload_n 0, 0, 0, 0), (.getfield 11, 0, 0, 2), (.iload_n 1, 1, 0, 0), (.new 9, 2, 7, 0), (.dup, 0, 0, 0), (.invokespecial 17, 11, 1, 3), (.aastore, 0, 0, 0), (.iinc 1 1, 1, 1, 0), (.goto (-22), 15, 0, 0)]
def bo_0_40 : List ZO := [(.return_, 0, 0, 0)]
def bk_0 : List (Nat × ZE) := [(0, false, [true, false], bo_0_0, 15), (15, true, [true, true], bo_0_15, 0), (40, false, [false, false], bo_0_40, 0)]
theorem ck_0 : z_chks 0 bk_0 [[243, 244, 247], [247, 244, 246], []] = true := by decide +kernel
theorem bf_0_0 : z_fd bk_0 0 = some (false, [true, false], bo_0_0, 15) := rfl
theorem bf_0_15 : z_fd bk_0 15 = some (true, [true, true], bo_0_15, 0) := rfl
theorem bf_0_40 : z_fd bk_0 40 = some (false, [false, false], bo_0_40, 0) := rfl
theorem cl_0 : z_mL 0 = 2 := by decide +kernel
theorem cz_0 : plainFor (z_my 0) = true ∧ ((z_rm 0).cells = 281 ∧ (z_rm 0).slots = 3248) := by decide +kernel
-- 1 History_clear
def bo_1_0 : List ZO := [(.aload_n 0, 0, 0, 0), (.iconst 0, 0, 0, 0), (.putfield 18, 0, 2, 0), (.return_, 0, 0, 0)]
def bk_1 : List (Nat × ZE) := [(0, false, [true], bo_1_0, 0)]
theorem ck_1 : z_chks 1 bk_1 [[249]] = true := by decide +kernel
theorem bf_1_0 : z_fd bk_1 0 = some (false, [true], bo_1_0, 0) := rfl
theorem cl_1 : z_mL 1 = 1 := by decide +kernel
theorem cz_1 : plainFor (z_my 1) = true ∧ ((z_rm 1).cells = 0 ∧ (z_rm 1).slots = 0) := by decide +kernel
-- 2 History_push
def bo_2_0 : List ZO := [(.aload_n 0, 0, 0, 0), (.getfield 18, 0, 2, 0), (.bipush 14, 14, 0, 0), (.if_icmp .ne 26, 32, 0, 0), (.aload_n 0, 0, 0, 0), (.aload_n 0, 0, 0, 0), (.getfield 22, 0, 1, 0), (.iconst 1, 1, 0, 0), (.iadd, 0, 0, 0), (.bipush 14, 14, 0, 0), (.irem, 0, 0, 0), (.putfield 22, 0, 1, 0), (.aload_n 0, 0, 0, 0), (.dup, 0, 0, 0), (.getfield 18, 0, 2, 0), (.iconst 1, 1, 0, 0), (.isub, 0, 0, 0), (.putfield 18, 0, 2, 0), (.aload_n 0, 0, 0, 0), (.getfield 11, 0, 0, 2), (.aload_n 0, 0, 0, 0), (.getfield 22, 0, 1, 0), (.aload_n 0, 0, 0, 0), (.getfield 18, 0, 2, 0), (.iadd, 0, 0, 0), (.bipush 14, 14, 0, 0), (.irem, 0, 0, 0), (.aaload, 0, 0, 0), (.aload_n 1, 1, 0, 0), (.invokevirtual 25, 13, 2, 3), (.aload_n 0, 0, 0, 0), (.dup, 0, 0, 0), (.getfield 18, 0, 2, 0), (.iconst 1, 1, 0, 0), (.iadd, 0, 0, 0), (.putfield 18, 0, 2, 0), (.return_, 0, 0, 0)]
def bo_2_32 : List ZO := [(.aload_n 0, 0, 0, 0), (.getfield 11, 0, 0, 2), (.aload_n 0, 0, 0, 0), (.getfield 22, 0, 1, 0), (.aload_n 0, 0, 0, 0), (.getfield 18, 0, 2, 0), (.iadd, 0, 0, 0), (.bipush 14, 14, 0, 0), (.irem, 0, 0, 0), (.aaload, 0, 0, 0), (.aload_n 1, 1, 0, 0), (.invokevirtual 25, 13, 2, 3), (.aload_n 0, 0, 0, 0), (.dup, 0, 0, 0), (.getfield 18, 0, 2, 0), (.iconst 1, 1, 0, 0), (.iadd, 0, 0, 0), (.putfield 18, 0, 2, 0), (.return_, 0, 0, 0)]
def bk_2 : List (Nat × ZE) := [(0, false, [true, true], bo_2_0, 0), (32, false, [true, true], bo_2_32, 0)]
theorem ck_2 : z_chks 2 bk_2 [[249, 248, 248, 249, 249, 247, 248, 249, 497, 249, 249], [247, 248, 249, 497, 249, 249]] = true := by decide +kernel
theorem bf_2_0 : z_fd bk_2 0 = some (false, [true, true], bo_2_0, 0) := rfl
theorem bf_2_32 : z_fd bk_2 32 = some (false, [true, true], bo_2_32, 0) := rfl
theorem cl_2 : z_mL 2 = 2 := by decide +kernel
theorem cz_2 : plainFor (z_my 2) = true ∧ ((z_rm 2).cells = 0 ∧ (z_rm 2).slots = 0) := by decide +kernel
-- 3 History_popInto
def bo_3_0 : List ZO := [(.aload_n 0, 0, 0, 0), (.getfield 18, 0, 2, 0), (.ifCond .le 34, 38, 0, 0), (.aload_n 0, 0, 0, 0), (.dup, 0, 0, 0), (.getfield 18, 0, 2, 0), (.iconst 1, 1, 0, 0), (.isub, 0, 0, 0), (.putfield 18, 0, 2, 0), (.aload_n 1, 1, 0, 0), (.aload_n 0, 0, 0, 0), (.getfield 11, 0, 0, 2), (.aload_n 0, 0, 0, 0), (.getfield 22, 0, 1, 0), (.aload_n 0, 0, 0, 0), (.getfield 18, 0, 2, 0), (.iadd, 0, 0, 0), (.bipush 14, 14, 0, 0), (.irem, 0, 0, 0), (.aaload, 0, 0, 0), (.invokevirtual 25, 13, 2, 3), (.return_, 0, 0, 0)]
def bo_3_38 : List ZO := [(.return_, 0, 0, 0)]
def bk_3 : List (Nat × ZE) := [(0, false, [true, true], bo_3_0, 0), (38, false, [false, false], bo_3_38, 0)]
theorem ck_3 : z_chks 3 bk_3 [[249, 249, 249, 247, 248, 249, 497], []] = true := by decide +kernel
theorem bf_3_0 : z_fd bk_3 0 = some (false, [true, true], bo_3_0, 0) := rfl
theorem bf_3_38 : z_fd bk_3 38 = some (false, [false, false], bo_3_38, 0) := rfl
theorem cl_3 : z_mL 3 = 2 := by decide +kernel
theorem cz_3 : plainFor (z_my 3) = true ∧ ((z_rm 3).cells = 0 ∧ (z_rm 3).slots = 0) := by decide +kernel
-- 4 Link_init
def bo_4_0 : List ZO := [(.aload_n 0, 0, 0, 0), (.invokespecial 1, 0, 1, 99), (.return_, 0, 0, 0)]
def bk_4 : List (Nat × ZE) := [(0, false, [true], bo_4_0, 0)]
theorem ck_4 : z_chks 4 bk_4 [[171]] = true := by decide +kernel
theorem bf_4_0 : z_fd bk_4 0 = some (false, [true], bo_4_0, 0) := rfl
theorem cl_4 : z_mL 4 = 1 := by decide +kernel
theorem cz_4 : plainFor (z_my 4) = true ∧ ((z_rm 4).cells = 0 ∧ (z_rm 4).slots = 0) := by decide +kernel
-- 5 Link_reset
def bo_5_0 : List ZO := [(.aload_n 0, 0, 0, 0), (.iload_n 1, 1, 0, 0), (.putfield 7, 1, 0, 0), (.aload_n 0, 0, 0, 0), (.iload_n 2, 2, 0, 0), (.putfield 13, 1, 1, 0), (.aload_n 0, 0, 0, 0), (.iload_n 3, 3, 0, 0), (.putfield 16, 1, 2, 0), (.aload_n 0, 0, 0, 0), (.iload 4, 4, 0, 0), (.putfield 19, 1, 3, 0), (.aload_n 0, 0, 0, 0), (.iload 5, 5, 0, 0), (.putfield 22, 1, 4, 0), (.aload_n 0, 0, 0, 0), (.iconst 0, 0, 0, 0), (.putfield 25, 1, 6, 3), (.aload_n 0, 0, 0, 0), (.invokevirtual 29, 9, 1, 2), (.return_, 0, 0, 0)]
def bk_5 : List (Nat × ZE) := [(0, false, [true, true, true, true, true, true], bo_5_0, 0)]
theorem ck_5 : z_chks 5 bk_5 [[172, 175, 178, 180, 182, 187, 387]] = true := by decide +kernel
theorem bf_5_0 : z_fd bk_5 0 = some (false, [true, true, true, true, true, true], bo_5_0, 0) := rfl
theorem cl_5 : z_mL 5 = 6 := by decide +kernel
theorem cz_5 : plainFor (z_my 5) = true ∧ ((z_rm 5).cells = 0 ∧ (z_rm 5).slots = 0) := by decide +kernel
-- 6 Link_copyFrom
def bo_6_0 : List ZO := [(.aload_n 0, 0, 0, 0), (.aload_n 1, 1, 0, 0), (.getfield 7, 1, 0, 0), (.putfield 7, 1, 0, 0), (.aload_n 0, 0, 0, 0), (.aload_n 1, 1, 0, 0), (.getfield 13, 1, 1, 0), (.putfield 13, 1, 1, 0), (.aload_n 0, 0, 0, 0), (.aload_n 1, 1, 0, 0), (.getfield 16, 1, 2, 0), (.putfield 16, 1, 2, 0), (.aload_n 0, 0, 0, 0), (.aload_n 1, 1, 0, 0), (.getfield 19, 1, 3, 0), (.putfield 19, 1, 3, 0), (.aload_n 0, 0, 0, 0), (.aload_n 1, 1, 0, 0), (.getfield 22, 1, 4, 0), (.putfield 22, 1, 4, 0), (.aload_n 0, 0, 0, 0), (.aload_n 1, 1, 0, 0), (.getfield 32, 1, 5, 0), (.putfield 32, 1, 5, 0), (.aload_n 0, 0, 0, 0), (.aload_n 1, 1, 0, 0), (.getfield 25, 1, 6, 3), (.putfield 25, 1, 6, 3), (.return_, 0, 0, 0)]
def bk_6 : List (Nat × ZE) := [(0, false, [true, true], bo_6_0, 0)]
theorem ck_6 : z_chks 6 bk_6 [[172, 172, 175, 175, 178, 178, 180, 180, 182, 182, 184, 184, 187, 187]] = true := by decide +kernel
theorem bf_6_0 : z_fd bk_6 0 = some (false, [true, true], bo_6_0, 0) := rfl
theorem cl_6 : z_mL 6 = 2 := by decide +kernel
theorem cz_6 : plainFor (z_my 6) = true ∧ ((z_rm 6).cells = 0 ∧ (z_rm 6).slots = 0) := by decide +kernel
-- 7 Link_flip
def bo_7_0 : List ZO := [(.aload_n 0, 0, 0, 0), (.aload_n 0, 0, 0, 0), (.getfield 25, 1, 6, 3), (.ifCond .ne 7, 12, 0, 0), (.iconst 1, 1, 0, 0), (.goto 4, 13, 0, 0)]
def bo_7_12 : List ZO := [(.iconst 0, 0, 0, 0), (.putfield 25, 1, 6, 3), (.return_, 0, 0, 0)]
def bo_7_13 : List ZO := [(.putfield 25, 1, 6, 3), (.return_, 0, 0, 0)]
def bk_7 : List (Nat × ZE) := [(0, false, [true], bo_7_0, 0), (12, false, [false], bo_7_12, 0), (13, false, [false], bo_7_13, 0)]
theorem ck_7 : z_chks 7 bk_7 [[187], [187], [187]] = true := by decide +kernel
theorem bf_7_0 : z_fd bk_7 0 = some (false, [true], bo_7_0, 0) := rfl
theorem bf_7_12 : z_fd bk_7 12 = some (false, [false], bo_7_12, 0) := rfl
theorem bf_7_13 : z_fd bk_7 13 = some (false, [false], bo_7_13, 0) := rfl
theorem cl_7 : z_mL 7 = 1 := by decide +kernel
theorem cz_7 : plainFor (z_my 7) = true ∧ ((z_rm 7).cells = 0 ∧ (z_rm 7).slots = 0) := by decide +kernel
-- 8 Link_setLoss
def bo_8_0 : List ZO := [(.iload_n 1, 1, 0, 0), (.ifCond .eq 11, 12, 0, 0), (.aload_n 0, 0, 0, 0), (.iload_n 2, 2, 0, 0), (.putfield 19, 1, 3, 0), (.goto 8, 17, 0, 0)]
def bo_8_12 : List ZO := [(.aload_n 0, 0, 0, 0), (.iload_n 2, 2, 0, 0), (.putfield 16, 1, 2, 0), (.aload_n 0, 0, 0, 0), (.invokevirtual 29, 9, 1, 2), (.return_, 0, 0, 0)]
def bo_8_17 : List ZO := [(.aload_n 0, 0, 0, 0), (.invokevirtual 29, 9, 1, 2), (.return_, 0, 0, 0)]
def bk_8 : List (Nat × ZE) := [(0, false, [true, true, true], bo_8_0, 0), (12, false, [true, false, true], bo_8_12, 0), (17, false, [true, false, false], bo_8_17, 0)]
theorem ck_8 : z_chks 8 bk_8 [[180], [178, 387], [387]] = true := by decide +kernel
theorem bf_8_0 : z_fd bk_8 0 = some (false, [true, true, true], bo_8_0, 0) := rfl
theorem bf_8_12 : z_fd bk_8 12 = some (false, [true, false, true], bo_8_12, 0) := rfl
theorem bf_8_17 : z_fd bk_8 17 = some (false, [true, false, false], bo_8_17, 0) := rfl
theorem cl_8 : z_mL 8 = 3 := by decide +kernel
theorem cz_8 : plainFor (z_my 8) = true ∧ ((z_rm 8).cells = 0 ∧ (z_rm 8).slots = 0) := by decide +kernel
-- 9 Link_computeAirtime
def bo_9_0 : List ZO := [(.bipush 10, 10, 0, 0), (.aload_n 0, 0, 0, 0), (.getfield 16, 1, 2, 0), (.isub, 0, 0, 0), (.bipush 10, 10, 0, 0), (.aload_n 0, 0, 0, 0), (.getfield 19, 1, 3, 0), (.isub, 0, 0, 0), (.imul, 0, 0, 0), (.istore_n 1, 1, 0, 0), (.iload_n 1, 1, 0, 0), (.ifCond .le 20, 37, 0, 0), (.aload_n 0, 0, 0, 0), (.bipush 100, 100, 0, 0), (.aload_n 0, 0, 0, 0), (.getfield 22, 1, 4, 0), (.imul, 0, 0, 0), (.iload_n 1, 1, 0, 0), (.iadd, 0, 0, 0), (.iconst 1, 1, 0, 0), (.isub, 0, 0, 0), (.iload_n 1, 1, 0, 0), (.idiv, 0, 0, 0), (.putfield 32, 1, 5, 0), (.return_, 0, 0, 0)]
def bo_9_37 : List ZO := [(.return_, 0, 0, 0)]
def bk_9 : List (Nat × ZE) := [(0, false, [true, false], bo_9_0, 0), (37, false, [false, false], bo_9_37, 0)]
theorem ck_9 : z_chks 9 bk_9 [[178, 180, 182, 184], []] = true := by decide +kernel
theorem bf_9_0 : z_fd bk_9 0 = some (false, [true, false], bo_9_0, 0) := rfl
theorem bf_9_37 : z_fd bk_9 37 = some (false, [false, false], bo_9_37, 0) := rfl
theorem cl_9 : z_mL 9 = 2 := by decide +kernel
theorem cz_9 : plainFor (z_my 9) = true ∧ ((z_rm 9).cells = 0 ∧ (z_rm 9).slots = 0) := by decide +kernel
-- 10 Link_joins
def bo_10_0 : List ZO := [(.aload_n 0, 0, 0, 0), (.getfield 7, 1, 0, 0), (.iload_n 1, 1, 0, 0), (.if_icmp .ne 11, 16, 0, 0), (.aload_n 0, 0, 0, 0), (.getfield 13, 1, 1, 0), (.iload_n 2, 2, 0, 0), (.if_icmp .eq 19, 32, 0, 0), (.aload_n 0, 0, 0, 0), (.getfield 7, 1, 0, 0), (.iload_n 2, 2, 0, 0), (.if_icmp .ne 15, 36, 0, 0), (.aload_n 0, 0, 0, 0), (.getfield 13, 1, 1, 0), (.iload_n 1, 1, 0, 0), (.if_icmp .ne 7, 36, 0, 0), (.iconst 1, 1, 0, 0), (.goto 4, 37, 0, 0)]
def bo_10_16 : List ZO := [(.aload_n 0, 0, 0, 0), (.getfield 7, 1, 0, 0), (.iload_n 2, 2, 0, 0), (.if_icmp .ne 15, 36, 0, 0), (.aload_n 0, 0, 0, 0), (.getfield 13, 1, 1, 0), (.iload_n 1, 1, 0, 0), (.if_icmp .ne 7, 36, 0, 0), (.iconst 1, 1, 0, 0), (.goto 4, 37, 0, 0)]
def bo_10_32 : List ZO := [(.iconst 1, 1, 0, 0), (.goto 4, 37, 0, 0)]
def bo_10_36 : List ZO := [(.iconst 0, 0, 0, 0), (.ireturn, 1, 0, 0)]
def bo_10_37 : List ZO := [(.ireturn, 1, 0, 0)]
def bk_10 : List (Nat × ZE) := [(0, false, [true, true, true], bo_10_0, 0), (16, false, [true, true, true], bo_10_16, 0), (32, false, [false, false, false], bo_10_32, 0), (36, false, [false, false, false], bo_10_36, 0), (37, false, [false, false, false], bo_10_37, 0)]
theorem ck_10 : z_chks 10 bk_10 [[172, 175, 172, 175], [172, 175], [], [], []] = true := by decide +kernel
theorem bf_10_0 : z_fd bk_10 0 = some (false, [true, true, true], bo_10_0, 0) := rfl
theorem bf_10_16 : z_fd bk_10 16 = some (false, [true, true, true], bo_10_16, 0) := rfl
theorem bf_10_32 : z_fd bk_10 32 = some (false, [false, false, false], bo_10_32, 0) := rfl
theorem bf_10_36 : z_fd bk_10 36 = some (false, [false, false, false], bo_10_36, 0) := rfl
theorem bf_10_37 : z_fd bk_10 37 = some (false, [false, false, false], bo_10_37, 0) := rfl
theorem cl_10 : z_mL 10 = 3 := by decide +kernel
theorem cz_10 : plainFor (z_my 10) = true ∧ ((z_rm 10).cells = 0 ∧ (z_rm 10).slots = 0) := by decide +kernel
-- 11 Mesh_init
def bo_11_0 : List ZO := [(.aload_n 0, 0, 0, 0), (.invokespecial 3, 0, 1, 99), (.aload_n 0, 0, 0, 0), (.bipush 8, 8, 0, 0), (.anewarray 9, 4, 0, 0), (.putfield 11, 2, 0, 2), (.iconst 0, 0, 0, 0), (.istore_n 1, 1, 0, 0)]
def bo_11_15 : List ZO := [(.iload_n 1, 1, 0, 0), (.bipush 8, 8, 0, 0), (.if_icmp .ge 22, 40, 0, 0), (.aload_n 0, 0, 0, 0), (.getfield 11, 2, 0, 2), (.iload_n 1, 1, 0, 0), (.new 9, 3, 18, 0), (.dup, 0, 0, 0), (.invokespecial 17, 32, 1, 4), (.aastore, 0, 0, 0), (.iinc 1 1, 1, 1, 0), (.goto (-22), 15, 0, 0)]
def bo_11_40 : List ZO := [(.aload_n 0, 0, 0, 0), (.bipush 9, 9, 0, 0), (.anewarray 18, 5, 0, 0), (.putfield 20, 2, 1, 2), (.iconst 0, 0, 0, 0), (.istore_n 1, 1, 0, 0)]
def bo_11_51 : List ZO := [(.iload_n 1, 1, 0, 0), (.bipush 9, 9, 0, 0), (.if_icmp .ge 22, 76, 0, 0), (.aload_n 0, 0, 0, 0), (.getfield 20, 2, 1, 2), (.iload_n 1, 1, 0, 0), (.new 18, 1, 7, 0), (.dup, 0, 0, 0), (.invokespecial 24, 4, 1, 2), (.aastore, 0, 0, 0), (.iinc 1 1, 1, 1, 0), (.goto (-22), 51, 0, 0)]
def bo_11_76 : List ZO := [(.return_, 0, 0, 0)]
def bk_11 : List (Nat × ZE) := [(0, false, [true, false], bo_11_0, 15), (15, true, [true, true], bo_11_15, 0), (40, false, [true, false], bo_11_40, 51), (51, true, [true, true], bo_11_51, 0), (76, false, [false, false], bo_11_76, 0)]
theorem ck_11 : z_chks 11 bk_11 [[86, 87, 205], [205, 87, 1], [165, 208], [208, 165, 2], []] = true := by decide +kernel
theorem bf_11_0 : z_fd bk_11 0 = some (false, [true, false], bo_11_0, 15) := rfl
theorem bf_11_15 : z_fd bk_11 15 = some (true, [true, true], bo_11_15, 0) := rfl
theorem bf_11_40 : z_fd bk_11 40 = some (false, [true, false], bo_11_40, 51) := rfl
theorem bf_11_51 : z_fd bk_11 51 = some (true, [true, true], bo_11_51, 0) := rfl
theorem bf_11_76 : z_fd bk_11 76 = some (false, [false, false], bo_11_76, 0) := rfl
theorem cl_11 : z_mL 11 = 2 := by decide +kernel
theorem cz_11 : plainFor (z_my 11) = true ∧ ((z_rm 11).cells = 19 ∧ (z_rm 11).slots = 224) := by decide +kernel
-- 12 Mesh_reset
def bo_12_0 : List ZO := [(.aload_n 0, 0, 0, 0), (.iconst 0, 0, 0, 0), (.putfield 25, 2, 2, 0), (.aload_n 0, 0, 0, 0), (.iconst 0, 0, 0, 0), (.putfield 29, 2, 3, 0), (.aload_n 0, 0, 0, 0), (.iload_n 1, 1, 0, 0), (.putfield 32, 2, 4, 0), (.aload_n 0, 0, 0, 0), (.iconst 0, 0, 0, 0), (.putfield 35, 2, 5, 0), (.aload_n 0, 0, 0, 0), (.iconst 0, 0, 0, 0), (.putfield 38, 2, 6, 0), (.return_, 0, 0, 0)]
def bk_12 : List (Nat × ZE) := [(0, false, [true, true], bo_12_0, 0)]
theorem ck_12 : z_chks 12 bk_12 [[211, 214, 217, 219, 221]] = true := by decide +kernel
theorem bf_12_0 : z_fd bk_12 0 = some (false, [true, true], bo_12_0, 0) := rfl
theorem cl_12 : z_mL 12 = 2 := by decide +kernel
theorem cz_12 : plainFor (z_my 12) = true ∧ ((z_rm 12).cells = 0 ∧ (z_rm 12).slots = 0) := by decide +kernel
-- 13 Mesh_copyFrom
def bo_13_0 : List ZO := [(.aload_n 0, 0, 0, 0), (.aload_n 1, 1, 0, 0), (.getfield 25, 2, 2, 0), (.putfield 25, 2, 2, 0), (.aload_n 0, 0, 0, 0), (.aload_n 1, 1, 0, 0), (.getfield 29, 2, 3, 0), (.putfield 29, 2, 3, 0), (.aload_n 0, 0, 0, 0), (.aload_n 1, 1, 0, 0), (.getfield 32, 2, 4, 0), (.putfield 32, 2, 4, 0), (.aload_n 0, 0, 0, 0), (.aload_n 1, 1, 0, 0), (.getfield 35, 2, 5, 0), (.putfield 35, 2, 5, 0), (.aload_n 0, 0, 0, 0), (.aload_n 1, 1, 0, 0), (.getfield 38, 2, 6, 0), (.putfield 38, 2, 6, 0), (.iconst 0, 0, 0, 0), (.istore_n 2, 2, 0, 0)]
def bo_13_42 : List ZO := [(.iload_n 2, 2, 0, 0), (.aload_n 0, 0, 0, 0), (.getfield 25, 2, 2, 0), (.if_icmp .ge 24, 71, 0, 0), (.aload_n 0, 0, 0, 0), (.getfield 11, 2, 0, 2), (.iload_n 2, 2, 0, 0), (.aaload, 0, 0, 0), (.aload_n 1, 1, 0, 0), (.getfield 11, 2, 0, 2), (.iload_n 2, 2, 0, 0), (.aaload, 0, 0, 0), (.invokevirtual 41, 34, 2, 4), (.iinc 2 1, 1, 2, 0), (.goto (-26), 42, 0, 0)]
def bo_13_71 : List ZO := [(.iconst 0, 0, 0, 0), (.istore_n 2, 2, 0, 0)]
def bo_13_73 : List ZO := [(.iload_n 2, 2, 0, 0), (.aload_n 0, 0, 0, 0), (.getfield 29, 2, 3, 0), (.if_icmp .ge 24, 102, 0, 0), (.aload_n 0, 0, 0, 0), (.getfield 20, 2, 1, 2), (.iload_n 2, 2, 0, 0), (.aaload, 0, 0, 0), (.aload_n 1, 1, 0, 0), (.getfield 20, 2, 1, 2), (.iload_n 2, 2, 0, 0), (.aaload, 0, 0, 0), (.invokevirtual 45, 6, 2, 2), (.iinc 2 1, 1, 2, 0), (.goto (-26), 73, 0, 0)]
def bo_13_102 : List ZO := [(.return_, 0, 0, 0)]
def bk_13 : List (Nat × ZE) := [(0, false, [true, true, false], bo_13_0, 42), (42, true, [true, true, true], bo_13_42, 0), (71, false, [true, true, false], bo_13_71, 73), (73, true, [true, true, true], bo_13_73, 0), (102, false, [false, false, false], bo_13_102, 0)]
theorem ck_13 : z_chks 13 bk_13 [[211, 211, 214, 214, 217, 217, 219, 219, 221, 221], [211, 205, 205, 399], [], [214, 208, 208, 403], []] = true := by decide +kernel
theorem bf_13_0 : z_fd bk_13 0 = some (false, [true, true, false], bo_13_0, 42) := rfl
theorem bf_13_42 : z_fd bk_13 42 = some (true, [true, true, true], bo_13_42, 0) := rfl
theorem bf_13_71 : z_fd bk_13 71 = some (false, [true, true, false], bo_13_71, 73) := rfl
theorem bf_13_73 : z_fd bk_13 73 = some (true, [true, true, true], bo_13_73, 0) := rfl
theorem bf_13_102 : z_fd bk_13 102 = some (false, [false, false, false], bo_13_102, 0) := rfl
theorem cl_13 : z_mL 13 = 3 := by decide +kernel
theorem cz_13 : plainFor (z_my 13) = true ∧ ((z_rm 13).cells = 0 ∧ (z_rm 13).slots = 0) := by decide +kernel
-- 14 Mesh_hasNode
def bo_14_0 : List ZO := [(.iload_n 1, 1, 0, 0), (.ifCond .lt 15, 16, 0, 0), (.iload_n 1, 1, 0, 0), (.aload_n 0, 0, 0, 0), (.getfield 25, 2, 2, 0), (.if_icmp .ge 7, 16, 0, 0), (.iconst 1, 1, 0, 0), (.goto 4, 17, 0, 0)]
def bo_14_16 : List ZO := [(.iconst 0, 0, 0, 0), (.ireturn, 1, 0, 0)]
def bo_14_17 : List ZO := [(.ireturn, 1, 0, 0)]
def bk_14 : List (Nat × ZE) := [(0, false, [true, true], bo_14_0, 0), (16, false, [false, false], bo_14_16, 0), (17, false, [false, false], bo_14_17, 0)]
theorem ck_14 : z_chks 14 bk_14 [[211], [], []] = true := by decide +kernel
theorem bf_14_0 : z_fd bk_14 0 = some (false, [true, true], bo_14_0, 0) := rfl
theorem bf_14_16 : z_fd bk_14 16 = some (false, [false, false], bo_14_16, 0) := rfl
theorem bf_14_17 : z_fd bk_14 17 = some (false, [false, false], bo_14_17, 0) := rfl
theorem cl_14 : z_mL 14 = 2 := by decide +kernel
theorem cz_14 : plainFor (z_my 14) = true ∧ ((z_rm 14).cells = 0 ∧ (z_rm 14).slots = 0) := by decide +kernel
-- 15 Mesh_hasLink
def bo_15_0 : List ZO := [(.iload_n 1, 1, 0, 0), (.ifCond .lt 15, 16, 0, 0), (.iload_n 1, 1, 0, 0), (.aload_n 0, 0, 0, 0), (.getfield 29, 2, 3, 0), (.if_icmp .ge 7, 16, 0, 0), (.iconst 1, 1, 0, 0), (.goto 4, 17, 0, 0)]
def bo_15_16 : List ZO := [(.iconst 0, 0, 0, 0), (.ireturn, 1, 0, 0)]
def bo_15_17 : List ZO := [(.ireturn, 1, 0, 0)]
def bk_15 : List (Nat × ZE) := [(0, false, [true, true], bo_15_0, 0), (16, false, [false, false], bo_15_16, 0), (17, false, [false, false], bo_15_17, 0)]
theorem ck_15 : z_chks 15 bk_15 [[214], [], []] = true := by decide +kernel
theorem bf_15_0 : z_fd bk_15 0 = some (false, [true, true], bo_15_0, 0) := rfl
theorem bf_15_16 : z_fd bk_15 16 = some (false, [false, false], bo_15_16, 0) := rfl
theorem bf_15_17 : z_fd bk_15 17 = some (false, [false, false], bo_15_17, 0) := rfl
theorem cl_15 : z_mL 15 = 2 := by decide +kernel
theorem cz_15 : plainFor (z_my 15) = true ∧ ((z_rm 15).cells = 0 ∧ (z_rm 15).slots = 0) := by decide +kernel
-- 16 Mesh_isGateway
def bo_16_0 : List ZO := [(.aload_n 0, 0, 0, 0), (.iload_n 1, 1, 0, 0), (.invokevirtual 48, 14, 2, 3), (.ifCond .eq 19, 24, 0, 0), (.aload_n 0, 0, 0, 0), (.getfield 11, 2, 0, 2), (.iload_n 1, 1, 0, 0), (.aaload, 0, 0, 0), (.getfield 52, 3, 0, 0), (.ifCond .ne 7, 24, 0, 0), (.iconst 1, 1, 0, 0), (.goto 4, 25, 0, 0)]
def bo_16_24 : List ZO := [(.iconst 0, 0, 0, 0), (.ireturn, 1, 0, 0)]
def bo_16_25 : List ZO := [(.ireturn, 1, 0, 0)]
def bk_16 : List (Nat × ZE) := [(0, false, [true, true], bo_16_0, 0), (24, false, [false, false], bo_16_24, 0), (25, false, [false, false], bo_16_25, 0)]
theorem ck_16 : z_chks 16 bk_16 [[431, 205, 95], [], []] = true := by decide +kernel
theorem bf_16_0 : z_fd bk_16 0 = some (false, [true, true], bo_16_0, 0) := rfl
theorem bf_16_24 : z_fd bk_16 24 = some (false, [false, false], bo_16_24, 0) := rfl
theorem bf_16_25 : z_fd bk_16 25 = some (false, [false, false], bo_16_25, 0) := rfl
theorem cl_16 : z_mL 16 = 2 := by decide +kernel
theorem cz_16 : plainFor (z_my 16) = true ∧ ((z_rm 16).cells = 0 ∧ (z_rm 16).slots = 0) := by decide +kernel
-- 17 Mesh_nodesOfKind
def bo_17_0 : List ZO := [(.iconst 0, 0, 0, 0), (.istore_n 2, 2, 0, 0), (.iconst 0, 0, 0, 0), (.istore_n 3, 3, 0, 0)]
def bo_17_4 : List ZO := [(.iload_n 3, 3, 0, 0), (.aload_n 0, 0, 0, 0), (.getfield 25, 2, 2, 0), (.if_icmp .ge 28, 37, 0, 0), (.aload_n 0, 0, 0, 0), (.getfield 11, 2, 0, 2), (.iload_n 3, 3, 0, 0), (.aaload, 0, 0, 0), (.getfield 52, 3, 0, 0), (.iload_n 1, 1, 0, 0), (.if_icmp .ne 9, 31, 0, 0), (.iload_n 2, 2, 0, 0), (.iconst 1, 1, 0, 0), (.iload_n 3, 3, 0, 0), (.ishl, 0, 0, 0), (.ior, 0, 0, 0), (.istore_n 2, 2, 0, 0), (.iinc 3 1, 1, 3, 0), (.goto (-30), 4, 0, 0)]
def bo_17_31 : List ZO := [(.iinc 3 1, 1, 3, 0), (.goto (-30), 4, 0, 0)]
def bo_17_37 : List ZO := [(.iload_n 2, 2, 0, 0), (.ireturn, 0, 0, 0)]
def bk_17 : List (Nat × ZE) := [(0, false, [true, true, false, false], bo_17_0, 4), (4, true, [true, true, true, true], bo_17_4, 0), (31, false, [true, true, true, true], bo_17_31, 0), (37, false, [false, false, true, false], bo_17_37, 0)]
theorem ck_17 : z_chks 17 bk_17 [[], [211, 205, 95], [], []] = true := by decide +kernel
theorem bf_17_0 : z_fd bk_17 0 = some (false, [true, true, false, false], bo_17_0, 4) := rfl
theorem bf_17_4 : z_fd bk_17 4 = some (true, [true, true, true, true], bo_17_4, 0) := rfl
theorem bf_17_31 : z_fd bk_17 31 = some (false, [true, true, true, true], bo_17_31, 0) := rfl
theorem bf_17_37 : z_fd bk_17 37 = some (false, [false, false, true, false], bo_17_37, 0) := rfl
theorem cl_17 : z_mL 17 = 4 := by decide +kernel
theorem cz_17 : plainFor (z_my 17) = true ∧ ((z_rm 17).cells = 0 ∧ (z_rm 17).slots = 0) := by decide +kernel
-- 18 Mesh_downLinks
def bo_18_0 : List ZO := [(.iconst 0, 0, 0, 0), (.istore_n 1, 1, 0, 0), (.iconst 0, 0, 0, 0), (.istore_n 2, 2, 0, 0)]
def bo_18_4 : List ZO := [(.iload_n 2, 2, 0, 0), (.aload_n 0, 0, 0, 0), (.getfield 29, 2, 3, 0), (.if_icmp .ge 27, 36, 0, 0), (.aload_n 0, 0, 0, 0), (.getfield 20, 2, 1, 2), (.iload_n 2, 2, 0, 0), (.aaload, 0, 0, 0), (.getfield 55, 1, 6, 3), (.ifCond .eq 9, 30, 0, 0), (.iload_n 1, 1, 0, 0), (.iconst 1, 1, 0, 0), (.iload_n 2, 2, 0, 0), (.ishl, 0, 0, 0), (.ior, 0, 0, 0), (.istore_n 1, 1, 0, 0), (.iinc 2 1, 1, 2, 0), (.goto (-29), 4, 0, 0)]
def bo_18_30 : List ZO := [(.iinc 2 1, 1, 2, 0), (.goto (-29), 4, 0, 0)]
def bo_18_36 : List ZO := [(.iload_n 1, 1, 0, 0), (.ireturn, 0, 0, 0)]
def bk_18 : List (Nat × ZE) := [(0, false, [true, false, false], bo_18_0, 4), (4, true, [true, true, true], bo_18_4, 0), (30, false, [true, true, true], bo_18_30, 0), (36, false, [false, true, false], bo_18_36, 0)]
theorem ck_18 : z_chks 18 bk_18 [[], [214, 208, 188], [], []] = true := by decide +kernel
theorem bf_18_0 : z_fd bk_18 0 = some (false, [true, false, false], bo_18_0, 4) := rfl
theorem bf_18_4 : z_fd bk_18 4 = some (true, [true, true, true], bo_18_4, 0) := rfl
theorem bf_18_30 : z_fd bk_18 30 = some (false, [true, true, true], bo_18_30, 0) := rfl
theorem bf_18_36 : z_fd bk_18 36 = some (false, [false, true, false], bo_18_36, 0) := rfl
theorem cl_18 : z_mL 18 = 3 := by decide +kernel
theorem cz_18 : plainFor (z_my 18) = true ∧ ((z_rm 18).cells = 0 ∧ (z_rm 18).slots = 0) := by decide +kernel
-- 19 Mesh_linksAt
def bo_19_0 : List ZO := [(.iconst 0, 0, 0, 0), (.istore_n 2, 2, 0, 0), (.iconst 0, 0, 0, 0), (.istore_n 3, 3, 0, 0)]
def bo_19_4 : List ZO := [(.iload_n 3, 3, 0, 0), (.aload_n 0, 0, 0, 0), (.getfield 29, 2, 3, 0), (.if_icmp .ge 38, 47, 0, 0), (.aload_n 0, 0, 0, 0), (.getfield 20, 2, 1, 2), (.iload_n 3, 3, 0, 0), (.aaload, 0, 0, 0), (.getfield 59, 1, 0, 0), (.iload_n 1, 1, 0, 0), (.if_icmp .eq 16, 38, 0, 0), (.aload_n 0, 0, 0, 0), (.getfield 20, 2, 1, 2), (.iload_n 3, 3, 0, 0), (.aaload, 0, 0, 0), (.getfield 62, 1, 1, 0), (.iload_n 1, 1, 0, 0), (.if_icmp .ne 6, 41, 0, 0), (.iinc 2 1, 1, 2, 0), (.iinc 3 1, 1, 3, 0), (.goto (-40), 4, 0, 0)]
def bo_19_38 : List ZO := [(.iinc 2 1, 1, 2, 0), (.iinc 3 1, 1, 3, 0), (.goto (-40), 4, 0, 0)]
def bo_19_41 : List ZO := [(.iinc 3 1, 1, 3, 0), (.goto (-40), 4, 0, 0)]
def bo_19_47 : List ZO := [(.iload_n 2, 2, 0, 0), (.ireturn, 0, 0, 0)]
def bk_19 : List (Nat × ZE) := [(0, false, [true, true, false, false], bo_19_0, 4), (4, true, [true, true, true, true], bo_19_4, 0), (38, false, [true, true, true, true], bo_19_38, 0), (41, false, [true, true, true, true], bo_19_41, 0), (47, false, [false, false, true, false], bo_19_47, 0)]
theorem ck_19 : z_chks 19 bk_19 [[], [214, 208, 174, 208, 177], [], [], []] = true := by decide +kernel
theorem bf_19_0 : z_fd bk_19 0 = some (false, [true, true, false, false], bo_19_0, 4) := rfl
theorem bf_19_4 : z_fd bk_19 4 = some (true, [true, true, true, true], bo_19_4, 0) := rfl
theorem bf_19_38 : z_fd bk_19 38 = some (false, [true, true, true, true], bo_19_38, 0) := rfl
theorem bf_19_41 : z_fd bk_19 41 = some (false, [true, true, true, true], bo_19_41, 0) := rfl
theorem bf_19_47 : z_fd bk_19 47 = some (false, [false, false, true, false], bo_19_47, 0) := rfl
theorem cl_19 : z_mL 19 = 4 := by decide +kernel
theorem cz_19 : plainFor (z_my 19) = true ∧ ((z_rm 19).cells = 0 ∧ (z_rm 19).slots = 0) := by decide +kernel
-- 20 Mesh_linkBetween
def bo_20_0 : List ZO := [(.iconst 0, 0, 0, 0), (.istore_n 3, 3, 0, 0)]
def bo_20_2 : List ZO := [(.iload_n 3, 3, 0, 0), (.aload_n 0, 0, 0, 0), (.getfield 29, 2, 3, 0), (.if_icmp .ge 25, 32, 0, 0), (.aload_n 0, 0, 0, 0), (.getfield 20, 2, 1, 2), (.iload_n 3, 3, 0, 0), (.aaload, 0, 0, 0), (.iload_n 1, 1, 0, 0), (.iload_n 2, 2, 0, 0), (.invokevirtual 65, 10, 3, 2), (.ifCond .eq 5, 26, 0, 0), (.iload_n 3, 3, 0, 0), (.ireturn, 0, 0, 0)]
def bo_20_26 : List ZO := [(.iinc 3 1, 1, 3, 0), (.goto (-27), 2, 0, 0)]
def bo_20_32 : List ZO := [(.bipush (-9), 9, 0, 1), (.ireturn, 0, 0, 0)]
def bk_20 : List (Nat × ZE) := [(0, false, [true, true, true, false], bo_20_0, 2), (2, true, [true, true, true, true], bo_20_2, 0), (26, false, [true, true, true, true], bo_20_26, 0), (32, false, [false, false, false, false], bo_20_32, 0)]
theorem ck_20 : z_chks 20 bk_20 [[], [214, 208, 379], [], []] = true := by decide +kernel
theorem bf_20_0 : z_fd bk_20 0 = some (false, [true, true, true, false], bo_20_0, 2) := rfl
theorem bf_20_2 : z_fd bk_20 2 = some (true, [true, true, true, true], bo_20_2, 0) := rfl
theorem bf_20_26 : z_fd bk_20 26 = some (false, [true, true, true, true], bo_20_26, 0) := rfl
theorem bf_20_32 : z_fd bk_20 32 = some (false, [false, false, false, false], bo_20_32, 0) := rfl
theorem cl_20 : z_mL 20 = 4 := by decide +kernel
theorem cz_20 : plainFor (z_my 20) = true ∧ ((z_rm 20).cells = 0 ∧ (z_rm 20).slots = 0) := by decide +kernel
-- 21 Mesh_openOffer
def bo_21_0 : List ZO := [(.aload_n 0, 0, 0, 0), (.getfield 11, 2, 0, 2), (.iload_n 1, 1, 0, 0), (.aaload, 0, 0, 0), (.aload_n 0, 0, 0, 0), (.getfield 35, 2, 5, 0), (.iconst 0, 0, 0, 0), (.invokevirtual 69, 37, 3, 4), (.aload_n 0, 0, 0, 0), (.iload_n 1, 1, 0, 0), (.iload_n 2, 2, 0, 0), (.invokevirtual 73, 20, 3, 3), (.istore_n 3, 3, 0, 0), (.iload_n 3, 3, 0, 0), (.ifCond .lt 27, 49, 0, 0), (.aload_n 0, 0, 0, 0), (.getfield 20, 2, 1, 2), (.iload_n 3, 3, 0, 0), (.aaload, 0, 0, 0), (.getfield 55, 1, 6, 3), (.ifCond .ne 15, 49, 0, 0), (.aload_n 0, 0, 0, 0), (.getfield 11, 2, 0, 2), (.iload_n 1, 1, 0, 0), (.aaload, 0, 0, 0), (.getfield 77, 3, 9, 3), (.ifCond .ne 8, 54, 0, 0), (.bipush (-9), 9, 0, 1), (.goto 4, 55, 0, 0)]
def bo_21_49 : List ZO := [(.bipush (-9), 9, 0, 1), (.goto 4, 55, 0, 0)]
def bo_21_54 : List ZO := [(.iload_n 3, 3, 0, 0), (.ireturn, 0, 0, 0)]
def bo_21_55 : List ZO := [(.ireturn, 0, 0, 0)]
def bk_21 : List (Nat × ZE) := [(0, false, [true, true, true, false], bo_21_0, 0), (49, false, [false, false, false, false], bo_21_49, 0), (54, false, [false, false, false, true], bo_21_54, 0), (55, false, [false, false, false, false], bo_21_55, 0)]
theorem ck_21 : z_chks 21 bk_21 [[205, 219, 476, 480, 208, 188, 205, 118], [], [], []] = true := by decide +kernel
theorem bf_21_0 : z_fd bk_21 0 = some (false, [true, true, true, false], bo_21_0, 0) := rfl
theorem bf_21_49 : z_fd bk_21 49 = some (false, [false, false, false, false], bo_21_49, 0) := rfl
theorem bf_21_54 : z_fd bk_21 54 = some (false, [false, false, false, true], bo_21_54, 0) := rfl
theorem bf_21_55 : z_fd bk_21 55 = some (false, [false, false, false, false], bo_21_55, 0) := rfl
theorem cl_21 : z_mL 21 = 4 := by decide +kernel
theorem cz_21 : plainFor (z_my 21) = true ∧ ((z_rm 21).cells = 0 ∧ (z_rm 21).slots = 0) := by decide +kernel
-- 22 Mesh_passRounds
def bo_22_0 : List ZO := [(.iconst 0, 0, 0, 0), (.istore_n 3, 3, 0, 0)]
def bo_22_2 : List ZO := [(.iload_n 3, 3, 0, 0), (.iload_n 1, 1, 0, 0), (.if_icmp .ge 14, 18, 0, 0), (.aload_n 0, 0, 0, 0), (.iload_n 2, 2, 0, 0), (.invokevirtual 80, 23, 2, 3), (.iinc 3 1, 1, 3, 0), (.goto (-13), 2, 0, 0)]
def bo_22_18 : List ZO := [(.return_, 0, 0, 0)]
def bk_22 : List (Nat × ZE) := [(0, false, [true, true, true, false], bo_22_0, 2), (2, true, [true, true, true, true], bo_22_2, 0), (18, false, [false, false, false, false], bo_22_18, 0)]
theorem ck_22 : z_chks 22 bk_22 [[], [502], []] = true := by decide +kernel
theorem bf_22_0 : z_fd bk_22 0 = some (false, [true, true, true, false], bo_22_0, 2) := rfl
theorem bf_22_2 : z_fd bk_22 2 = some (true, [true, true, true, true], bo_22_2, 0) := rfl
theorem bf_22_18 : z_fd bk_22 18 = some (false, [false, false, false, false], bo_22_18, 0) := rfl
theorem cl_22 : z_mL 22 = 4 := by decide +kernel
theorem cz_22 : plainFor (z_my 22) = true ∧ ((z_rm 22).cells = 0 ∧ (z_rm 22).slots = 0) := by decide +kernel
-- 23 Mesh_passRound
def bo_23_0 : List ZO := [(.iconst 0, 0, 0, 0), (.istore_n 2, 2, 0, 0)]
theorem cb_23_0 : z_chk 23 bo_23_0 0 2 [] = true := by decide +kernel
def bo_23_2 : List ZO := [(.iload_n 2, 2, 0, 0), (.aload_n 0, 0, 0, 0), (.getfield 25, 2, 2, 0), (.if_icmp .ge 44, 51, 0, 0), (.aload_n 0, 0, 0, 0), (.getfield 11, 2, 0, 2), (.iload_n 2, 2, 0, 0), (.aaload, 0, 0, 0), (.aload_n 0, 0, 0, 0), (.getfield 35, 2, 5, 0), (.iload_n 1, 1, 0, 0), (.iconst 1, 1, 0, 0), (.iload_n 2, 2, 0, 0), (.ishl, 0, 0, 0), (.iand, 0, 0, 0), (.ifCond .eq 7, 32, 0, 0), (.iconst 1, 1, 0, 0), (.goto 4, 33, 0, 0)]
theorem cb_23_2 : z_chk 23 bo_23_2 2 0 [211, 205, 219] = true := by decide +kernel
def bo_23_32 : List ZO := [(.iconst 0, 0, 0, 0), (.invokevirtual 69, 37, 3, 4), (.aload_n 0, 0, 0, 0), (.getfield 11, 2, 0, 2), (.iload_n 2, 2, 0, 0), (.aaload, 0, 0, 0), (.invokevirtual 84, 39, 1, 4), (.iinc 2 1, 1, 2, 0), (.goto (-46), 2, 0, 0)]
theorem cb_23_32 : z_chk 23 bo_23_32 32 0 [476, 205, 506] = true := by decide +kernel
def bo_23_33 : List ZO := [(.invokevirtual 69, 37, 3, 4), (.aload_n 0, 0, 0, 0), (.getfield 11, 2, 0, 2), (.iload_n 2, 2, 0, 0), (.aaload, 0, 0, 0), (.invokevirtual 84, 39, 1, 4), (.iinc 2 1, 1, 2, 0), (.goto (-46), 2, 0, 0)]
theorem cb_23_33 : z_chk 23 bo_23_33 33 0 [476, 205, 506] = true := by decide +kernel
def bo_23_51 : List ZO := [(.iconst 0, 0, 0, 0), (.istore_n 2, 2, 0, 0)]
theorem cb_23_51 : z_chk 23 bo_23_51 51 53 [] = true := by decide +kernel
def bo_23_53 : List ZO := [(.iload_n 2, 2, 0, 0), (.aload_n 0, 0, 0, 0), (.getfield 29, 2, 3, 0), (.if_icmp .ge 19, 77, 0, 0), (.aload_n 0, 0, 0, 0), (.aload_n 0, 0, 0, 0), (.getfield 20, 2, 1, 2), (.iload_n 2, 2, 0, 0), (.aaload, 0, 0, 0), (.invokevirtual 87, 24, 2, 3), (.iinc 2 1, 1, 2, 0), (.goto (-21), 53, 0, 0)]
theorem cb_23_53 : z_chk 23 bo_23_53 53 0 [214, 208, 510] = true := by decide +kernel
def bo_23_77 : List ZO := [(.iconst 0, 0, 0, 0), (.istore_n 2, 2, 0, 0), (.iconst 0, 0, 0, 0), (.istore_n 3, 3, 0, 0)]
theorem cb_23_77 : z_chk 23 bo_23_77 77 81 [] = true := by decide +kernel
def bo_23_81 : List ZO := [(.iload_n 3, 3, 0, 0), (.aload_n 0, 0, 0, 0), (.getfield 25, 2, 2, 0), (.if_icmp .ge 62, 148, 0, 0), (.aload_n 0, 0, 0, 0), (.getfield 11, 2, 0, 2), (.iload_n 3, 3, 0, 0), (.aaload, 0, 0, 0), (.getfield 52, 3, 0, 0), (.ifCond .eq 44, 142, 0, 0), (.aload_n 0, 0, 0, 0), (.getfield 11, 2, 0, 2), (.iload_n 3, 3, 0, 0), (.aaload, 0, 0, 0), (.aload_n 0, 0, 0, 0), (.getfield 38, 2, 6, 0), (.invokevirtual 90, 36, 2, 4), (.ifCond .eq 28, 142, 0, 0), (.aload_n 0, 0, 0, 0), (.getfield 11, 2, 0, 2), (.iload_n 3, 3, 0, 0), (.aaload, 0, 0, 0), (.aload_n 0, 0, 0, 0), (.getfield 32, 2, 4, 0), (.invokevirtual 93, 41, 2, 4), (.iload_n 2, 2, 0, 0), (.aload_n 0, 0, 0, 0), (.getfield 11, 2, 0, 2), (.iload_n 3, 3, 0, 0), (.aaload, 0, 0, 0), (.invokevirtual 96, 43, 1, 4), (.ior, 0, 0, 0), (.istore_n 2, 2, 0, 0), (.iinc 3 1, 1, 3, 0), (.goto (-64), 81, 0, 0)]
theorem cb_23_81 : z_chk 23 bo_23_81 81 0 [211, 205, 95, 205, 221, 519, 205, 217, 523, 205, 531] = true := by decide +kernel
def bo_23_142 : List ZO := [(.iinc 3 1, 1, 3, 0), (.goto (-64), 81, 0, 0)]
theorem cb_23_142 : z_chk 23 bo_23_142 142 0 [] = true := by decide +kernel
def bo_23_148 : List ZO := [(.iload_n 2, 2, 0, 0), (.ifCond .eq 13, 162, 0, 0), (.aload_n 0, 0, 0, 0), (.dup, 0, 0, 0), (.getfield 35, 2, 5, 0), (.iconst 1, 1, 0, 0), (.iadd, 0, 0, 0), (.putfield 35, 2, 5, 0), (.aload_n 0, 0, 0, 0), (.dup, 0, 0, 0), (.getfield 38, 2, 6, 0), (.iconst 1, 1, 0, 0), (.iadd, 0, 0, 0), (.putfield 38, 2, 6, 0), (.return_, 0, 0, 0)]
theorem cb_23_148 : z_chk 23 bo_23_148 148 0 [219, 219, 221, 221] = true := by decide +kernel
def bo_23_162 : List ZO := [(.aload_n 0, 0, 0, 0), (.dup, 0, 0, 0), (.getfield 38, 2, 6, 0), (.iconst 1, 1, 0, 0), (.iadd, 0, 0, 0), (.putfield 38, 2, 6, 0), (.return_, 0, 0, 0)]
theorem cb_23_162 : z_chk 23 bo_23_162 162 0 [221, 221] = true := by decide +kernel
def bk_23 : List (Nat × ZE) := [(0, false, [true, true, false, false], bo_23_0, 2), (2, true, [true, true, true, false], bo_23_2, 0), (32, false, [true, true, true, false], bo_23_32, 0), (33, false, [true, true, true, false], bo_23_33, 0), (51, false, [true, false, false, false], bo_23_51, 53), (53, true, [true, false, true, false], bo_23_53, 0), (77, false, [true, false, false, false], bo_23_77, 81), (81, true, [true, false, true, true], bo_23_81, 0), (142, false, [true, false, true, true], bo_23_142, 0), (148, false, [true, false, true, false], bo_23_148, 0), (162, false, [true, false, false, false], bo_23_162, 0)]
theorem ck_23 : z_chks 23 bk_23 [[], [211, 205, 219], [476, 205, 506], [476, 205, 506], [], [214, 208, 510], [], [211, 205, 95, 205, 221, 519, 205, 217, 523, 205, 531], [], [219, 219, 221, 221], [221, 221]] = true := z_chks_cons cb_23_0 (z_chks_cons cb_23_2 (z_chks_cons cb_23_32 (z_chks_cons cb_23_33 (z_chks_cons cb_23_51 (z_chks_cons cb_23_53 (z_chks_cons cb_23_77 (z_chks_cons cb_23_81 (z_chks_cons cb_23_142 (z_chks_cons cb_23_148 (z_chks_cons cb_23_162 (z_chks_nil)))))))))))
theorem bf_23_0 : z_fd bk_23 0 = some (false, [true, true, false, false], bo_23_0, 2) := rfl
theorem bf_23_2 : z_fd bk_23 2 = some (true, [true, true, true, false], bo_23_2, 0) := rfl
theorem bf_23_32 : z_fd bk_23 32 = some (false, [true, true, true, false], bo_23_32, 0) := rfl
theorem bf_23_33 : z_fd bk_23 33 = some (false, [true, true, true, false], bo_23_33, 0) := rfl
theorem bf_23_51 : z_fd bk_23 51 = some (false, [true, false, false, false], bo_23_51, 53) := rfl
theorem bf_23_53 : z_fd bk_23 53 = some (true, [true, false, true, false], bo_23_53, 0) := rfl
theorem bf_23_77 : z_fd bk_23 77 = some (false, [true, false, false, false], bo_23_77, 81) := rfl
theorem bf_23_81 : z_fd bk_23 81 = some (true, [true, false, true, true], bo_23_81, 0) := rfl
theorem bf_23_142 : z_fd bk_23 142 = some (false, [true, false, true, true], bo_23_142, 0) := rfl
theorem bf_23_148 : z_fd bk_23 148 = some (false, [true, false, true, false], bo_23_148, 0) := rfl
theorem bf_23_162 : z_fd bk_23 162 = some (false, [true, false, false, false], bo_23_162, 0) := rfl
theorem cl_23 : z_mL 23 = 4 := by decide +kernel
theorem cz_23 : plainFor (z_my 23) = true ∧ ((z_rm 23).cells = 0 ∧ (z_rm 23).slots = 0) := by decide +kernel
-- 24 Mesh_exchangeOffers
def bo_24_0 : List ZO := [(.aload_n 1, 1, 0, 0), (.getfield 55, 1, 6, 3), (.ifCond .ne 25, 29, 0, 0), (.aload_n 0, 0, 0, 0), (.aload_n 1, 1, 0, 0), (.getfield 59, 1, 0, 0), (.invokevirtual 48, 14, 2, 3), (.ifCond .eq 14, 29, 0, 0), (.aload_n 0, 0, 0, 0), (.aload_n 1, 1, 0, 0), (.getfield 62, 1, 1, 0), (.invokevirtual 48, 14, 2, 3), (.ifCond .ne 4, 30, 0, 0), (.return_, 0, 0, 0)]
def bo_24_29 : List ZO := [(.return_, 0, 0, 0)]
def bo_24_30 : List ZO := [(.aload_n 0, 0, 0, 0), (.getfield 11, 2, 0, 2), (.aload_n 1, 1, 0, 0), (.getfield 59, 1, 0, 0), (.aaload, 0, 0, 0), (.astore_n 2, 2, 0, 0), (.aload_n 0, 0, 0, 0), (.getfield 11, 2, 0, 2), (.aload_n 1, 1, 0, 0), (.getfield 62, 1, 1, 0), (.aaload, 0, 0, 0), (.astore_n 3, 3, 0, 0), (.aload_n 2, 2, 0, 0), (.aload_n 3, 3, 0, 0), (.aload_n 1, 1, 0, 0), (.getfield 62, 1, 1, 0), (.aload_n 1, 1, 0, 0), (.getfield 100, 1, 5, 0), (.invokevirtual 103, 40, 4, 4), (.aload_n 3, 3, 0, 0), (.aload_n 2, 2, 0, 0), (.aload_n 1, 1, 0, 0), (.getfield 59, 1, 0, 0), (.aload_n 1, 1, 0, 0), (.getfield 100, 1, 5, 0), (.invokevirtual 103, 40, 4, 4), (.return_, 0, 0, 0)]
def bk_24 : List (Nat × ZE) := [(0, false, [true, true, false, false], bo_24_0, 0), (29, false, [false, false, false, false], bo_24_29, 0), (30, false, [true, true, false, false], bo_24_30, 0)]
theorem ck_24 : z_chks 24 bk_24 [[188, 174, 431, 177, 431], [], [205, 174, 205, 177, 177, 186, 514, 174, 186, 514]] = true := by decide +kernel
theorem bf_24_0 : z_fd bk_24 0 = some (false, [true, true, false, false], bo_24_0, 0) := rfl
theorem bf_24_29 : z_fd bk_24 29 = some (false, [false, false, false, false], bo_24_29, 0) := rfl
theorem bf_24_30 : z_fd bk_24 30 = some (false, [true, true, false, false], bo_24_30, 0) := rfl
theorem cl_24 : z_mL 24 = 4 := by decide +kernel
theorem cz_24 : plainFor (z_my 24) = true ∧ ((z_rm 24).cells = 0 ∧ (z_rm 24).slots = 0) := by decide +kernel
-- 25 Mesh_endOfRoute
def bo_25_0 : List ZO := [(.iload_n 1, 1, 0, 0), (.istore_n 2, 2, 0, 0), (.iconst 0, 0, 0, 0), (.istore_n 3, 3, 0, 0)]
def bo_25_4 : List ZO := [(.iload_n 3, 3, 0, 0), (.bipush 8, 8, 0, 0), (.if_icmp .gt 41, 48, 0, 0), (.aload_n 0, 0, 0, 0), (.iload_n 2, 2, 0, 0), (.invokevirtual 48, 14, 2, 3), (.ifCond .eq 33, 48, 0, 0), (.aload_n 0, 0, 0, 0), (.getfield 11, 2, 0, 2), (.iload_n 2, 2, 0, 0), (.aaload, 0, 0, 0), (.getfield 52, 3, 0, 0), (.ifCond .ne 5, 32, 0, 0), (.iload_n 2, 2, 0, 0), (.ireturn, 0, 0, 0)]
def bo_25_32 : List ZO := [(.aload_n 0, 0, 0, 0), (.getfield 11, 2, 0, 2), (.iload_n 2, 2, 0, 0), (.aaload, 0, 0, 0), (.getfield 107, 3, 4, 0), (.istore_n 2, 2, 0, 0), (.iinc 3 1, 1, 3, 0), (.goto (-41), 4, 0, 0)]
def bo_25_48 : List ZO := [(.bipush (-9), 9, 0, 1), (.ireturn, 0, 0, 0)]
def bk_25 : List (Nat × ZE) := [(0, false, [true, true, false, false], bo_25_0, 4), (4, true, [true, false, true, true], bo_25_4, 0), (32, false, [true, false, true, true], bo_25_32, 0), (48, false, [false, false, false, false], bo_25_48, 0)]
theorem ck_25 : z_chks 25 bk_25 [[], [431, 205, 95], [205, 107], []] = true := by decide +kernel
theorem bf_25_0 : z_fd bk_25 0 = some (false, [true, true, false, false], bo_25_0, 4) := rfl
theorem bf_25_4 : z_fd bk_25 4 = some (true, [true, false, true, true], bo_25_4, 0) := rfl
theorem bf_25_32 : z_fd bk_25 32 = some (false, [true, false, true, true], bo_25_32, 0) := rfl
theorem bf_25_48 : z_fd bk_25 48 = some (false, [false, false, false, false], bo_25_48, 0) := rfl
theorem cl_25 : z_mL 25 = 4 := by decide +kernel
theorem cz_25 : plainFor (z_my 25) = true ∧ ((z_rm 25).cells = 0 ∧ (z_rm 25).slots = 0) := by decide +kernel
-- 26 Mesh_isReached
def bo_26_0 : List ZO := [(.aload_n 0, 0, 0, 0), (.iload_n 1, 1, 0, 0), (.invokevirtual 110, 25, 2, 3), (.bipush (-9), 9, 0, 1), (.if_icmp .eq 7, 14, 0, 0), (.iconst 1, 1, 0, 0), (.goto 4, 15, 0, 0)]
def bo_26_14 : List ZO := [(.iconst 0, 0, 0, 0), (.ireturn, 1, 0, 0)]
def bo_26_15 : List ZO := [(.ireturn, 1, 0, 0)]
def bk_26 : List (Nat × ZE) := [(0, false, [true, true], bo_26_0, 0), (14, false, [false, false], bo_26_14, 0), (15, false, [false, false], bo_26_15, 0)]
theorem ck_26 : z_chks 26 bk_26 [[427], [], []] = true := by decide +kernel
theorem bf_26_0 : z_fd bk_26 0 = some (false, [true, true], bo_26_0, 0) := rfl
theorem bf_26_14 : z_fd bk_26 14 = some (false, [false, false], bo_26_14, 0) := rfl
theorem bf_26_15 : z_fd bk_26 15 = some (false, [false, false], bo_26_15, 0) := rfl
theorem cl_26 : z_mL 26 = 2 := by decide +kernel
theorem cz_26 : plainFor (z_my 26) = true ∧ ((z_rm 26).cells = 0 ∧ (z_rm 26).slots = 0) := by decide +kernel
-- 27 Mesh_reachedNodes
def bo_27_0 : List ZO := [(.iconst 0, 0, 0, 0), (.istore_n 1, 1, 0, 0), (.iconst 0, 0, 0, 0), (.istore_n 2, 2, 0, 0)]
def bo_27_4 : List ZO := [(.iload_n 2, 2, 0, 0), (.aload_n 0, 0, 0, 0), (.getfield 25, 2, 2, 0), (.if_icmp .ge 23, 32, 0, 0), (.aload_n 0, 0, 0, 0), (.iload_n 2, 2, 0, 0), (.invokevirtual 114, 26, 2, 3), (.ifCond .eq 9, 26, 0, 0), (.iload_n 1, 1, 0, 0), (.iconst 1, 1, 0, 0), (.iload_n 2, 2, 0, 0), (.ishl, 0, 0, 0), (.ior, 0, 0, 0), (.istore_n 1, 1, 0, 0), (.iinc 2 1, 1, 2, 0), (.goto (-25), 4, 0, 0)]
def bo_27_26 : List ZO := [(.iinc 2 1, 1, 2, 0), (.goto (-25), 4, 0, 0)]
def bo_27_32 : List ZO := [(.iload_n 1, 1, 0, 0), (.ireturn, 0, 0, 0)]
def bk_27 : List (Nat × ZE) := [(0, false, [true, false, false], bo_27_0, 4), (4, true, [true, true, true], bo_27_4, 0), (26, false, [true, true, true], bo_27_26, 0), (32, false, [false, true, false], bo_27_32, 0)]
theorem ck_27 : z_chks 27 bk_27 [[], [211, 423], [], []] = true := by decide +kernel
theorem bf_27_0 : z_fd bk_27 0 = some (false, [true, false, false], bo_27_0, 4) := rfl
theorem bf_27_4 : z_fd bk_27 4 = some (true, [true, true, true], bo_27_4, 0) := rfl
theorem bf_27_26 : z_fd bk_27 26 = some (false, [true, true, true], bo_27_26, 0) := rfl
theorem bf_27_32 : z_fd bk_27 32 = some (false, [false, true, false], bo_27_32, 0) := rfl
theorem cl_27 : z_mL 27 = 3 := by decide +kernel
theorem cz_27 : plainFor (z_my 27) = true ∧ ((z_rm 27).cells = 0 ∧ (z_rm 27).slots = 0) := by decide +kernel
-- 28 Mesh_load
def bo_28_0 : List ZO := [(.iconst 0, 0, 0, 0), (.istore_n 2, 2, 0, 0), (.iconst 0, 0, 0, 0), (.istore_n 3, 3, 0, 0)]
def bo_28_4 : List ZO := [(.iload_n 3, 3, 0, 0), (.aload_n 0, 0, 0, 0), (.getfield 25, 2, 2, 0), (.if_icmp .ge 26, 35, 0, 0), (.iload_n 3, 3, 0, 0), (.iload_n 1, 1, 0, 0), (.if_icmp .eq 15, 29, 0, 0), (.aload_n 0, 0, 0, 0), (.iload_n 3, 3, 0, 0), (.invokevirtual 110, 25, 2, 3), (.iload_n 1, 1, 0, 0), (.if_icmp .ne 6, 29, 0, 0), (.iinc 2 1, 1, 2, 0), (.iinc 3 1, 1, 3, 0), (.goto (-28), 4, 0, 0)]
def bo_28_29 : List ZO := [(.iinc 3 1, 1, 3, 0), (.goto (-28), 4, 0, 0)]
def bo_28_35 : List ZO := [(.iload_n 2, 2, 0, 0), (.ireturn, 0, 0, 0)]
def bk_28 : List (Nat × ZE) := [(0, false, [true, true, false, false], bo_28_0, 4), (4, true, [true, true, true, true], bo_28_4, 0), (29, false, [true, true, true, true], bo_28_29, 0), (35, false, [false, false, true, false], bo_28_35, 0)]
theorem ck_28 : z_chks 28 bk_28 [[], [211, 427], [], []] = true := by decide +kernel
theorem bf_28_0 : z_fd bk_28 0 = some (false, [true, true, false, false], bo_28_0, 4) := rfl
theorem bf_28_4 : z_fd bk_28 4 = some (true, [true, true, true, true], bo_28_4, 0) := rfl
theorem bf_28_29 : z_fd bk_28 29 = some (false, [true, true, true, true], bo_28_29, 0) := rfl
theorem bf_28_35 : z_fd bk_28 35 = some (false, [false, false, true, false], bo_28_35, 0) := rfl
theorem cl_28 : z_mL 28 = 4 := by decide +kernel
theorem cz_28 : plainFor (z_my 28) = true ∧ ((z_rm 28).cells = 0 ∧ (z_rm 28).slots = 0) := by decide +kernel
-- 29 Mesh_loadSpread
def bo_29_0 : List ZO := [(.iconst 0, 0, 0, 0), (.istore_n 1, 1, 0, 0), (.bipush 8, 8, 0, 0), (.istore_n 2, 2, 0, 0), (.iconst 0, 0, 0, 0), (.istore_n 3, 3, 0, 0)]
def bo_29_7 : List ZO := [(.iload_n 3, 3, 0, 0), (.aload_n 0, 0, 0, 0), (.getfield 25, 2, 2, 0), (.if_icmp .ge 42, 54, 0, 0), (.aload_n 0, 0, 0, 0), (.getfield 11, 2, 0, 2), (.iload_n 3, 3, 0, 0), (.aaload, 0, 0, 0), (.getfield 52, 3, 0, 0), (.ifCond .ne 24, 48, 0, 0), (.aload_n 0, 0, 0, 0), (.iload_n 3, 3, 0, 0), (.invokevirtual 117, 28, 2, 3), (.istore 4, 4, 0, 0), (.iload_n 1, 1, 0, 0), (.iload 4, 4, 0, 0), (.invokestatic 120, 177, 2, 0), (.istore_n 1, 1, 0, 0), (.iload_n 2, 2, 0, 0), (.iload 4, 4, 0, 0), (.invokestatic 125, 178, 2, 0), (.istore_n 2, 2, 0, 0), (.iinc 3 1, 1, 3, 0), (.goto (-44), 7, 0, 0)]
def bo_29_48 : List ZO := [(.iinc 3 1, 1, 3, 0), (.goto (-44), 7, 0, 0)]
def bo_29_54 : List ZO := [(.iload_n 1, 1, 0, 0), (.iload_n 2, 2, 0, 0), (.isub, 0, 0, 0), (.ireturn, 0, 0, 0)]
def bk_29 : List (Nat × ZE) := [(0, false, [true, false, false, false, false], bo_29_0, 7), (7, true, [true, true, true, true, false], bo_29_7, 0), (48, false, [true, true, true, true, false], bo_29_48, 0), (54, false, [false, true, true, false, false], bo_29_54, 0)]
theorem ck_29 : z_chks 29 bk_29 [[], [211, 205, 95, 448, 600, 603], [], []] = true := by decide +kernel
theorem bf_29_0 : z_fd bk_29 0 = some (false, [true, false, false, false, false], bo_29_0, 7) := rfl
theorem bf_29_7 : z_fd bk_29 7 = some (true, [true, true, true, true, false], bo_29_7, 0) := rfl
theorem bf_29_48 : z_fd bk_29 48 = some (false, [true, true, true, true, false], bo_29_48, 0) := rfl
theorem bf_29_54 : z_fd bk_29 54 = some (false, [false, true, true, false, false], bo_29_54, 0) := rfl
theorem cl_29 : z_mL 29 = 5 := by decide +kernel
theorem cz_29 : plainFor (z_my 29) = true ∧ ((z_rm 29).cells = 0 ∧ (z_rm 29).slots = 0) := by decide +kernel
-- 30 Mesh_allParents
def bo_30_0 : List ZO := [(.lconst 0, 0, 0, 0), (.lstore_n 1, 1, 0, 0), (.iconst 0, 0, 0, 0), (.istore_n 3, 3, 0, 0)]
def bo_30_4 : List ZO := [(.iload_n 3, 3, 0, 0), (.aload_n 0, 0, 0, 0), (.getfield 25, 2, 2, 0), (.if_icmp .ge 45, 54, 0, 0), (.lload_n 1, 1, 0, 0), (.ldc2_w 128, 16, 0, 0), (.lmul, 0, 0, 0), (.aload_n 0, 0, 0, 0), (.getfield 11, 2, 0, 2), (.iload_n 3, 3, 0, 0), (.aaload, 0, 0, 0), (.getfield 107, 3, 4, 0), (.bipush (-9), 9, 0, 1), (.if_icmp .ne 8, 36, 0, 0), (.bipush 8, 8, 0, 0), (.goto 12, 45, 0, 0)]
def bo_30_36 : List ZO := [(.aload_n 0, 0, 0, 0), (.getfield 11, 2, 0, 2), (.iload_n 3, 3, 0, 0), (.aaload, 0, 0, 0), (.getfield 107, 3, 4, 0), (.i2l, 0, 0, 0), (.ladd, 0, 0, 0), (.lstore_n 1, 1, 0, 0), (.iinc 3 1, 1, 3, 0), (.goto (-47), 4, 0, 0)]
def bo_30_45 : List ZO := [(.i2l, 0, 0, 0), (.ladd, 0, 0, 0), (.lstore_n 1, 1, 0, 0), (.iinc 3 1, 1, 3, 0), (.goto (-47), 4, 0, 0)]
def bo_30_54 : List ZO := [(.lload_n 1, 1, 0, 0), (.lreturn, 0, 0, 0)]
def bk_30 : List (Nat × ZE) := [(0, false, [true, false, false, false], bo_30_0, 4), (4, true, [true, true, false, true], bo_30_4, 0), (36, false, [true, false, false, true], bo_30_36, 0), (45, false, [true, false, false, true], bo_30_45, 0), (54, false, [false, true, false, false], bo_30_54, 0)]
theorem ck_30 : z_chks 30 bk_30 [[], [211, 585, 205, 107], [205, 107], [], []] = true := by decide +kernel
theorem bf_30_0 : z_fd bk_30 0 = some (false, [true, false, false, false], bo_30_0, 4) := rfl
theorem bf_30_4 : z_fd bk_30 4 = some (true, [true, true, false, true], bo_30_4, 0) := rfl
theorem bf_30_36 : z_fd bk_30 36 = some (false, [true, false, false, true], bo_30_36, 0) := rfl
theorem bf_30_45 : z_fd bk_30 45 = some (false, [true, false, false, true], bo_30_45, 0) := rfl
theorem bf_30_54 : z_fd bk_30 54 = some (false, [false, true, false, false], bo_30_54, 0) := rfl
theorem cl_30 : z_mL 30 = 4 := by decide +kernel
theorem cz_30 : plainFor (z_my 30) = true ∧ ((z_rm 30).cells = 0 ∧ (z_rm 30).slots = 0) := by decide +kernel
-- 31 Mesh_nodeProperty
def bo_31_0 : List ZO := [(.aload_n 0, 0, 0, 0), (.getfield 11, 2, 0, 2), (.iload_n 1, 1, 0, 0), (.aaload, 0, 0, 0), (.astore_n 3, 3, 0, 0), (.aload_n 3, 3, 0, 0), (.getfield 52, 3, 0, 0), (.ifCond .ne 7, 18, 0, 0), (.iconst 1, 1, 0, 0), (.goto 4, 19, 0, 0)]
theorem cb_31_0 : z_chk 31 bo_31_0 0 0 [205, 95] = true := by decide +kernel
def bo_31_18 : List ZO := [(.iconst 0, 0, 0, 0), (.istore 4, 4, 0, 0), (.iload_n 2, 2, 0, 0), (.tableswitch 151 0 9 #[54, 59, 79, 84, 89, 94, 99, 114, 129, 135], 22, 0, 9)]
theorem cb_31_18 : z_chk 31 bo_31_18 18 0 [] = true := by decide +kernel
def bo_31_19 : List ZO := [(.istore 4, 4, 0, 0), (.iload_n 2, 2, 0, 0), (.tableswitch 151 0 9 #[54, 59, 79, 84, 89, 94, 99, 114, 129, 135], 22, 0, 9)]
theorem cb_31_19 : z_chk 31 bo_31_19 19 0 [] = true := by decide +kernel
def bo_31_76 : List ZO := [(.aload_n 3, 3, 0, 0), (.getfield 52, 3, 0, 0), (.ireturn, 0, 0, 0)]
theorem cb_31_76 : z_chk 31 bo_31_76 76 0 [95] = true := by decide +kernel
def bo_31_81 : List ZO := [(.aload_n 3, 3, 0, 0), (.getfield 52, 3, 0, 0), (.iconst 2, 2, 0, 0), (.if_icmp .ne 10, 96, 0, 0), (.aload_n 3, 3, 0, 0), (.getfield 130, 3, 2, 0), (.goto 7, 100, 0, 0)]
theorem cb_31_81 : z_chk 31 bo_31_81 81 0 [95, 102] = true := by decide +kernel
def bo_31_96 : List ZO := [(.aload_n 3, 3, 0, 0), (.getfield 133, 3, 1, 0), (.ireturn, 0, 0, 0)]
theorem cb_31_96 : z_chk 31 bo_31_96 96 0 [99] = true := by decide +kernel
def bo_31_100 : List ZO := [(.ireturn, 0, 0, 0)]
theorem cb_31_100 : z_chk 31 bo_31_100 100 0 [] = true := by decide +kernel
def bo_31_101 : List ZO := [(.aload_n 3, 3, 0, 0), (.getfield 136, 3, 3, 0), (.ireturn, 0, 0, 0)]
theorem cb_31_101 : z_chk 31 bo_31_101 101 0 [105] = true := by decide +kernel
def bo_31_106 : List ZO := [(.aload_n 3, 3, 0, 0), (.getfield 107, 3, 4, 0), (.ireturn, 0, 0, 0)]
theorem cb_31_106 : z_chk 31 bo_31_106 106 0 [107] = true := by decide +kernel
def bo_31_111 : List ZO := [(.aload_n 3, 3, 0, 0), (.getfield 139, 3, 5, 0), (.ireturn, 0, 0, 0)]
theorem cb_31_111 : z_chk 31 bo_31_111 111 0 [110] = true := by decide +kernel
def bo_31_116 : List ZO := [(.aload_n 3, 3, 0, 0), (.getfield 142, 3, 6, 0), (.ireturn, 0, 0, 0)]
theorem cb_31_116 : z_chk 31 bo_31_116 116 0 [112] = true := by decide +kernel
def bo_31_121 : List ZO := [(.iload 4, 4, 0, 0), (.ifCond .eq 8, 131, 0, 0), (.bipush (-9), 9, 0, 1), (.goto 7, 135, 0, 0)]
theorem cb_31_121 : z_chk 31 bo_31_121 121 0 [] = true := by decide +kernel
def bo_31_131 : List ZO := [(.aload_n 3, 3, 0, 0), (.getfield 143, 3, 7, 0), (.ireturn, 0, 0, 0)]
theorem cb_31_131 : z_chk 31 bo_31_131 131 0 [114] = true := by decide +kernel
def bo_31_135 : List ZO := [(.ireturn, 0, 0, 0)]
theorem cb_31_135 : z_chk 31 bo_31_135 135 0 [] = true := by decide +kernel
def bo_31_136 : List ZO := [(.iload 4, 4, 0, 0), (.ifCond .eq 8, 146, 0, 0), (.bipush (-9), 9, 0, 1), (.goto 7, 150, 0, 0)]
theorem cb_31_136 : z_chk 31 bo_31_136 136 0 [] = true := by decide +kernel
def bo_31_146 : List ZO := [(.aload_n 3, 3, 0, 0), (.getfield 146, 3, 8, 0), (.ireturn, 0, 0, 0)]
theorem cb_31_146 : z_chk 31 bo_31_146 146 0 [116] = true := by decide +kernel
def bo_31_150 : List ZO := [(.ireturn, 0, 0, 0)]
theorem cb_31_150 : z_chk 31 bo_31_150 150 0 [] = true := by decide +kernel
def bo_31_151 : List ZO := [(.aload_n 0, 0, 0, 0), (.iload_n 1, 1, 0, 0), (.invokevirtual 110, 25, 2, 3), (.ireturn, 0, 0, 0)]
theorem cb_31_151 : z_chk 31 bo_31_151 151 0 [427] = true := by decide +kernel
def bo_31_157 : List ZO := [(.iload 4, 4, 0, 0), (.ifCond .eq 11, 170, 0, 0), (.aload_n 0, 0, 0, 0), (.iload_n 1, 1, 0, 0), (.invokevirtual 117, 28, 2, 3), (.goto 5, 172, 0, 0)]
theorem cb_31_157 : z_chk 31 bo_31_157 157 0 [448] = true := by decide +kernel
def bo_31_170 : List ZO := [(.bipush (-9), 9, 0, 1), (.ireturn, 0, 0, 0)]
theorem cb_31_170 : z_chk 31 bo_31_170 170 0 [] = true := by decide +kernel
def bo_31_172 : List ZO := [(.ireturn, 0, 0, 0)]
theorem cb_31_172 : z_chk 31 bo_31_172 172 0 [] = true := by decide +kernel
def bo_31_173 : List ZO := [(.bipush (-2), 2, 0, 1), (.ireturn, 0, 0, 0)]
theorem cb_31_173 : z_chk 31 bo_31_173 173 0 [] = true := by decide +kernel
def bk_31 : List (Nat × ZE) := [(0, false, [true, true, true, false, false], bo_31_0, 0), (18, false, [true, true, true, true, false], bo_31_18, 0), (19, false, [true, true, true, true, false], bo_31_19, 0), (76, false, [false, false, false, true, false], bo_31_76, 0), (81, false, [false, false, false, true, false], bo_31_81, 0), (96, false, [false, false, false, true, false], bo_31_96, 0), (100, false, [false, false, false, false, false], bo_31_100, 0), (101, false, [false, false, false, true, false], bo_31_101, 0), (106, false, [false, false, false, true, false], bo_31_106, 0), (111, false, [false, false, false, true, false], bo_31_111, 0), (116, false, [false, false, false, true, false], bo_31_116, 0), (121, false, [false, false, false, true, true], bo_31_121, 0), (131, false, [false, false, false, true, false], bo_31_131, 0), (135, false, [false, false, false, false, false], bo_31_135, 0), (136, false, [false, false, false, true, true], bo_31_136, 0), (146, false, [false, false, false, true, false], bo_31_146, 0), (150, false, [false, false, false, false, false], bo_31_150, 0), (151, false, [true, true, false, false, false], bo_31_151, 0), (157, false, [true, true, false, false, true], bo_31_157, 0), (170, false, [false, false, false, false, false], bo_31_170, 0), (172, false, [false, false, false, false, false], bo_31_172, 0), (173, false, [false, false, false, false, false], bo_31_173, 0)]
theorem ck_31 : z_chks 31 bk_31 [[205, 95], [], [], [95], [95, 102], [99], [], [105], [107], [110], [112], [], [114], [], [], [116], [], [427], [448], [], [], []] = true := z_chks_cons cb_31_0 (z_chks_cons cb_31_18 (z_chks_cons cb_31_19 (z_chks_cons cb_31_76 (z_chks_cons cb_31_81 (z_chks_cons cb_31_96 (z_chks_cons cb_31_100 (z_chks_cons cb_31_101 (z_chks_cons cb_31_106 (z_chks_cons cb_31_111 (z_chks_cons cb_31_116 (z_chks_cons cb_31_121 (z_chks_cons cb_31_131 (z_chks_cons cb_31_135 (z_chks_cons cb_31_136 (z_chks_cons cb_31_146 (z_chks_cons cb_31_150 (z_chks_cons cb_31_151 (z_chks_cons cb_31_157 (z_chks_cons cb_31_170 (z_chks_cons cb_31_172 (z_chks_cons cb_31_173 (z_chks_nil))))))))))))))))))))))
theorem bf_31_0 : z_fd bk_31 0 = some (false, [true, true, true, false, false], bo_31_0, 0) := rfl
theorem bf_31_18 : z_fd bk_31 18 = some (false, [true, true, true, true, false], bo_31_18, 0) := rfl
theorem bf_31_19 : z_fd bk_31 19 = some (false, [true, true, true, true, false], bo_31_19, 0) := rfl
theorem bf_31_76 : z_fd bk_31 76 = some (false, [false, false, false, true, false], bo_31_76, 0) := rfl
theorem bf_31_81 : z_fd bk_31 81 = some (false, [false, false, false, true, false], bo_31_81, 0) := rfl
theorem bf_31_96 : z_fd bk_31 96 = some (false, [false, false, false, true, false], bo_31_96, 0) := rfl
theorem bf_31_100 : z_fd bk_31 100 = some (false, [false, false, false, false, false], bo_31_100, 0) := rfl
theorem bf_31_101 : z_fd bk_31 101 = some (false, [false, false, false, true, false], bo_31_101, 0) := rfl
theorem bf_31_106 : z_fd bk_31 106 = some (false, [false, false, false, true, false], bo_31_106, 0) := rfl
theorem bf_31_111 : z_fd bk_31 111 = some (false, [false, false, false, true, false], bo_31_111, 0) := rfl
theorem bf_31_116 : z_fd bk_31 116 = some (false, [false, false, false, true, false], bo_31_116, 0) := rfl
theorem bf_31_121 : z_fd bk_31 121 = some (false, [false, false, false, true, true], bo_31_121, 0) := rfl
theorem bf_31_131 : z_fd bk_31 131 = some (false, [false, false, false, true, false], bo_31_131, 0) := rfl
theorem bf_31_135 : z_fd bk_31 135 = some (false, [false, false, false, false, false], bo_31_135, 0) := rfl
theorem bf_31_136 : z_fd bk_31 136 = some (false, [false, false, false, true, true], bo_31_136, 0) := rfl
theorem bf_31_146 : z_fd bk_31 146 = some (false, [false, false, false, true, false], bo_31_146, 0) := rfl
theorem bf_31_150 : z_fd bk_31 150 = some (false, [false, false, false, false, false], bo_31_150, 0) := rfl
theorem bf_31_151 : z_fd bk_31 151 = some (false, [true, true, false, false, false], bo_31_151, 0) := rfl
theorem bf_31_157 : z_fd bk_31 157 = some (false, [true, true, false, false, true], bo_31_157, 0) := rfl
theorem bf_31_170 : z_fd bk_31 170 = some (false, [false, false, false, false, false], bo_31_170, 0) := rfl
theorem bf_31_172 : z_fd bk_31 172 = some (false, [false, false, false, false, false], bo_31_172, 0) := rfl
theorem bf_31_173 : z_fd bk_31 173 = some (false, [false, false, false, false, false], bo_31_173, 0) := rfl
theorem cl_31 : z_mL 31 = 5 := by decide +kernel
theorem cz_31 : plainFor (z_my 31) = true ∧ ((z_rm 31).cells = 0 ∧ (z_rm 31).slots = 0) := by decide +kernel
-- 32 Node_init
def bo_32_0 : List ZO := [(.aload_n 0, 0, 0, 0), (.invokespecial 3, 0, 1, 99), (.return_, 0, 0, 0)]
def bk_32 : List (Nat × ZE) := [(0, false, [true], bo_32_0, 0)]
theorem ck_32 : z_chks 32 bk_32 [[93]] = true := by decide +kernel
theorem bf_32_0 : z_fd bk_32 0 = some (false, [true], bo_32_0, 0) := rfl
theorem cl_32 : z_mL 32 = 1 := by decide +kernel
theorem cz_32 : plainFor (z_my 32) = true ∧ ((z_rm 32).cells = 0 ∧ (z_rm 32).slots = 0) := by decide +kernel
-- 33 Node_reset
def bo_33_0 : List ZO := [(.aload_n 0, 0, 0, 0), (.iload_n 1, 1, 0, 0), (.putfield 9, 3, 0, 0), (.aload_n 0, 0, 0, 0), (.iconst 0, 0, 0, 0), (.putfield 15, 3, 1, 0), (.aload_n 0, 0, 0, 0), (.iconst 0, 0, 0, 0), (.putfield 18, 3, 2, 0), (.aload_n 0, 0, 0, 0), (.iconst 0, 0, 0, 0), (.putfield 21, 3, 3, 0), (.aload_n 0, 0, 0, 0), (.invokevirtual 24, 35, 1, 4), (.aload_n 0, 0, 0, 0), (.iconst 0, 0, 0, 0), (.putfield 27, 3, 7, 0), (.aload_n 0, 0, 0, 0), (.sipush 9999, 9999, 0, 0), (.putfield 30, 3, 8, 0), (.return_, 0, 0, 0)]
def bk_33 : List (Nat × ZE) := [(0, false, [true, true], bo_33_0, 0)]
theorem ck_33 : z_chks 33 bk_33 [[94, 96, 100, 103, 355, 113, 115]] = true := by decide +kernel
theorem bf_33_0 : z_fd bk_33 0 = some (false, [true, true], bo_33_0, 0) := rfl
theorem cl_33 : z_mL 33 = 2 := by decide +kernel
theorem cz_33 : plainFor (z_my 33) = true ∧ ((z_rm 33).cells = 0 ∧ (z_rm 33).slots = 0) := by decide +kernel
-- 34 Node_copyFrom
def bo_34_0 : List ZO := [(.aload_n 0, 0, 0, 0), (.aload_n 1, 1, 0, 0), (.getfield 9, 3, 0, 0), (.putfield 9, 3, 0, 0), (.aload_n 0, 0, 0, 0), (.aload_n 1, 1, 0, 0), (.getfield 15, 3, 1, 0), (.putfield 15, 3, 1, 0), (.aload_n 0, 0, 0, 0), (.aload_n 1, 1, 0, 0), (.getfield 18, 3, 2, 0), (.putfield 18, 3, 2, 0), (.aload_n 0, 0, 0, 0), (.aload_n 1, 1, 0, 0), (.getfield 21, 3, 3, 0), (.putfield 21, 3, 3, 0), (.aload_n 0, 0, 0, 0), (.aload_n 1, 1, 0, 0), (.getfield 33, 3, 4, 0), (.putfield 33, 3, 4, 0), (.aload_n 0, 0, 0, 0), (.aload_n 1, 1, 0, 0), (.getfield 36, 3, 5, 0), (.putfield 36, 3, 5, 0), (.aload_n 0, 0, 0, 0), (.aload_n 1, 1, 0, 0), (.getfield 39, 3, 6, 0), (.putfield 39, 3, 6, 0), (.aload_n 0, 0, 0, 0), (.aload_n 1, 1, 0, 0), (.getfield 27, 3, 7, 0), (.putfield 27, 3, 7, 0), (.aload_n 0, 0, 0, 0), (.aload_n 1, 1, 0, 0), (.getfield 30, 3, 8, 0), (.putfield 30, 3, 8, 0), (.return_, 0, 0, 0)]
def bk_34 : List (Nat × ZE) := [(0, false, [true, true], bo_34_0, 0)]
theorem ck_34 : z_chks 34 bk_34 [[94, 94, 96, 96, 100, 100, 103, 103, 106, 106, 109, 109, 111, 111, 113, 113, 115, 115]] = true := by decide +kernel
theorem bf_34_0 : z_fd bk_34 0 = some (false, [true, true], bo_34_0, 0) := rfl
theorem cl_34 : z_mL 34 = 2 := by decide +kernel
theorem cz_34 : plainFor (z_my 34) = true ∧ ((z_rm 34).cells = 0 ∧ (z_rm 34).slots = 0) := by decide +kernel
-- 35 Node_dropParent
def bo_35_0 : List ZO := [(.aload_n 0, 0, 0, 0), (.bipush (-9), 9, 0, 1), (.putfield 33, 3, 4, 0), (.aload_n 0, 0, 0, 0), (.bipush (-9), 9, 0, 1), (.putfield 36, 3, 5, 0), (.aload_n 0, 0, 0, 0), (.bipush (-9), 9, 0, 1), (.putfield 39, 3, 6, 0), (.return_, 0, 0, 0)]
def bk_35 : List (Nat × ZE) := [(0, false, [true], bo_35_0, 0)]
theorem ck_35 : z_chks 35 bk_35 [[106, 109, 111]] = true := by decide +kernel
theorem bf_35_0 : z_fd bk_35 0 = some (false, [true], bo_35_0, 0) := rfl
theorem cl_35 : z_mL 35 = 1 := by decide +kernel
theorem cz_35 : plainFor (z_my 35) = true ∧ ((z_rm 35).cells = 0 ∧ (z_rm 35).slots = 0) := by decide +kernel
-- 36 Node_isAwake
def bo_36_0 : List ZO := [(.aload_n 0, 0, 0, 0), (.getfield 9, 3, 0, 0), (.iconst 2, 2, 0, 0), (.if_icmp .ne 23, 28, 0, 0), (.aload_n 0, 0, 0, 0), (.getfield 18, 3, 2, 0), (.ifCond .le 20, 32, 0, 0), (.iload_n 1, 1, 0, 0), (.aload_n 0, 0, 0, 0), (.getfield 18, 3, 2, 0), (.irem, 0, 0, 0), (.aload_n 0, 0, 0, 0), (.getfield 21, 3, 3, 0), (.if_icmp .ne 7, 32, 0, 0), (.iconst 1, 1, 0, 0), (.goto 4, 33, 0, 0)]
def bo_36_28 : List ZO := [(.iconst 1, 1, 0, 0), (.goto 4, 33, 0, 0)]
def bo_36_32 : List ZO := [(.iconst 0, 0, 0, 0), (.ireturn, 1, 0, 0)]
def bo_36_33 : List ZO := [(.ireturn, 1, 0, 0)]
def bk_36 : List (Nat × ZE) := [(0, false, [true, true], bo_36_0, 0), (28, false, [false, false], bo_36_28, 0), (32, false, [false, false], bo_36_32, 0), (33, false, [false, false], bo_36_33, 0)]
theorem ck_36 : z_chks 36 bk_36 [[94, 100, 100, 103], [], [], []] = true := by decide +kernel
theorem bf_36_0 : z_fd bk_36 0 = some (false, [true, true], bo_36_0, 0) := rfl
theorem bf_36_28 : z_fd bk_36 28 = some (false, [false, false], bo_36_28, 0) := rfl
theorem bf_36_32 : z_fd bk_36 32 = some (false, [false, false], bo_36_32, 0) := rfl
theorem bf_36_33 : z_fd bk_36 33 = some (false, [false, false], bo_36_33, 0) := rfl
theorem cl_36 : z_mL 36 = 2 := by decide +kernel
theorem cz_36 : plainFor (z_my 36) = true ∧ ((z_rm 36).cells = 0 ∧ (z_rm 36).slots = 0) := by decide +kernel
-- 37 Node_fixOffer
def bo_37_0 : List ZO := [(.aload_n 0, 0, 0, 0), (.getfield 9, 3, 0, 0), (.ifCond .ne 32, 36, 0, 0), (.aload_n 0, 0, 0, 0), (.iload_n 2, 2, 0, 0), (.ifCond .ne 7, 16, 0, 0), (.iconst 1, 1, 0, 0), (.goto 4, 17, 0, 0)]
theorem cb_37_0 : z_chk 37 bo_37_0 0 0 [94] = true := by decide +kernel
def bo_37_16 : List ZO := [(.iconst 0, 0, 0, 0), (.putfield 42, 3, 9, 3), (.aload_n 0, 0, 0, 0), (.iload_n 1, 1, 0, 0), (.putfield 46, 3, 10, 0), (.aload_n 0, 0, 0, 0), (.aload_n 0, 0, 0, 0), (.getfield 15, 3, 1, 0), (.putfield 49, 3, 11, 0), (.goto 45, 78, 0, 0)]
theorem cb_37_16 : z_chk 37 bo_37_16 16 0 [117, 119, 96, 120] = true := by decide +kernel
def bo_37_17 : List ZO := [(.putfield 42, 3, 9, 3), (.aload_n 0, 0, 0, 0), (.iload_n 1, 1, 0, 0), (.putfield 46, 3, 10, 0), (.aload_n 0, 0, 0, 0), (.aload_n 0, 0, 0, 0), (.getfield 15, 3, 1, 0), (.putfield 49, 3, 11, 0), (.goto 45, 78, 0, 0)]
theorem cb_37_17 : z_chk 37 bo_37_17 17 0 [117, 119, 96, 120] = true := by decide +kernel
def bo_37_36 : List ZO := [(.aload_n 0, 0, 0, 0), (.aload_n 0, 0, 0, 0), (.getfield 9, 3, 0, 0), (.iconst 1, 1, 0, 0), (.if_icmp .ne 16, 58, 0, 0), (.aload_n 0, 0, 0, 0), (.getfield 33, 3, 4, 0), (.bipush (-9), 9, 0, 1), (.if_icmp .eq 7, 58, 0, 0), (.iconst 1, 1, 0, 0), (.goto 4, 59, 0, 0)]
theorem cb_37_36 : z_chk 37 bo_37_36 36 0 [94, 106] = true := by decide +kernel
def bo_37_58 : List ZO := [(.iconst 0, 0, 0, 0), (.putfield 42, 3, 9, 3), (.aload_n 0, 0, 0, 0), (.aload_n 0, 0, 0, 0), (.getfield 39, 3, 6, 0), (.putfield 46, 3, 10, 0), (.aload_n 0, 0, 0, 0), (.aload_n 0, 0, 0, 0), (.getfield 36, 3, 5, 0), (.putfield 49, 3, 11, 0), (.return_, 0, 0, 0)]
theorem cb_37_58 : z_chk 37 bo_37_58 58 0 [117, 111, 119, 109, 120] = true := by decide +kernel
def bo_37_59 : List ZO := [(.putfield 42, 3, 9, 3), (.aload_n 0, 0, 0, 0), (.aload_n 0, 0, 0, 0), (.getfield 39, 3, 6, 0), (.putfield 46, 3, 10, 0), (.aload_n 0, 0, 0, 0), (.aload_n 0, 0, 0, 0), (.getfield 36, 3, 5, 0), (.putfield 49, 3, 11, 0), (.return_, 0, 0, 0)]
theorem cb_37_59 : z_chk 37 bo_37_59 59 0 [117, 111, 119, 109, 120] = true := by decide +kernel
def bo_37_78 : List ZO := [(.return_, 0, 0, 0)]
theorem cb_37_78 : z_chk 37 bo_37_78 78 0 [] = true := by decide +kernel
def bk_37 : List (Nat × ZE) := [(0, false, [true, true, true], bo_37_0, 0), (16, false, [true, true, false], bo_37_16, 0), (17, false, [true, true, false], bo_37_17, 0), (36, false, [true, false, false], bo_37_36, 0), (58, false, [true, false, false], bo_37_58, 0), (59, false, [true, false, false], bo_37_59, 0), (78, false, [false, false, false], bo_37_78, 0)]
theorem ck_37 : z_chks 37 bk_37 [[94], [117, 119, 96, 120], [117, 119, 96, 120], [94, 106], [117, 111, 119, 109, 120], [117, 111, 119, 109, 120], []] = true := z_chks_cons cb_37_0 (z_chks_cons cb_37_16 (z_chks_cons cb_37_17 (z_chks_cons cb_37_36 (z_chks_cons cb_37_58 (z_chks_cons cb_37_59 (z_chks_cons cb_37_78 (z_chks_nil)))))))
theorem bf_37_0 : z_fd bk_37 0 = some (false, [true, true, true], bo_37_0, 0) := rfl
theorem bf_37_16 : z_fd bk_37 16 = some (false, [true, true, false], bo_37_16, 0) := rfl
theorem bf_37_17 : z_fd bk_37 17 = some (false, [true, true, false], bo_37_17, 0) := rfl
theorem bf_37_36 : z_fd bk_37 36 = some (false, [true, false, false], bo_37_36, 0) := rfl
theorem bf_37_58 : z_fd bk_37 58 = some (false, [true, false, false], bo_37_58, 0) := rfl
theorem bf_37_59 : z_fd bk_37 59 = some (false, [true, false, false], bo_37_59, 0) := rfl
theorem bf_37_78 : z_fd bk_37 78 = some (false, [false, false, false], bo_37_78, 0) := rfl
theorem cl_37 : z_mL 37 = 3 := by decide +kernel
theorem cz_37 : plainFor (z_my 37) = true ∧ ((z_rm 37).cells = 0 ∧ (z_rm 37).slots = 0) := by decide +kernel
-- 38 Node_isFeasible
def bo_38_0 : List ZO := [(.aload_n 1, 1, 0, 0), (.getfield 46, 3, 10, 0), (.aload_n 0, 0, 0, 0), (.getfield 27, 3, 7, 0), (.if_icmp .gt 25, 33, 0, 0), (.aload_n 1, 1, 0, 0), (.getfield 46, 3, 10, 0), (.aload_n 0, 0, 0, 0), (.getfield 27, 3, 7, 0), (.if_icmp .ne 18, 37, 0, 0), (.aload_n 1, 1, 0, 0), (.getfield 49, 3, 11, 0), (.aload_n 0, 0, 0, 0), (.getfield 30, 3, 8, 0), (.if_icmp .ge 7, 37, 0, 0), (.iconst 1, 1, 0, 0), (.goto 4, 38, 0, 0)]
def bo_38_33 : List ZO := [(.iconst 1, 1, 0, 0), (.goto 4, 38, 0, 0)]
def bo_38_37 : List ZO := [(.iconst 0, 0, 0, 0), (.ireturn, 1, 0, 0)]
def bo_38_38 : List ZO := [(.ireturn, 1, 0, 0)]
def bk_38 : List (Nat × ZE) := [(0, false, [true, true], bo_38_0, 0), (33, false, [false, false], bo_38_33, 0), (37, false, [false, false], bo_38_37, 0), (38, false, [false, false], bo_38_38, 0)]
theorem ck_38 : z_chks 38 bk_38 [[119, 113, 119, 113, 120, 115], [], [], []] = true := by decide +kernel
theorem bf_38_0 : z_fd bk_38 0 = some (false, [true, true], bo_38_0, 0) := rfl
theorem bf_38_33 : z_fd bk_38 33 = some (false, [false, false], bo_38_33, 0) := rfl
theorem bf_38_37 : z_fd bk_38 37 = some (false, [false, false], bo_38_37, 0) := rfl
theorem bf_38_38 : z_fd bk_38 38 = some (false, [false, false], bo_38_38, 0) := rfl
theorem cl_38 : z_mL 38 = 2 := by decide +kernel
theorem cz_38 : plainFor (z_my 38) = true ∧ ((z_rm 38).cells = 0 ∧ (z_rm 38).slots = 0) := by decide +kernel
-- 39 Node_forgetHeard
def bo_39_0 : List ZO := [(.aload_n 0, 0, 0, 0), (.iconst 0, 0, 0, 0), (.putfield 52, 3, 12, 3), (.aload_n 0, 0, 0, 0), (.aconst_null, 0, 0, 0), (.putfield 55, 3, 13, 2), (.aload_n 0, 0, 0, 0), (.aconst_null, 0, 0, 0), (.putfield 59, 3, 15, 2), (.return_, 0, 0, 0)]
def bk_39 : List (Nat × ZE) := [(0, false, [true], bo_39_0, 0)]
theorem ck_39 : z_chks 39 bk_39 [[122, 123, 125]] = true := by decide +kernel
theorem bf_39_0 : z_fd bk_39 0 = some (false, [true], bo_39_0, 0) := rfl
theorem cl_39 : z_mL 39 = 1 := by decide +kernel
theorem cz_39 : plainFor (z_my 39) = true ∧ ((z_rm 39).cells = 0 ∧ (z_rm 39).slots = 0) := by decide +kernel
-- 40 Node_hear
def bo_40_0 : List ZO := [(.aload_n 1, 1, 0, 0), (.getfield 42, 3, 9, 3), (.ifCond .ne 4, 8, 0, 0), (.return_, 0, 0, 0)]
theorem cb_40_0 : z_chk 40 bo_40_0 0 0 [117] = true := by decide +kernel
def bo_40_8 : List ZO := [(.aload_n 0, 0, 0, 0), (.iconst 1, 1, 0, 0), (.putfield 52, 3, 12, 3), (.aload_n 0, 0, 0, 0), (.aload_n 1, 1, 0, 0), (.invokevirtual 62, 38, 2, 4), (.ifCond .ne 4, 22, 0, 0), (.return_, 0, 0, 0)]
theorem cb_40_8 : z_chk 40 bo_40_8 8 0 [122, 518] = true := by decide +kernel
def bo_40_22 : List ZO := [(.aload_n 1, 1, 0, 0), (.getfield 49, 3, 11, 0), (.iload_n 3, 3, 0, 0), (.iadd, 0, 0, 0), (.istore 4, 4, 0, 0), (.iload_n 2, 2, 0, 0), (.aload_n 0, 0, 0, 0), (.getfield 33, 3, 4, 0), (.if_icmp .ne 14, 49, 0, 0), (.aload_n 0, 0, 0, 0), (.aload_n 1, 1, 0, 0), (.putfield 55, 3, 13, 2), (.aload_n 0, 0, 0, 0), (.iload 4, 4, 0, 0), (.putfield 66, 3, 14, 0), (.aload_n 0, 0, 0, 0), (.getfield 59, 3, 15, 2), (.ifnull 29, 82, 0, 0), (.iload 4, 4, 0, 0), (.aload_n 0, 0, 0, 0), (.getfield 69, 3, 17, 0), (.if_icmp .lt 20, 82, 0, 0), (.iload 4, 4, 0, 0), (.aload_n 0, 0, 0, 0), (.getfield 69, 3, 17, 0), (.if_icmp .ne 27, 98, 0, 0), (.iload_n 2, 2, 0, 0), (.aload_n 0, 0, 0, 0), (.getfield 72, 3, 16, 0), (.if_icmp .ge 19, 98, 0, 0), (.aload_n 0, 0, 0, 0), (.aload_n 1, 1, 0, 0), (.putfield 59, 3, 15, 2), (.aload_n 0, 0, 0, 0), (.iload_n 2, 2, 0, 0), (.putfield 72, 3, 16, 0), (.aload_n 0, 0, 0, 0), (.iload 4, 4, 0, 0), (.putfield 69, 3, 17, 0), (.return_, 0, 0, 0)]
theorem cb_40_22 : z_chk 40 bo_40_22 22 0 [120, 106, 123, 124, 125, 127, 127, 126, 125, 126, 127] = true := by decide +kernel
def bo_40_49 : List ZO := [(.aload_n 0, 0, 0, 0), (.getfield 59, 3, 15, 2), (.ifnull 29, 82, 0, 0), (.iload 4, 4, 0, 0), (.aload_n 0, 0, 0, 0), (.getfield 69, 3, 17, 0), (.if_icmp .lt 20, 82, 0, 0), (.iload 4, 4, 0, 0), (.aload_n 0, 0, 0, 0), (.getfield 69, 3, 17, 0), (.if_icmp .ne 27, 98, 0, 0), (.iload_n 2, 2, 0, 0), (.aload_n 0, 0, 0, 0), (.getfield 72, 3, 16, 0), (.if_icmp .ge 19, 98, 0, 0), (.aload_n 0, 0, 0, 0), (.aload_n 1, 1, 0, 0), (.putfield 59, 3, 15, 2), (.aload_n 0, 0, 0, 0), (.iload_n 2, 2, 0, 0), (.putfield 72, 3, 16, 0), (.aload_n 0, 0, 0, 0), (.iload 4, 4, 0, 0), (.putfield 69, 3, 17, 0), (.return_, 0, 0, 0)]
theorem cb_40_49 : z_chk 40 bo_40_49 49 0 [125, 127, 127, 126, 125, 126, 127] = true := by decide +kernel
def bo_40_82 : List ZO := [(.aload_n 0, 0, 0, 0), (.aload_n 1, 1, 0, 0), (.putfield 59, 3, 15, 2), (.aload_n 0, 0, 0, 0), (.iload_n 2, 2, 0, 0), (.putfield 72, 3, 16, 0), (.aload_n 0, 0, 0, 0), (.iload 4, 4, 0, 0), (.putfield 69, 3, 17, 0), (.return_, 0, 0, 0)]
theorem cb_40_82 : z_chk 40 bo_40_82 82 0 [125, 126, 127] = true := by decide +kernel
def bo_40_98 : List ZO := [(.return_, 0, 0, 0)]
theorem cb_40_98 : z_chk 40 bo_40_98 98 0 [] = true := by decide +kernel
def bk_40 : List (Nat × ZE) := [(0, false, [true, true, true, true, false], bo_40_0, 0), (8, false, [true, true, true, true, false], bo_40_8, 0), (22, false, [true, true, true, true, false], bo_40_22, 0), (49, false, [true, true, true, false, true], bo_40_49, 0), (82, false, [true, true, true, false, true], bo_40_82, 0), (98, false, [false, false, false, false, false], bo_40_98, 0)]
theorem ck_40 : z_chks 40 bk_40 [[117], [122, 518], [120, 106, 123, 124, 125, 127, 127, 126, 125, 126, 127], [125, 127, 127, 126, 125, 126, 127], [125, 126, 127], []] = true := z_chks_cons cb_40_0 (z_chks_cons cb_40_8 (z_chks_cons cb_40_22 (z_chks_cons cb_40_49 (z_chks_cons cb_40_82 (z_chks_cons cb_40_98 (z_chks_nil))))))
theorem bf_40_0 : z_fd bk_40 0 = some (false, [true, true, true, true, false], bo_40_0, 0) := rfl
theorem bf_40_8 : z_fd bk_40 8 = some (false, [true, true, true, true, false], bo_40_8, 0) := rfl
theorem bf_40_22 : z_fd bk_40 22 = some (false, [true, true, true, true, false], bo_40_22, 0) := rfl
theorem bf_40_49 : z_fd bk_40 49 = some (false, [true, true, true, false, true], bo_40_49, 0) := rfl
theorem bf_40_82 : z_fd bk_40 82 = some (false, [true, true, true, false, true], bo_40_82, 0) := rfl
theorem bf_40_98 : z_fd bk_40 98 = some (false, [false, false, false, false, false], bo_40_98, 0) := rfl
theorem cl_40 : z_mL 40 = 5 := by decide +kernel
theorem cz_40 : plainFor (z_my 40) = true ∧ ((z_rm 40).cells = 0 ∧ (z_rm 40).slots = 0) := by decide +kernel
-- 41 Node_choose
def bo_41_0 : List ZO := [(.aload_n 0, 0, 0, 0), (.getfield 55, 3, 13, 2), (.ifnonnull 10, 14, 0, 0), (.aload_n 0, 0, 0, 0), (.invokevirtual 24, 35, 1, 4), (.goto 22, 33, 0, 0)]
theorem cb_41_0 : z_chk 41 bo_41_0 0 0 [123, 355] = true := by decide +kernel
def bo_41_14 : List ZO := [(.aload_n 0, 0, 0, 0), (.aload_n 0, 0, 0, 0), (.getfield 66, 3, 14, 0), (.putfield 36, 3, 5, 0), (.aload_n 0, 0, 0, 0), (.aload_n 0, 0, 0, 0), (.getfield 55, 3, 13, 2), (.getfield 46, 3, 10, 0), (.putfield 39, 3, 6, 0), (.aload_n 0, 0, 0, 0), (.getfield 59, 3, 15, 2), (.ifnull 52, 89, 0, 0), (.aload_n 0, 0, 0, 0), (.getfield 33, 3, 4, 0), (.bipush (-9), 9, 0, 1), (.if_icmp .eq 16, 62, 0, 0), (.aload_n 0, 0, 0, 0), (.getfield 36, 3, 5, 0), (.aload_n 0, 0, 0, 0), (.getfield 69, 3, 17, 0), (.iload_n 1, 1, 0, 0), (.iadd, 0, 0, 0), (.if_icmp .le 30, 89, 0, 0), (.aload_n 0, 0, 0, 0), (.aload_n 0, 0, 0, 0), (.getfield 72, 3, 16, 0), (.putfield 33, 3, 4, 0), (.aload_n 0, 0, 0, 0), (.aload_n 0, 0, 0, 0), (.getfield 69, 3, 17, 0), (.putfield 36, 3, 5, 0), (.aload_n 0, 0, 0, 0), (.aload_n 0, 0, 0, 0), (.getfield 59, 3, 15, 2), (.getfield 46, 3, 10, 0), (.putfield 39, 3, 6, 0), (.aload_n 0, 0, 0, 0), (.getfield 33, 3, 4, 0), (.bipush (-9), 9, 0, 1), (.if_icmp .eq 7, 102, 0, 0), (.aload_n 0, 0, 0, 0), (.invokevirtual 75, 42, 1, 4), (.return_, 0, 0, 0)]
theorem cb_41_14 : z_chk 41 bo_41_14 14 0 [124, 109, 123, 119, 111, 125, 106, 109, 127, 126, 106, 127, 109, 125, 119, 111, 106, 527] = true := by decide +kernel
def bo_41_33 : List ZO := [(.aload_n 0, 0, 0, 0), (.getfield 59, 3, 15, 2), (.ifnull 52, 89, 0, 0), (.aload_n 0, 0, 0, 0), (.getfield 33, 3, 4, 0), (.bipush (-9), 9, 0, 1), (.if_icmp .eq 16, 62, 0, 0), (.aload_n 0, 0, 0, 0), (.getfield 36, 3, 5, 0), (.aload_n 0, 0, 0, 0), (.getfield 69, 3, 17, 0), (.iload_n 1, 1, 0, 0), (.iadd, 0, 0, 0), (.if_icmp .le 30, 89, 0, 0), (.aload_n 0, 0, 0, 0), (.aload_n 0, 0, 0, 0), (.getfield 72, 3, 16, 0), (.putfield 33, 3, 4, 0), (.aload_n 0, 0, 0, 0), (.aload_n 0, 0, 0, 0), (.getfield 69, 3, 17, 0), (.putfield 36, 3, 5, 0), (.aload_n 0, 0, 0, 0), (.aload_n 0, 0, 0, 0), (.getfield 59, 3, 15, 2), (.getfield 46, 3, 10, 0), (.putfield 39, 3, 6, 0), (.aload_n 0, 0, 0, 0), (.getfield 33, 3, 4, 0), (.bipush (-9), 9, 0, 1), (.if_icmp .eq 7, 102, 0, 0), (.aload_n 0, 0, 0, 0), (.invokevirtual 75, 42, 1, 4), (.return_, 0, 0, 0)]
theorem cb_41_33 : z_chk 41 bo_41_33 33 0 [125, 106, 109, 127, 126, 106, 127, 109, 125, 119, 111, 106, 527] = true := by decide +kernel
def bo_41_62 : List ZO := [(.aload_n 0, 0, 0, 0), (.aload_n 0, 0, 0, 0), (.getfield 72, 3, 16, 0), (.putfield 33, 3, 4, 0), (.aload_n 0, 0, 0, 0), (.aload_n 0, 0, 0, 0), (.getfield 69, 3, 17, 0), (.putfield 36, 3, 5, 0), (.aload_n 0, 0, 0, 0), (.aload_n 0, 0, 0, 0), (.getfield 59, 3, 15, 2), (.getfield 46, 3, 10, 0), (.putfield 39, 3, 6, 0), (.aload_n 0, 0, 0, 0), (.getfield 33, 3, 4, 0), (.bipush (-9), 9, 0, 1), (.if_icmp .eq 7, 102, 0, 0), (.aload_n 0, 0, 0, 0), (.invokevirtual 75, 42, 1, 4), (.return_, 0, 0, 0)]
theorem cb_41_62 : z_chk 41 bo_41_62 62 0 [126, 106, 127, 109, 125, 119, 111, 106, 527] = true := by decide +kernel
def bo_41_89 : List ZO := [(.aload_n 0, 0, 0, 0), (.getfield 33, 3, 4, 0), (.bipush (-9), 9, 0, 1), (.if_icmp .eq 7, 102, 0, 0), (.aload_n 0, 0, 0, 0), (.invokevirtual 75, 42, 1, 4), (.return_, 0, 0, 0)]
theorem cb_41_89 : z_chk 41 bo_41_89 89 0 [106, 527] = true := by decide +kernel
def bo_41_102 : List ZO := [(.return_, 0, 0, 0)]
theorem cb_41_102 : z_chk 41 bo_41_102 102 0 [] = true := by decide +kernel
def bk_41 : List (Nat × ZE) := [(0, false, [true, true], bo_41_0, 0), (14, false, [true, true], bo_41_14, 0), (33, false, [true, true], bo_41_33, 0), (62, false, [true, false], bo_41_62, 0), (89, false, [true, false], bo_41_89, 0), (102, false, [false, false], bo_41_102, 0)]
theorem ck_41 : z_chks 41 bk_41 [[123, 355], [124, 109, 123, 119, 111, 125, 106, 109, 127, 126, 106, 127, 109, 125, 119, 111, 106, 527], [125, 106, 109, 127, 126, 106, 127, 109, 125, 119, 111, 106, 527], [126, 106, 127, 109, 125, 119, 111, 106, 527], [106, 527], []] = true := z_chks_cons cb_41_0 (z_chks_cons cb_41_14 (z_chks_cons cb_41_33 (z_chks_cons cb_41_62 (z_chks_cons cb_41_89 (z_chks_cons cb_41_102 (z_chks_nil))))))
theorem bf_41_0 : z_fd bk_41 0 = some (false, [true, true], bo_41_0, 0) := rfl
theorem bf_41_14 : z_fd bk_41 14 = some (false, [true, true], bo_41_14, 0) := rfl
theorem bf_41_33 : z_fd bk_41 33 = some (false, [true, true], bo_41_33, 0) := rfl
theorem bf_41_62 : z_fd bk_41 62 = some (false, [true, false], bo_41_62, 0) := rfl
theorem bf_41_89 : z_fd bk_41 89 = some (false, [true, false], bo_41_89, 0) := rfl
theorem bf_41_102 : z_fd bk_41 102 = some (false, [false, false], bo_41_102, 0) := rfl
theorem cl_41 : z_mL 41 = 2 := by decide +kernel
theorem cz_41 : plainFor (z_my 41) = true ∧ ((z_rm 41).cells = 0 ∧ (z_rm 41).slots = 0) := by decide +kernel
-- 42 Node_tightenBound
def bo_42_0 : List ZO := [(.aload_n 0, 0, 0, 0), (.getfield 39, 3, 6, 0), (.aload_n 0, 0, 0, 0), (.getfield 27, 3, 7, 0), (.if_icmp .le 22, 30, 0, 0), (.aload_n 0, 0, 0, 0), (.aload_n 0, 0, 0, 0), (.getfield 39, 3, 6, 0), (.putfield 27, 3, 7, 0), (.aload_n 0, 0, 0, 0), (.aload_n 0, 0, 0, 0), (.getfield 36, 3, 5, 0), (.putfield 30, 3, 8, 0), (.goto 22, 49, 0, 0)]
def bo_42_30 : List ZO := [(.aload_n 0, 0, 0, 0), (.getfield 36, 3, 5, 0), (.aload_n 0, 0, 0, 0), (.getfield 30, 3, 8, 0), (.if_icmp .ge 11, 49, 0, 0), (.aload_n 0, 0, 0, 0), (.aload_n 0, 0, 0, 0), (.getfield 36, 3, 5, 0), (.putfield 30, 3, 8, 0), (.return_, 0, 0, 0)]
def bo_42_49 : List ZO := [(.return_, 0, 0, 0)]
def bk_42 : List (Nat × ZE) := [(0, false, [true], bo_42_0, 0), (30, false, [true], bo_42_30, 0), (49, false, [false], bo_42_49, 0)]
theorem ck_42 : z_chks 42 bk_42 [[111, 113, 111, 113, 109, 115], [109, 115, 109, 115], []] = true := by decide +kernel
theorem bf_42_0 : z_fd bk_42 0 = some (false, [true], bo_42_0, 0) := rfl
theorem bf_42_30 : z_fd bk_42 30 = some (false, [true], bo_42_30, 0) := rfl
theorem bf_42_49 : z_fd bk_42 49 = some (false, [false], bo_42_49, 0) := rfl
theorem cl_42 : z_mL 42 = 1 := by decide +kernel
theorem cz_42 : plainFor (z_my 42) = true ∧ ((z_rm 42).cells = 0 ∧ (z_rm 42).slots = 0) := by decide +kernel
-- 43 Node_asks
def bo_43_0 : List ZO := [(.aload_n 0, 0, 0, 0), (.getfield 33, 3, 4, 0), (.bipush (-9), 9, 0, 1), (.if_icmp .ne 14, 20, 0, 0), (.aload_n 0, 0, 0, 0), (.getfield 52, 3, 12, 3), (.ifCond .eq 7, 20, 0, 0), (.iconst 1, 1, 0, 0), (.goto 4, 21, 0, 0)]
def bo_43_20 : List ZO := [(.iconst 0, 0, 0, 0), (.ireturn, 1, 0, 0)]
def bo_43_21 : List ZO := [(.ireturn, 1, 0, 0)]
def bk_43 : List (Nat × ZE) := [(0, false, [true], bo_43_0, 0), (20, false, [false], bo_43_20, 0), (21, false, [false], bo_43_21, 0)]
theorem ck_43 : z_chks 43 bk_43 [[106, 122], [], []] = true := by decide +kernel
theorem bf_43_0 : z_fd bk_43 0 = some (false, [true], bo_43_0, 0) := rfl
theorem bf_43_20 : z_fd bk_43 20 = some (false, [false], bo_43_20, 0) := rfl
theorem bf_43_21 : z_fd bk_43 21 = some (false, [false], bo_43_21, 0) := rfl
theorem cl_43 : z_mL 43 = 1 := by decide +kernel
theorem cz_43 : plainFor (z_my 43) = true ∧ ((z_rm 43).cells = 0 ∧ (z_rm 43).slots = 0) := by decide +kernel
-- 44 Observations_init
def bo_44_0 : List ZO := [(.aload_n 0, 0, 0, 0), (.invokespecial 3, 0, 1, 99), (.aload_n 0, 0, 0, 0), (.bipush 6, 6, 0, 0), (.newarray .int, 0, 0, 0), (.putfield 9, 4, 0, 2), (.aload_n 0, 0, 0, 0), (.bipush 6, 6, 0, 0), (.newarray .int, 0, 0, 0), (.putfield 15, 4, 1, 2), (.aload_n 0, 0, 0, 0), (.bipush 6, 6, 0, 0), (.newarray .boolean, 0, 0, 0), (.putfield 18, 4, 2, 2), (.return_, 0, 0, 0)]
def bk_44 : List (Nat × ZE) := [(0, false, [true], bo_44_0, 0)]
theorem ck_44 : z_chks 44 bk_44 [[263, 264, 265, 266]] = true := by decide +kernel
theorem bf_44_0 : z_fd bk_44 0 = some (false, [true], bo_44_0, 0) := rfl
theorem cl_44 : z_mL 44 = 1 := by decide +kernel
theorem cz_44 : plainFor (z_my 44) = true ∧ ((z_rm 44).cells = 3 ∧ (z_rm 44).slots = 18) := by decide +kernel
-- 45 Observations_add
def bo_45_0 : List ZO := [(.aload_n 0, 0, 0, 0), (.getfield 22, 4, 3, 0), (.bipush 6, 6, 0, 0), (.if_icmp .ge 43, 49, 0, 0), (.aload_n 0, 0, 0, 0), (.getfield 9, 4, 0, 2), (.aload_n 0, 0, 0, 0), (.getfield 22, 4, 3, 0), (.iload_n 1, 1, 0, 0), (.iastore, 0, 0, 0), (.aload_n 0, 0, 0, 0), (.getfield 15, 4, 1, 2), (.aload_n 0, 0, 0, 0), (.getfield 22, 4, 3, 0), (.iload_n 2, 2, 0, 0), (.iastore, 0, 0, 0), (.aload_n 0, 0, 0, 0), (.getfield 18, 4, 2, 2), (.aload_n 0, 0, 0, 0), (.getfield 22, 4, 3, 0), (.iload_n 3, 3, 0, 0), (.bastore, 0, 0, 0), (.aload_n 0, 0, 0, 0), (.dup, 0, 0, 0), (.getfield 22, 4, 3, 0), (.iconst 1, 1, 0, 0), (.iadd, 0, 0, 0), (.putfield 22, 4, 3, 0), (.return_, 0, 0, 0)]
def bo_45_49 : List ZO := [(.return_, 0, 0, 0)]
def bk_45 : List (Nat × ZE) := [(0, false, [true, true, true, true], bo_45_0, 0), (49, false, [false, false, false, false], bo_45_49, 0)]
theorem ck_45 : z_chks 45 bk_45 [[267, 264, 267, 265, 267, 266, 267, 267, 267], []] = true := by decide +kernel
theorem bf_45_0 : z_fd bk_45 0 = some (false, [true, true, true, true], bo_45_0, 0) := rfl
theorem bf_45_49 : z_fd bk_45 49 = some (false, [false, false, false, false], bo_45_49, 0) := rfl
theorem cl_45 : z_mL 45 = 4 := by decide +kernel
theorem cz_45 : plainFor (z_my 45) = true ∧ ((z_rm 45).cells = 0 ∧ (z_rm 45).slots = 0) := by decide +kernel
-- 46 Observations_agreeAfter
def bo_46_0 : List ZO := [(.iconst 0, 0, 0, 0), (.istore_n 3, 3, 0, 0)]
def bo_46_2 : List ZO := [(.iload_n 3, 3, 0, 0), (.aload_n 0, 0, 0, 0), (.getfield 22, 4, 3, 0), (.if_icmp .ge 48, 55, 0, 0), (.aload_n 0, 0, 0, 0), (.getfield 15, 4, 1, 2), (.iload_n 3, 3, 0, 0), (.iaload, 0, 0, 0), (.iload_n 1, 1, 0, 0), (.if_icmp .ne 32, 49, 0, 0), (.aload_n 0, 0, 0, 0), (.getfield 18, 4, 2, 2), (.iload_n 3, 3, 0, 0), (.baload, 0, 0, 0), (.iload_n 2, 2, 0, 0), (.iconst 1, 1, 0, 0), (.aload_n 0, 0, 0, 0), (.getfield 9, 4, 0, 2), (.iload_n 3, 3, 0, 0), (.iaload, 0, 0, 0), (.ishl, 0, 0, 0), (.iand, 0, 0, 0), (.ifCond .eq 7, 43, 0, 0), (.iconst 1, 1, 0, 0), (.goto 4, 44, 0, 0)]
def bo_46_43 : List ZO := [(.iconst 0, 0, 0, 0), (.if_icmp .eq 5, 49, 0, 0), (.iconst 0, 0, 0, 0), (.ireturn, 1, 0, 0)]
def bo_46_44 : List ZO := [(.if_icmp .eq 5, 49, 0, 0), (.iconst 0, 0, 0, 0), (.ireturn, 1, 0, 0)]
def bo_46_49 : List ZO := [(.iinc 3 1, 1, 3, 0), (.goto (-50), 2, 0, 0)]
def bo_46_55 : List ZO := [(.iconst 1, 1, 0, 0), (.ireturn, 1, 0, 0)]
def bk_46 : List (Nat × ZE) := [(0, false, [true, true, true, false], bo_46_0, 2), (2, true, [true, true, true, true], bo_46_2, 0), (43, false, [true, true, true, true], bo_46_43, 0), (44, false, [true, true, true, true], bo_46_44, 0), (49, false, [true, true, true, true], bo_46_49, 0), (55, false, [false, false, false, false], bo_46_55, 0)]
theorem ck_46 : z_chks 46 bk_46 [[], [267, 265, 266, 264], [], [], [], []] = true := by decide +kernel
theorem bf_46_0 : z_fd bk_46 0 = some (false, [true, true, true, false], bo_46_0, 2) := rfl
theorem bf_46_2 : z_fd bk_46 2 = some (true, [true, true, true, true], bo_46_2, 0) := rfl
theorem bf_46_43 : z_fd bk_46 43 = some (false, [true, true, true, true], bo_46_43, 0) := rfl
theorem bf_46_44 : z_fd bk_46 44 = some (false, [true, true, true, true], bo_46_44, 0) := rfl
theorem bf_46_49 : z_fd bk_46 49 = some (false, [true, true, true, true], bo_46_49, 0) := rfl
theorem bf_46_55 : z_fd bk_46 55 = some (false, [false, false, false, false], bo_46_55, 0) := rfl
theorem cl_46 : z_mL 46 = 4 := by decide +kernel
theorem cz_46 : plainFor (z_my 46) = true ∧ ((z_rm 46).cells = 0 ∧ (z_rm 46).slots = 0) := by decide +kernel
-- 47 Text_init
def bo_47_0 : List ZO := [(.aload_n 0, 0, 0, 0), (.invokespecial 3, 0, 1, 99), (.aload_n 0, 0, 0, 0), (.bipush 100, 100, 0, 0), (.newarray .int, 0, 0, 0), (.putfield 9, 5, 0, 2), (.return_, 0, 0, 0)]
def bk_47 : List (Nat × ZE) := [(0, false, [true], bo_47_0, 0)]
theorem ck_47 : z_chks 47 bk_47 [[68, 69]] = true := by decide +kernel
theorem bf_47_0 : z_fd bk_47 0 = some (false, [true], bo_47_0, 0) := rfl
theorem cl_47 : z_mL 47 = 1 := by decide +kernel
theorem cz_47 : plainFor (z_my 47) = true ∧ ((z_rm 47).cells = 1 ∧ (z_rm 47).slots = 100) := by decide +kernel
-- 48 Text_append
def bo_48_0 : List ZO := [(.aload_n 0, 0, 0, 0), (.getfield 15, 5, 1, 0), (.bipush 100, 100, 0, 0), (.if_icmp .ge 23, 29, 0, 0), (.aload_n 0, 0, 0, 0), (.getfield 9, 5, 0, 2), (.aload_n 0, 0, 0, 0), (.getfield 15, 5, 1, 0), (.iload_n 1, 1, 0, 0), (.iastore, 0, 0, 0), (.aload_n 0, 0, 0, 0), (.dup, 0, 0, 0), (.getfield 15, 5, 1, 0), (.iconst 1, 1, 0, 0), (.iadd, 0, 0, 0), (.putfield 15, 5, 1, 0), (.return_, 0, 0, 0)]
def bo_48_29 : List ZO := [(.return_, 0, 0, 0)]
def bk_48 : List (Nat × ZE) := [(0, false, [true, true], bo_48_0, 0), (29, false, [false, false], bo_48_29, 0)]
theorem ck_48 : z_chks 48 bk_48 [[70, 69, 70, 70, 70], []] = true := by decide +kernel
theorem bf_48_0 : z_fd bk_48 0 = some (false, [true, true], bo_48_0, 0) := rfl
theorem bf_48_29 : z_fd bk_48 29 = some (false, [false, false], bo_48_29, 0) := rfl
theorem cl_48 : z_mL 48 = 2 := by decide +kernel
theorem cz_48 : plainFor (z_my 48) = true ∧ ((z_rm 48).cells = 0 ∧ (z_rm 48).slots = 0) := by decide +kernel
-- 49 Text_readInto
def bo_49_0 : List ZO := [(.aload_n 0, 0, 0, 0), (.iconst 0, 0, 0, 0), (.putfield 19, 5, 2, 0), (.aload_n 1, 1, 0, 0), (.iconst 0, 0, 0, 0), (.invokevirtual 22, 12, 2, 3), (.aload_n 0, 0, 0, 0), (.invokevirtual 28, 55, 1, 6), (.bipush 77, 77, 0, 0), (.if_icmp .eq 8, 24, 0, 0), (.aload_n 0, 0, 0, 0), (.getfield 19, 5, 2, 0), (.ireturn, 0, 0, 0)]
def bo_49_24 : List ZO := [(.aload_n 0, 0, 0, 0), (.dup, 0, 0, 0), (.getfield 19, 5, 2, 0), (.iconst 1, 1, 0, 0), (.iadd, 0, 0, 0), (.putfield 19, 5, 2, 0), (.aload_n 0, 0, 0, 0), (.iconst 0, 0, 0, 0), (.bipush 9, 9, 0, 0), (.invokevirtual 32, 57, 3, 6), (.istore_n 2, 2, 0, 0), (.iload_n 2, 2, 0, 0), (.ifCond .ge 8, 51, 0, 0), (.aload_n 0, 0, 0, 0), (.getfield 19, 5, 2, 0), (.ireturn, 0, 0, 0)]
def bo_49_51 : List ZO := [(.aload_n 1, 1, 0, 0), (.iload_n 2, 2, 0, 0), (.invokevirtual 22, 12, 2, 3), (.iconst 0, 0, 0, 0), (.istore_n 3, 3, 0, 0)]
def bo_49_58 : List ZO := [(.iload_n 3, 3, 0, 0), (.bipush 100, 100, 0, 0), (.if_icmp .ge 33, 94, 0, 0), (.aload_n 0, 0, 0, 0), (.getfield 19, 5, 2, 0), (.aload_n 0, 0, 0, 0), (.getfield 15, 5, 1, 0), (.if_icmp .ge 22, 94, 0, 0), (.aload_n 0, 0, 0, 0), (.aload_n 1, 1, 0, 0), (.invokevirtual 36, 50, 2, 6), (.ifCond .ne 8, 88, 0, 0), (.aload_n 0, 0, 0, 0), (.getfield 19, 5, 2, 0), (.ireturn, 0, 0, 0)]
def bo_49_88 : List ZO := [(.iinc 3 1, 1, 3, 0), (.goto (-33), 58, 0, 0)]
def bo_49_94 : List ZO := [(.bipush (-9), 9, 0, 1), (.ireturn, 0, 0, 0)]
def bk_49 : List (Nat × ZE) := [(0, false, [true, true, false, false], bo_49_0, 0), (24, false, [true, true, false, false], bo_49_24, 0), (51, false, [true, true, true, false], bo_49_51, 58), (58, true, [true, true, false, true], bo_49_58, 0), (88, false, [true, true, false, true], bo_49_88, 0), (94, false, [false, false, false, false], bo_49_94, 0)]
theorem ck_49 : z_chks 49 bk_49 [[72, 327, 331, 72], [72, 72, 335, 72], [327], [72, 70, 343, 72], [], []] = true := by decide +kernel
theorem bf_49_0 : z_fd bk_49 0 = some (false, [true, true, false, false], bo_49_0, 0) := rfl
theorem bf_49_24 : z_fd bk_49 24 = some (false, [true, true, false, false], bo_49_24, 0) := rfl
theorem bf_49_51 : z_fd bk_49 51 = some (false, [true, true, true, false], bo_49_51, 58) := rfl
theorem bf_49_58 : z_fd bk_49 58 = some (true, [true, true, false, true], bo_49_58, 0) := rfl
theorem bf_49_88 : z_fd bk_49 88 = some (false, [true, true, false, true], bo_49_88, 0) := rfl
theorem bf_49_94 : z_fd bk_49 94 = some (false, [false, false, false, false], bo_49_94, 0) := rfl
theorem cl_49 : z_mL 49 = 4 := by decide +kernel
theorem cz_49 : plainFor (z_my 49) = true ∧ ((z_rm 49).cells = 0 ∧ (z_rm 49).slots = 0) := by decide +kernel
-- 50 Text_readPart
def bo_50_0 : List ZO := [(.aload_n 0, 0, 0, 0), (.invokevirtual 28, 55, 1, 6), (.lookupswitch 68 #[(103, 44), (107, 62), (108, 56), (114, 50)], 4, 0, 0)]
def bo_50_48 : List ZO := [(.aload_n 0, 0, 0, 0), (.aload_n 1, 1, 0, 0), (.invokevirtual 40, 51, 2, 6), (.ireturn, 1, 0, 0)]
def bo_50_54 : List ZO := [(.aload_n 0, 0, 0, 0), (.aload_n 1, 1, 0, 0), (.invokevirtual 43, 52, 2, 6), (.ireturn, 1, 0, 0)]
def bo_50_60 : List ZO := [(.aload_n 0, 0, 0, 0), (.aload_n 1, 1, 0, 0), (.invokevirtual 46, 53, 2, 6), (.ireturn, 1, 0, 0)]
def bo_50_66 : List ZO := [(.aload_n 0, 0, 0, 0), (.aload_n 1, 1, 0, 0), (.invokevirtual 49, 54, 2, 6), (.ireturn, 1, 0, 0)]
def bo_50_72 : List ZO := [(.iconst 0, 0, 0, 0), (.ireturn, 1, 0, 0)]
def bk_50 : List (Nat × ZE) := [(0, false, [true, true], bo_50_0, 0), (48, false, [true, true], bo_50_48, 0), (54, false, [true, true], bo_50_54, 0), (60, false, [true, true], bo_50_60, 0), (66, false, [true, true], bo_50_66, 0), (72, false, [false, false], bo_50_72, 0)]
theorem ck_50 : z_chks 50 bk_50 [[331], [347], [359], [363], [367], []] = true := by decide +kernel
theorem bf_50_0 : z_fd bk_50 0 = some (false, [true, true], bo_50_0, 0) := rfl
theorem bf_50_48 : z_fd bk_50 48 = some (false, [true, true], bo_50_48, 0) := rfl
theorem bf_50_54 : z_fd bk_50 54 = some (false, [true, true], bo_50_54, 0) := rfl
theorem bf_50_60 : z_fd bk_50 60 = some (false, [true, true], bo_50_60, 0) := rfl
theorem bf_50_66 : z_fd bk_50 66 = some (false, [true, true], bo_50_66, 0) := rfl
theorem bf_50_72 : z_fd bk_50 72 = some (false, [false, false], bo_50_72, 0) := rfl
theorem cl_50 : z_mL 50 = 2 := by decide +kernel
theorem cz_50 : plainFor (z_my 50) = true ∧ ((z_rm 50).cells = 0 ∧ (z_rm 50).slots = 0) := by decide +kernel
-- 51 Text_readGateway
def bo_51_0 : List ZO := [(.aload_n 1, 1, 0, 0), (.getfield 52, 2, 2, 0), (.bipush 8, 8, 0, 0), (.if_icmp .lt 5, 11, 0, 0), (.iconst 0, 0, 0, 0), (.ireturn, 1, 0, 0)]
def bo_51_11 : List ZO := [(.aload_n 0, 0, 0, 0), (.dup, 0, 0, 0), (.getfield 19, 5, 2, 0), (.iconst 1, 1, 0, 0), (.iadd, 0, 0, 0), (.putfield 19, 5, 2, 0), (.aload_n 0, 0, 0, 0), (.iconst 0, 0, 0, 0), (.bipush 9, 9, 0, 0), (.invokevirtual 32, 57, 3, 6), (.istore_n 2, 2, 0, 0), (.iload_n 2, 2, 0, 0), (.ifCond .ge 5, 35, 0, 0), (.iconst 0, 0, 0, 0), (.ireturn, 1, 0, 0)]
def bo_51_35 : List ZO := [(.aload_n 1, 1, 0, 0), (.getfield 55, 2, 0, 2), (.aload_n 1, 1, 0, 0), (.dup, 0, 0, 0), (.getfield 52, 2, 2, 0), (.dup_x1, 0, 0, 0), (.iconst 1, 1, 0, 0), (.iadd, 0, 0, 0), (.putfield 52, 2, 2, 0), (.aaload, 0, 0, 0), (.astore_n 3, 3, 0, 0), (.aload_n 3, 3, 0, 0), (.iconst 0, 0, 0, 0), (.invokevirtual 59, 33, 2, 4), (.aload_n 3, 3, 0, 0), (.iload_n 2, 2, 0, 0), (.putfield 62, 3, 1, 0), (.iconst 1, 1, 0, 0), (.ireturn, 1, 0, 0)]
def bk_51 : List (Nat × ZE) := [(0, false, [true, true, false, false], bo_51_0, 0), (11, false, [true, true, false, false], bo_51_11, 0), (35, false, [false, true, true, false], bo_51_35, 0)]
theorem ck_51 : z_chks 51 bk_51 [[212], [72, 72, 335], [206, 212, 212, 351, 97]] = true := by decide +kernel
theorem bf_51_0 : z_fd bk_51 0 = some (false, [true, true, false, false], bo_51_0, 0) := rfl
theorem bf_51_11 : z_fd bk_51 11 = some (false, [true, true, false, false], bo_51_11, 0) := rfl
theorem bf_51_35 : z_fd bk_51 35 = some (false, [false, true, true, false], bo_51_35, 0) := rfl
theorem cl_51 : z_mL 51 = 4 := by decide +kernel
theorem cz_51 : plainFor (z_my 51) = true ∧ ((z_rm 51).cells = 0 ∧ (z_rm 51).slots = 0) := by decide +kernel
-- 52 Text_readRouter
def bo_52_0 : List ZO := [(.aload_n 1, 1, 0, 0), (.getfield 52, 2, 2, 0), (.bipush 8, 8, 0, 0), (.if_icmp .lt 5, 11, 0, 0), (.iconst 0, 0, 0, 0), (.ireturn, 1, 0, 0)]
def bo_52_11 : List ZO := [(.aload_n 0, 0, 0, 0), (.dup, 0, 0, 0), (.getfield 19, 5, 2, 0), (.iconst 1, 1, 0, 0), (.iadd, 0, 0, 0), (.putfield 19, 5, 2, 0), (.aload_n 1, 1, 0, 0), (.getfield 55, 2, 0, 2), (.aload_n 1, 1, 0, 0), (.dup, 0, 0, 0), (.getfield 52, 2, 2, 0), (.dup_x1, 0, 0, 0), (.iconst 1, 1, 0, 0), (.iadd, 0, 0, 0), (.putfield 52, 2, 2, 0), (.aaload, 0, 0, 0), (.iconst 1, 1, 0, 0), (.invokevirtual 59, 33, 2, 4), (.iconst 1, 1, 0, 0), (.ireturn, 1, 0, 0)]
def bk_52 : List (Nat × ZE) := [(0, false, [true, true], bo_52_0, 0), (11, false, [true, true], bo_52_11, 0)]
theorem ck_52 : z_chks 52 bk_52 [[212], [72, 72, 206, 212, 212, 351]] = true := by decide +kernel
theorem bf_52_0 : z_fd bk_52 0 = some (false, [true, true], bo_52_0, 0) := rfl
theorem bf_52_11 : z_fd bk_52 11 = some (false, [true, true], bo_52_11, 0) := rfl
theorem cl_52 : z_mL 52 = 2 := by decide +kernel
theorem cz_52 : plainFor (z_my 52) = true ∧ ((z_rm 52).cells = 0 ∧ (z_rm 52).slots = 0) := by decide +kernel
-- 53 Text_readLeaf
def bo_53_0 : List ZO := [(.aload_n 1, 1, 0, 0), (.getfield 52, 2, 2, 0), (.bipush 8, 8, 0, 0), (.if_icmp .lt 5, 11, 0, 0), (.iconst 0, 0, 0, 0), (.ireturn, 1, 0, 0)]
def bo_53_11 : List ZO := [(.aload_n 0, 0, 0, 0), (.dup, 0, 0, 0), (.getfield 19, 5, 2, 0), (.iconst 1, 1, 0, 0), (.iadd, 0, 0, 0), (.putfield 19, 5, 2, 0), (.aload_n 0, 0, 0, 0), (.iconst 1, 1, 0, 0), (.bipush 9, 9, 0, 0), (.invokevirtual 32, 57, 3, 6), (.istore_n 2, 2, 0, 0), (.iload_n 2, 2, 0, 0), (.ifCond .ge 5, 35, 0, 0), (.iconst 0, 0, 0, 0), (.ireturn, 1, 0, 0)]
def bo_53_35 : List ZO := [(.aload_n 0, 0, 0, 0), (.iconst 0, 0, 0, 0), (.iload_n 2, 2, 0, 0), (.iconst 1, 1, 0, 0), (.isub, 0, 0, 0), (.invokevirtual 32, 57, 3, 6), (.istore_n 3, 3, 0, 0), (.iload_n 3, 3, 0, 0), (.ifCond .ge 5, 50, 0, 0), (.iconst 0, 0, 0, 0), (.ireturn, 1, 0, 0)]
def bo_53_50 : List ZO := [(.aload_n 1, 1, 0, 0), (.getfield 55, 2, 0, 2), (.aload_n 1, 1, 0, 0), (.dup, 0, 0, 0), (.getfield 52, 2, 2, 0), (.dup_x1, 0, 0, 0), (.iconst 1, 1, 0, 0), (.iadd, 0, 0, 0), (.putfield 52, 2, 2, 0), (.aaload, 0, 0, 0), (.astore 4, 4, 0, 0), (.aload 4, 4, 0, 0), (.iconst 2, 2, 0, 0), (.invokevirtual 59, 33, 2, 4), (.aload 4, 4, 0, 0), (.iload_n 2, 2, 0, 0), (.putfield 65, 3, 2, 0), (.aload 4, 4, 0, 0), (.iload_n 3, 3, 0, 0), (.putfield 68, 3, 3, 0), (.iconst 1, 1, 0, 0), (.ireturn, 1, 0, 0)]
def bk_53 : List (Nat × ZE) := [(0, false, [true, true, false, false, false], bo_53_0, 0), (11, false, [true, true, false, false, false], bo_53_11, 0), (35, false, [true, true, true, false, false], bo_53_35, 0), (50, false, [false, true, true, true, false], bo_53_50, 0)]
theorem ck_53 : z_chks 53 bk_53 [[212], [72, 72, 335], [335], [206, 212, 212, 351, 101, 104]] = true := by decide +kernel
theorem bf_53_0 : z_fd bk_53 0 = some (false, [true, true, false, false, false], bo_53_0, 0) := rfl
theorem bf_53_11 : z_fd bk_53 11 = some (false, [true, true, false, false, false], bo_53_11, 0) := rfl
theorem bf_53_35 : z_fd bk_53 35 = some (false, [true, true, true, false, false], bo_53_35, 0) := rfl
theorem bf_53_50 : z_fd bk_53 50 = some (false, [false, true, true, true, false], bo_53_50, 0) := rfl
theorem cl_53 : z_mL 53 = 5 := by decide +kernel
theorem cz_53 : plainFor (z_my 53) = true ∧ ((z_rm 53).cells = 0 ∧ (z_rm 53).slots = 0) := by decide +kernel
-- 54 Text_readLink
def bo_54_0 : List ZO := [(.aload_n 1, 1, 0, 0), (.getfield 52, 2, 2, 0), (.aload_n 1, 1, 0, 0), (.getfield 52, 2, 2, 0), (.iconst 1, 1, 0, 0), (.isub, 0, 0, 0), (.imul, 0, 0, 0), (.iconst 2, 2, 0, 0), (.idiv, 0, 0, 0), (.istore_n 2, 2, 0, 0), (.aload_n 1, 1, 0, 0), (.getfield 71, 2, 3, 0), (.bipush 9, 9, 0, 0), (.if_icmp .ge 11, 31, 0, 0), (.aload_n 1, 1, 0, 0), (.getfield 71, 2, 3, 0), (.iload_n 2, 2, 0, 0), (.if_icmp .lt 5, 33, 0, 0), (.iconst 0, 0, 0, 0), (.ireturn, 1, 0, 0)]
theorem cb_54_0 : z_chk 54 bo_54_0 0 0 [212, 212, 216, 216] = true := by decide +kernel
def bo_54_31 : List ZO := [(.iconst 0, 0, 0, 0), (.ireturn, 1, 0, 0)]
theorem cb_54_31 : z_chk 54 bo_54_31 31 0 [] = true := by decide +kernel
def bo_54_33 : List ZO := [(.aload_n 0, 0, 0, 0), (.dup, 0, 0, 0), (.getfield 19, 5, 2, 0), (.iconst 1, 1, 0, 0), (.iadd, 0, 0, 0), (.putfield 19, 5, 2, 0), (.aload_n 0, 0, 0, 0), (.iconst 0, 0, 0, 0), (.aload_n 1, 1, 0, 0), (.getfield 52, 2, 2, 0), (.iconst 1, 1, 0, 0), (.isub, 0, 0, 0), (.invokevirtual 74, 56, 3, 6), (.istore_n 3, 3, 0, 0), (.iload_n 3, 3, 0, 0), (.ifCond .lt 17, 73, 0, 0), (.aload_n 1, 1, 0, 0), (.iload_n 3, 3, 0, 0), (.invokevirtual 77, 19, 2, 3), (.aload_n 1, 1, 0, 0), (.getfield 52, 2, 2, 0), (.iconst 1, 1, 0, 0), (.isub, 0, 0, 0), (.if_icmp .lt 5, 75, 0, 0), (.iconst 0, 0, 0, 0), (.ireturn, 1, 0, 0)]
theorem cb_54_33 : z_chk 54 bo_54_33 33 0 [72, 72, 212, 339, 371, 212] = true := by decide +kernel
def bo_54_73 : List ZO := [(.iconst 0, 0, 0, 0), (.ireturn, 1, 0, 0)]
theorem cb_54_73 : z_chk 54 bo_54_73 73 0 [] = true := by decide +kernel
def bo_54_75 : List ZO := [(.aload_n 0, 0, 0, 0), (.dup, 0, 0, 0), (.getfield 19, 5, 2, 0), (.iconst 1, 1, 0, 0), (.iadd, 0, 0, 0), (.putfield 19, 5, 2, 0), (.aload_n 0, 0, 0, 0), (.iconst 0, 0, 0, 0), (.aload_n 1, 1, 0, 0), (.getfield 52, 2, 2, 0), (.iconst 1, 1, 0, 0), (.isub, 0, 0, 0), (.invokevirtual 74, 56, 3, 6), (.istore 4, 4, 0, 0), (.iload 4, 4, 0, 0), (.ifCond .lt 19, 119, 0, 0), (.iload 4, 4, 0, 0), (.iload_n 3, 3, 0, 0), (.if_icmp .eq 13, 119, 0, 0), (.aload_n 1, 1, 0, 0), (.iload_n 3, 3, 0, 0), (.iload 4, 4, 0, 0), (.invokevirtual 81, 20, 3, 3), (.ifCond .lt 5, 121, 0, 0), (.iconst 0, 0, 0, 0), (.ireturn, 1, 0, 0)]
theorem cb_54_75 : z_chk 54 bo_54_75 75 0 [72, 72, 212, 339, 375] = true := by decide +kernel
def bo_54_119 : List ZO := [(.iconst 0, 0, 0, 0), (.ireturn, 1, 0, 0)]
theorem cb_54_119 : z_chk 54 bo_54_119 119 0 [] = true := by decide +kernel
def bo_54_121 : List ZO := [(.aload_n 0, 0, 0, 0), (.dup, 0, 0, 0), (.getfield 19, 5, 2, 0), (.iconst 1, 1, 0, 0), (.iadd, 0, 0, 0), (.putfield 19, 5, 2, 0), (.aload_n 0, 0, 0, 0), (.iconst 0, 0, 0, 0), (.bipush 9, 9, 0, 0), (.invokevirtual 32, 57, 3, 6), (.istore 5, 5, 0, 0), (.iload 5, 5, 0, 0), (.ifCond .ge 7, 149, 0, 0), (.iconst (-1), 1, 0, 1), (.goto 10, 156, 0, 0)]
theorem cb_54_121 : z_chk 54 bo_54_121 121 0 [72, 72, 335] = true := by decide +kernel
def bo_54_149 : List ZO := [(.aload_n 0, 0, 0, 0), (.iconst 0, 0, 0, 0), (.bipush 9, 9, 0, 0), (.invokevirtual 32, 57, 3, 6), (.istore 6, 6, 0, 0), (.iload 6, 6, 0, 0), (.ifCond .ge 7, 167, 0, 0), (.iconst (-1), 1, 0, 1), (.goto 10, 174, 0, 0)]
theorem cb_54_149 : z_chk 54 bo_54_149 149 0 [335] = true := by decide +kernel
def bo_54_156 : List ZO := [(.istore 6, 6, 0, 0), (.iload 6, 6, 0, 0), (.ifCond .ge 7, 167, 0, 0), (.iconst (-1), 1, 0, 1), (.goto 10, 174, 0, 0)]
theorem cb_54_156 : z_chk 54 bo_54_156 156 0 [] = true := by decide +kernel
def bo_54_167 : List ZO := [(.aload_n 0, 0, 0, 0), (.iconst 1, 1, 0, 0), (.bipush 9, 9, 0, 0), (.invokevirtual 32, 57, 3, 6), (.istore 7, 7, 0, 0), (.iload 7, 7, 0, 0), (.ifCond .ge 5, 183, 0, 0), (.iconst 0, 0, 0, 0), (.ireturn, 1, 0, 0)]
theorem cb_54_167 : z_chk 54 bo_54_167 167 0 [335] = true := by decide +kernel
def bo_54_174 : List ZO := [(.istore 7, 7, 0, 0), (.iload 7, 7, 0, 0), (.ifCond .ge 5, 183, 0, 0), (.iconst 0, 0, 0, 0), (.ireturn, 1, 0, 0)]
theorem cb_54_174 : z_chk 54 bo_54_174 174 0 [] = true := by decide +kernel
def bo_54_183 : List ZO := [(.aload_n 1, 1, 0, 0), (.getfield 84, 2, 1, 2), (.aload_n 1, 1, 0, 0), (.dup, 0, 0, 0), (.getfield 71, 2, 3, 0), (.dup_x1, 0, 0, 0), (.iconst 1, 1, 0, 0), (.iadd, 0, 0, 0), (.putfield 71, 2, 3, 0), (.aaload, 0, 0, 0), (.iload_n 3, 3, 0, 0), (.iload 4, 4, 0, 0), (.iload 5, 5, 0, 0), (.iload 6, 6, 0, 0), (.iload 7, 7, 0, 0), (.invokevirtual 88, 5, 6, 2), (.iconst 1, 1, 0, 0), (.ireturn, 1, 0, 0)]
theorem cb_54_183 : z_chk 54 bo_54_183 183 0 [210, 216, 216, 383] = true := by decide +kernel
def bk_54 : List (Nat × ZE) := [(0, false, [true, true, false, false, false, false, false, false], bo_54_0, 0), (31, false, [false, false, false, false, false, false, false, false], bo_54_31, 0), (33, false, [true, true, false, false, false, false, false, false], bo_54_33, 0), (73, false, [false, false, false, false, false, false, false, false], bo_54_73, 0), (75, false, [true, true, false, true, false, false, false, false], bo_54_75, 0), (119, false, [false, false, false, false, false, false, false, false], bo_54_119, 0), (121, false, [true, true, false, true, true, false, false, false], bo_54_121, 0), (149, false, [true, true, false, true, true, true, false, false], bo_54_149, 0), (156, false, [true, true, false, true, true, true, false, false], bo_54_156, 0), (167, false, [true, true, false, true, true, true, true, false], bo_54_167, 0), (174, false, [false, true, false, true, true, true, true, false], bo_54_174, 0), (183, false, [false, true, false, true, true, true, true, true], bo_54_183, 0)]
theorem ck_54 : z_chks 54 bk_54 [[212, 212, 216, 216], [], [72, 72, 212, 339, 371, 212], [], [72, 72, 212, 339, 375], [], [72, 72, 335], [335], [], [335], [], [210, 216, 216, 383]] = true := z_chks_cons cb_54_0 (z_chks_cons cb_54_31 (z_chks_cons cb_54_33 (z_chks_cons cb_54_73 (z_chks_cons cb_54_75 (z_chks_cons cb_54_119 (z_chks_cons cb_54_121 (z_chks_cons cb_54_149 (z_chks_cons cb_54_156 (z_chks_cons cb_54_167 (z_chks_cons cb_54_174 (z_chks_cons cb_54_183 (z_chks_nil))))))))))))
theorem bf_54_0 : z_fd bk_54 0 = some (false, [true, true, false, false, false, false, false, false], bo_54_0, 0) := rfl
theorem bf_54_31 : z_fd bk_54 31 = some (false, [false, false, false, false, false, false, false, false], bo_54_31, 0) := rfl
theorem bf_54_33 : z_fd bk_54 33 = some (false, [true, true, false, false, false, false, false, false], bo_54_33, 0) := rfl
theorem bf_54_73 : z_fd bk_54 73 = some (false, [false, false, false, false, false, false, false, false], bo_54_73, 0) := rfl
theorem bf_54_75 : z_fd bk_54 75 = some (false, [true, true, false, true, false, false, false, false], bo_54_75, 0) := rfl
theorem bf_54_119 : z_fd bk_54 119 = some (false, [false, false, false, false, false, false, false, false], bo_54_119, 0) := rfl
theorem bf_54_121 : z_fd bk_54 121 = some (false, [true, true, false, true, true, false, false, false], bo_54_121, 0) := rfl
theorem bf_54_149 : z_fd bk_54 149 = some (false, [true, true, false, true, true, true, false, false], bo_54_149, 0) := rfl
theorem bf_54_156 : z_fd bk_54 156 = some (false, [true, true, false, true, true, true, false, false], bo_54_156, 0) := rfl
theorem bf_54_167 : z_fd bk_54 167 = some (false, [true, true, false, true, true, true, true, false], bo_54_167, 0) := rfl
theorem bf_54_174 : z_fd bk_54 174 = some (false, [false, true, false, true, true, true, true, false], bo_54_174, 0) := rfl
theorem bf_54_183 : z_fd bk_54 183 = some (false, [false, true, false, true, true, true, true, true], bo_54_183, 0) := rfl
theorem cl_54 : z_mL 54 = 8 := by decide +kernel
theorem cz_54 : plainFor (z_my 54) = true ∧ ((z_rm 54).cells = 0 ∧ (z_rm 54).slots = 0) := by decide +kernel
-- 55 Text_letterHere
def bo_55_0 : List ZO := [(.aload_n 0, 0, 0, 0), (.getfield 19, 5, 2, 0), (.aload_n 0, 0, 0, 0), (.getfield 15, 5, 1, 0), (.if_icmp .ge 24, 32, 0, 0), (.aload_n 0, 0, 0, 0), (.getfield 19, 5, 2, 0), (.bipush 100, 100, 0, 0), (.if_icmp .ge 15, 32, 0, 0), (.aload_n 0, 0, 0, 0), (.getfield 9, 5, 0, 2), (.aload_n 0, 0, 0, 0), (.getfield 19, 5, 2, 0), (.iaload, 0, 0, 0), (.goto 4, 33, 0, 0)]
def bo_55_32 : List ZO := [(.iconst (-1), 1, 0, 1), (.ireturn, 0, 0, 0)]
def bo_55_33 : List ZO := [(.ireturn, 0, 0, 0)]
def bk_55 : List (Nat × ZE) := [(0, false, [true], bo_55_0, 0), (32, false, [false], bo_55_32, 0), (33, false, [false], bo_55_33, 0)]
theorem ck_55 : z_chks 55 bk_55 [[72, 70, 72, 69, 72], [], []] = true := by decide +kernel
theorem bf_55_0 : z_fd bk_55 0 = some (false, [true], bo_55_0, 0) := rfl
theorem bf_55_32 : z_fd bk_55 32 = some (false, [false], bo_55_32, 0) := rfl
theorem bf_55_33 : z_fd bk_55 33 = some (false, [false], bo_55_33, 0) := rfl
theorem cl_55 : z_mL 55 = 1 := by decide +kernel
theorem cz_55 : plainFor (z_my 55) = true ∧ ((z_rm 55).cells = 0 ∧ (z_rm 55).slots = 0) := by decide +kernel
-- 56 Text_digitHere
def bo_56_0 : List ZO := [(.aload_n 0, 0, 0, 0), (.invokevirtual 28, 55, 1, 6), (.bipush 48, 48, 0, 0), (.isub, 0, 0, 0), (.istore_n 3, 3, 0, 0), (.iload_n 3, 3, 0, 0), (.iload_n 1, 1, 0, 0), (.if_icmp .lt 12, 22, 0, 0), (.iload_n 3, 3, 0, 0), (.iload_n 2, 2, 0, 0), (.if_icmp .gt 7, 22, 0, 0), (.iload_n 3, 3, 0, 0), (.goto 4, 23, 0, 0)]
def bo_56_22 : List ZO := [(.iconst (-1), 1, 0, 1), (.ireturn, 0, 0, 0)]
def bo_56_23 : List ZO := [(.ireturn, 0, 0, 0)]
def bk_56 : List (Nat × ZE) := [(0, false, [true, true, true, false], bo_56_0, 0), (22, false, [false, false, false, false], bo_56_22, 0), (23, false, [false, false, false, false], bo_56_23, 0)]
theorem ck_56 : z_chks 56 bk_56 [[331], [], []] = true := by decide +kernel
theorem bf_56_0 : z_fd bk_56 0 = some (false, [true, true, true, false], bo_56_0, 0) := rfl
theorem bf_56_22 : z_fd bk_56 22 = some (false, [false, false, false, false], bo_56_22, 0) := rfl
theorem bf_56_23 : z_fd bk_56 23 = some (false, [false, false, false, false], bo_56_23, 0) := rfl
theorem cl_56 : z_mL 56 = 4 := by decide +kernel
theorem cz_56 : plainFor (z_my 56) = true ∧ ((z_rm 56).cells = 0 ∧ (z_rm 56).slots = 0) := by decide +kernel
-- 57 Text_takeDigit
def bo_57_0 : List ZO := [(.aload_n 0, 0, 0, 0), (.iload_n 1, 1, 0, 0), (.iload_n 2, 2, 0, 0), (.invokevirtual 74, 56, 3, 6), (.istore_n 3, 3, 0, 0), (.iload_n 3, 3, 0, 0), (.ifCond .lt 13, 21, 0, 0), (.aload_n 0, 0, 0, 0), (.dup, 0, 0, 0), (.getfield 19, 5, 2, 0), (.iconst 1, 1, 0, 0), (.iadd, 0, 0, 0), (.putfield 19, 5, 2, 0), (.iload_n 3, 3, 0, 0), (.ireturn, 0, 0, 0)]
def bo_57_21 : List ZO := [(.iload_n 3, 3, 0, 0), (.ireturn, 0, 0, 0)]
def bk_57 : List (Nat × ZE) := [(0, false, [true, true, true, false], bo_57_0, 0), (21, false, [false, false, false, true], bo_57_21, 0)]
theorem ck_57 : z_chks 57 bk_57 [[339, 72, 72], []] = true := by decide +kernel
theorem bf_57_0 : z_fd bk_57 0 = some (false, [true, true, true, false], bo_57_0, 0) := rfl
theorem bf_57_21 : z_fd bk_57 21 = some (false, [false, false, false, true], bo_57_21, 0) := rfl
theorem cl_57 : z_mL 57 = 4 := by decide +kernel
theorem cz_57 : plainFor (z_my 57) = true ∧ ((z_rm 57).cells = 0 ∧ (z_rm 57).slots = 0) := by decide +kernel
-- 58 MP_init
def bo_58_0 : List ZO := [(.aload_n 0, 0, 0, 0), (.invokespecial 1, 0, 1, 99), (.aload_n 0, 0, 0, 0), (.new 7, 5, 3, 0), (.dup, 0, 0, 0), (.invokespecial 9, 47, 1, 6), (.putfield 10, 6, 0, 2), (.aload_n 0, 0, 0, 0), (.new 16, 2, 7, 0), (.dup, 0, 0, 0), (.invokespecial 18, 11, 1, 3), (.putfield 19, 6, 1, 2), (.aload_n 0, 0, 0, 0), (.new 16, 2, 7, 0), (.dup, 0, 0, 0), (.invokespecial 18, 11, 1, 3), (.putfield 23, 6, 2, 2), (.aload_n 0, 0, 0, 0), (.new 26, 0, 3, 0), (.dup, 0, 0, 0), (.invokespecial 28, 0, 1, 1), (.putfield 29, 6, 3, 2), (.aload_n 0, 0, 0, 0), (.iconst 2, 2, 0, 0), (.anewarray 16, 6, 0, 0), (.putfield 33, 6, 4, 2), (.iconst 0, 0, 0, 0), (.istore_n 1, 1, 0, 0)]
def bo_58_58 : List ZO := [(.iload_n 1, 1, 0, 0), (.iconst 2, 2, 0, 0), (.if_icmp .ge 22, 82, 0, 0), (.aload_n 0, 0, 0, 0), (.getfield 33, 6, 4, 2), (.iload_n 1, 1, 0, 0), (.new 16, 2, 7, 0), (.dup, 0, 0, 0), (.invokespecial 18, 11, 1, 3), (.aastore, 0, 0, 0), (.iinc 1 1, 1, 1, 0), (.goto (-21), 58, 0, 0)]
def bo_58_82 : List ZO := [(.aload_n 0, 0, 0, 0), (.iconst 2, 2, 0, 0), (.newarray .boolean, 0, 0, 0), (.putfield 37, 6, 5, 2), (.aload_n 0, 0, 0, 0), (.new 41, 4, 4, 0), (.dup, 0, 0, 0), (.invokespecial 43, 44, 1, 5), (.putfield 44, 6, 6, 2), (.aload_n 0, 0, 0, 0), (.lconst 0, 0, 0, 0), (.putfield 48, 6, 7, 1), (.return_, 0, 0, 0)]
def bk_58 : List (Nat × ZE) := [(0, false, [true, false], bo_58_0, 58), (58, true, [true, true], bo_58_58, 0), (82, false, [true, false], bo_58_82, 0)]
theorem ck_58 : z_chks 58 bk_58 [[60, 63, 0, 279, 81, 83, 280, 81, 83, 281, 238, 240, 282, 81, 283], [283, 81, 83], [284, 258, 3, 285, 286]] = true := by decide +kernel
theorem bf_58_0 : z_fd bk_58 0 = some (false, [true, false], bo_58_0, 58) := rfl
theorem bf_58_58 : z_fd bk_58 58 = some (true, [true, true], bo_58_58, 0) := rfl
theorem bf_58_82 : z_fd bk_58 82 = some (false, [true, false], bo_58_82, 0) := rfl
theorem cl_58 : z_mL 58 = 2 := by decide +kernel
theorem cz_58 : plainFor (z_my 58) = true ∧ ((z_rm 58).cells = 370 ∧ (z_rm 58).slots = 4304) := by decide +kernel
-- 59 MP_write
def bo_59_0 : List ZO := [(.iload_n 1, 1, 0, 0), (.iconst 0, 0, 0, 0), (.sipush 255, 255, 0, 0), (.invokestatic 52, 88, 3, 0), (.ifCond .ne 6, 14, 0, 0), (.bipush (-2), 2, 0, 1), (.ireturn, 0, 0, 0)]
def bo_59_14 : List ZO := [(.aload_n 0, 0, 0, 0), (.getfield 10, 6, 0, 2), (.getfield 56, 5, 1, 0), (.bipush 100, 100, 0, 0), (.if_icmp .lt 6, 29, 0, 0), (.bipush (-4), 4, 0, 1), (.ireturn, 0, 0, 0)]
def bo_59_29 : List ZO := [(.aload_n 0, 0, 0, 0), (.getfield 10, 6, 0, 2), (.iload_n 1, 1, 0, 0), (.invokevirtual 60, 48, 2, 6), (.aload_n 0, 0, 0, 0), (.getfield 10, 6, 0, 2), (.getfield 56, 5, 1, 0), (.ireturn, 0, 0, 0)]
def bk_59 : List (Nat × ZE) := [(0, false, [true, true], bo_59_0, 0), (14, false, [true, true], bo_59_14, 0), (29, false, [true, true], bo_59_29, 0)]
theorem ck_59 : z_chks 59 bk_59 [[308], [279, 71], [279, 311, 279, 71]] = true := by decide +kernel
theorem bf_59_0 : z_fd bk_59 0 = some (false, [true, true], bo_59_0, 0) := rfl
theorem bf_59_14 : z_fd bk_59 14 = some (false, [true, true], bo_59_14, 0) := rfl
theorem bf_59_29 : z_fd bk_59 29 = some (false, [true, true], bo_59_29, 0) := rfl
theorem cl_59 : z_mL 59 = 2 := by decide +kernel
theorem cz_59 : plainFor (z_my 59) = true ∧ ((z_rm 59).cells = 0 ∧ (z_rm 59).slots = 0) := by decide +kernel
-- 60 MP_wipe
def bo_60_0 : List ZO := [(.aload_n 0, 0, 0, 0), (.getfield 10, 6, 0, 2), (.getfield 56, 5, 1, 0), (.istore_n 1, 1, 0, 0), (.aload_n 0, 0, 0, 0), (.getfield 10, 6, 0, 2), (.iconst 0, 0, 0, 0), (.putfield 56, 5, 1, 0), (.iload_n 1, 1, 0, 0), (.ireturn, 0, 0, 0)]
def bk_60 : List (Nat × ZE) := [(0, false, [true, false], bo_60_0, 0)]
theorem ck_60 : z_chks 60 bk_60 [[279, 71, 279, 71]] = true := by decide +kernel
theorem bf_60_0 : z_fd bk_60 0 = some (false, [true, false], bo_60_0, 0) := rfl
theorem cl_60 : z_mL 60 = 2 := by decide +kernel
theorem cz_60 : plainFor (z_my 60) = true ∧ ((z_rm 60).cells = 0 ∧ (z_rm 60).slots = 0) := by decide +kernel
-- 61 MP_fault
def bo_61_0 : List ZO := [(.aload_n 0, 0, 0, 0), (.getfield 10, 6, 0, 2), (.aload_n 0, 0, 0, 0), (.getfield 23, 6, 2, 2), (.invokevirtual 64, 49, 2, 6), (.ireturn, 0, 0, 0)]
def bk_61 : List (Nat × ZE) := [(0, false, [true], bo_61_0, 0)]
theorem ck_61 : z_chks 61 bk_61 [[279, 281, 323]] = true := by decide +kernel
theorem bf_61_0 : z_fd bk_61 0 = some (false, [true], bo_61_0, 0) := rfl
theorem cl_61 : z_mL 61 = 1 := by decide +kernel
theorem cz_61 : plainFor (z_my 61) = true ∧ ((z_rm 61).cells = 0 ∧ (z_rm 61).slots = 0) := by decide +kernel
-- 62 MP_mesh
def bo_62_0 : List ZO := [(.aload_n 0, 0, 0, 0), (.getfield 10, 6, 0, 2), (.aload_n 0, 0, 0, 0), (.getfield 23, 6, 2, 2), (.invokevirtual 64, 49, 2, 6), (.bipush (-9), 9, 0, 1), (.if_icmp .eq 6, 19, 0, 0), (.bipush (-3), 3, 0, 1), (.ireturn, 0, 0, 0)]
def bo_62_19 : List ZO := [(.aload_n 0, 0, 0, 0), (.getfield 19, 6, 1, 2), (.aload_n 0, 0, 0, 0), (.getfield 23, 6, 2, 2), (.invokevirtual 68, 13, 2, 3), (.aload_n 0, 0, 0, 0), (.getfield 29, 6, 3, 2), (.invokevirtual 72, 1, 1, 1), (.iconst 0, 0, 0, 0), (.istore_n 1, 1, 0, 0)]
def bo_62_39 : List ZO := [(.iload_n 1, 1, 0, 0), (.iconst 2, 2, 0, 0), (.if_icmp .ge 16, 57, 0, 0), (.aload_n 0, 0, 0, 0), (.getfield 37, 6, 5, 2), (.iload_n 1, 1, 0, 0), (.iconst 0, 0, 0, 0), (.bastore, 0, 0, 0), (.iinc 1 1, 1, 1, 0), (.goto (-15), 39, 0, 0)]
def bo_62_57 : List ZO := [(.aload_n 0, 0, 0, 0), (.getfield 19, 6, 1, 2), (.getfield 75, 2, 2, 0), (.ireturn, 0, 0, 0)]
def bk_62 : List (Nat × ZE) := [(0, false, [true, false], bo_62_0, 0), (19, false, [true, false], bo_62_19, 39), (39, true, [true, true], bo_62_39, 0), (57, false, [true, false], bo_62_57, 0)]
theorem ck_62 : z_chks 62 bk_62 [[279, 281, 323], [280, 281, 395, 282, 407], [284], [280, 213]] = true := by decide +kernel
theorem bf_62_0 : z_fd bk_62 0 = some (false, [true, false], bo_62_0, 0) := rfl
theorem bf_62_19 : z_fd bk_62 19 = some (false, [true, false], bo_62_19, 39) := rfl
theorem bf_62_39 : z_fd bk_62 39 = some (true, [true, true], bo_62_39, 0) := rfl
theorem bf_62_57 : z_fd bk_62 57 = some (false, [true, false], bo_62_57, 0) := rfl
theorem cl_62 : z_mL 62 = 2 := by decide +kernel
theorem cz_62 : plainFor (z_my 62) = true ∧ ((z_rm 62).cells = 0 ∧ (z_rm 62).slots = 0) := by decide +kernel
-- 63 MP_about
def bo_63_0 : List ZO := [(.iload_n 1, 1, 0, 0), (.tableswitch 161 0 11 #[63, 71, 79, 88, 97, 105, 113, 121, 129, 137, 145, 153], 1, 0, 11)]
theorem cb_63_0 : z_chk 63 bo_63_0 0 0 [] = true := by decide +kernel
def bo_63_64 : List ZO := [(.aload_n 0, 0, 0, 0), (.getfield 19, 6, 1, 2), (.getfield 75, 2, 2, 0), (.ireturn, 0, 0, 0)]
theorem cb_63_64 : z_chk 63 bo_63_64 64 0 [280, 213] = true := by decide +kernel
def bo_63_72 : List ZO := [(.aload_n 0, 0, 0, 0), (.getfield 19, 6, 1, 2), (.getfield 78, 2, 3, 0), (.ireturn, 0, 0, 0)]
theorem cb_63_72 : z_chk 63 bo_63_72 72 0 [280, 215] = true := by decide +kernel
def bo_63_80 : List ZO := [(.aload_n 0, 0, 0, 0), (.getfield 19, 6, 1, 2), (.iconst 0, 0, 0, 0), (.invokevirtual 81, 17, 2, 3), (.ireturn, 0, 0, 0)]
theorem cb_63_80 : z_chk 63 bo_63_80 80 0 [280, 415] = true := by decide +kernel
def bo_63_89 : List ZO := [(.aload_n 0, 0, 0, 0), (.getfield 19, 6, 1, 2), (.iconst 2, 2, 0, 0), (.invokevirtual 81, 17, 2, 3), (.ireturn, 0, 0, 0)]
theorem cb_63_89 : z_chk 63 bo_63_89 89 0 [280, 415] = true := by decide +kernel
def bo_63_98 : List ZO := [(.aload_n 0, 0, 0, 0), (.getfield 19, 6, 1, 2), (.getfield 85, 2, 4, 0), (.ireturn, 0, 0, 0)]
theorem cb_63_98 : z_chk 63 bo_63_98 98 0 [280, 218] = true := by decide +kernel
def bo_63_106 : List ZO := [(.aload_n 0, 0, 0, 0), (.getfield 19, 6, 1, 2), (.getfield 88, 2, 5, 0), (.ireturn, 0, 0, 0)]
theorem cb_63_106 : z_chk 63 bo_63_106 106 0 [280, 220] = true := by decide +kernel
def bo_63_114 : List ZO := [(.aload_n 0, 0, 0, 0), (.getfield 19, 6, 1, 2), (.getfield 91, 2, 6, 0), (.ireturn, 0, 0, 0)]
theorem cb_63_114 : z_chk 63 bo_63_114 114 0 [280, 222] = true := by decide +kernel
def bo_63_122 : List ZO := [(.aload_n 0, 0, 0, 0), (.getfield 19, 6, 1, 2), (.invokevirtual 94, 27, 1, 3), (.ireturn, 0, 0, 0)]
theorem cb_63_122 : z_chk 63 bo_63_122 122 0 [280, 419] = true := by decide +kernel
def bo_63_130 : List ZO := [(.aload_n 0, 0, 0, 0), (.getfield 19, 6, 1, 2), (.invokevirtual 98, 18, 1, 3), (.ireturn, 0, 0, 0)]
theorem cb_63_130 : z_chk 63 bo_63_130 130 0 [280, 435] = true := by decide +kernel
def bo_63_138 : List ZO := [(.aload_n 0, 0, 0, 0), (.getfield 29, 6, 3, 2), (.getfield 101, 0, 2, 0), (.ireturn, 0, 0, 0)]
theorem cb_63_138 : z_chk 63 bo_63_138 138 0 [282, 250] = true := by decide +kernel
def bo_63_146 : List ZO := [(.aload_n 0, 0, 0, 0), (.getfield 44, 6, 6, 2), (.getfield 104, 4, 3, 0), (.ireturn, 0, 0, 0)]
theorem cb_63_146 : z_chk 63 bo_63_146 146 0 [285, 268] = true := by decide +kernel
def bo_63_154 : List ZO := [(.aload_n 0, 0, 0, 0), (.getfield 10, 6, 0, 2), (.getfield 56, 5, 1, 0), (.ireturn, 0, 0, 0)]
theorem cb_63_154 : z_chk 63 bo_63_154 154 0 [279, 71] = true := by decide +kernel
def bo_63_162 : List ZO := [(.bipush (-2), 2, 0, 1), (.ireturn, 0, 0, 0)]
theorem cb_63_162 : z_chk 63 bo_63_162 162 0 [] = true := by decide +kernel
def bk_63 : List (Nat × ZE) := [(0, false, [true, true], bo_63_0, 0), (64, false, [true, false], bo_63_64, 0), (72, false, [true, false], bo_63_72, 0), (80, false, [true, false], bo_63_80, 0), (89, false, [true, false], bo_63_89, 0), (98, false, [true, false], bo_63_98, 0), (106, false, [true, false], bo_63_106, 0), (114, false, [true, false], bo_63_114, 0), (122, false, [true, false], bo_63_122, 0), (130, false, [true, false], bo_63_130, 0), (138, false, [true, false], bo_63_138, 0), (146, false, [true, false], bo_63_146, 0), (154, false, [true, false], bo_63_154, 0), (162, false, [false, false], bo_63_162, 0)]
theorem ck_63 : z_chks 63 bk_63 [[], [280, 213], [280, 215], [280, 415], [280, 415], [280, 218], [280, 220], [280, 222], [280, 419], [280, 435], [282, 250], [285, 268], [279, 71], []] = true := z_chks_cons cb_63_0 (z_chks_cons cb_63_64 (z_chks_cons cb_63_72 (z_chks_cons cb_63_80 (z_chks_cons cb_63_89 (z_chks_cons cb_63_98 (z_chks_cons cb_63_106 (z_chks_cons cb_63_114 (z_chks_cons cb_63_122 (z_chks_cons cb_63_130 (z_chks_cons cb_63_138 (z_chks_cons cb_63_146 (z_chks_cons cb_63_154 (z_chks_cons cb_63_162 (z_chks_nil))))))))))))))
theorem bf_63_0 : z_fd bk_63 0 = some (false, [true, true], bo_63_0, 0) := rfl
theorem bf_63_64 : z_fd bk_63 64 = some (false, [true, false], bo_63_64, 0) := rfl
theorem bf_63_72 : z_fd bk_63 72 = some (false, [true, false], bo_63_72, 0) := rfl
theorem bf_63_80 : z_fd bk_63 80 = some (false, [true, false], bo_63_80, 0) := rfl
theorem bf_63_89 : z_fd bk_63 89 = some (false, [true, false], bo_63_89, 0) := rfl
theorem bf_63_98 : z_fd bk_63 98 = some (false, [true, false], bo_63_98, 0) := rfl
theorem bf_63_106 : z_fd bk_63 106 = some (false, [true, false], bo_63_106, 0) := rfl
theorem bf_63_114 : z_fd bk_63 114 = some (false, [true, false], bo_63_114, 0) := rfl
theorem bf_63_122 : z_fd bk_63 122 = some (false, [true, false], bo_63_122, 0) := rfl
theorem bf_63_130 : z_fd bk_63 130 = some (false, [true, false], bo_63_130, 0) := rfl
theorem bf_63_138 : z_fd bk_63 138 = some (false, [true, false], bo_63_138, 0) := rfl
theorem bf_63_146 : z_fd bk_63 146 = some (false, [true, false], bo_63_146, 0) := rfl
theorem bf_63_154 : z_fd bk_63 154 = some (false, [true, false], bo_63_154, 0) := rfl
theorem bf_63_162 : z_fd bk_63 162 = some (false, [false, false], bo_63_162, 0) := rfl
theorem cl_63 : z_mL 63 = 2 := by decide +kernel
theorem cz_63 : plainFor (z_my 63) = true ∧ ((z_rm 63).cells = 0 ∧ (z_rm 63).slots = 0) := by decide +kernel
-- 64 MP_node
def bo_64_0 : List ZO := [(.aload_n 0, 0, 0, 0), (.getfield 19, 6, 1, 2), (.iload_n 1, 1, 0, 0), (.invokevirtual 105, 14, 2, 3), (.ifCond .ne 5, 13, 0, 0), (.iconst (-1), 1, 0, 1), (.ireturn, 0, 0, 0)]
def bo_64_13 : List ZO := [(.iload_n 2, 2, 0, 0), (.iconst 0, 0, 0, 0), (.bipush 9, 9, 0, 0), (.invokestatic 52, 88, 3, 0), (.ifCond .ne 6, 26, 0, 0), (.bipush (-2), 2, 0, 1), (.ireturn, 0, 0, 0)]
def bo_64_26 : List ZO := [(.aload_n 0, 0, 0, 0), (.getfield 19, 6, 1, 2), (.iload_n 1, 1, 0, 0), (.iload_n 2, 2, 0, 0), (.invokevirtual 109, 31, 3, 3), (.ireturn, 0, 0, 0)]
def bk_64 : List (Nat × ZE) := [(0, false, [true, true, true], bo_64_0, 0), (13, false, [true, true, true], bo_64_13, 0), (26, false, [true, true, true], bo_64_26, 0)]
theorem ck_64 : z_chks 64 bk_64 [[280, 443], [308], [280, 444]] = true := by decide +kernel
theorem bf_64_0 : z_fd bk_64 0 = some (false, [true, true, true], bo_64_0, 0) := rfl
theorem bf_64_13 : z_fd bk_64 13 = some (false, [true, true, true], bo_64_13, 0) := rfl
theorem bf_64_26 : z_fd bk_64 26 = some (false, [true, true, true], bo_64_26, 0) := rfl
theorem cl_64 : z_mL 64 = 3 := by decide +kernel
theorem cz_64 : plainFor (z_my 64) = true ∧ ((z_rm 64).cells = 0 ∧ (z_rm 64).slots = 0) := by decide +kernel
-- 65 MP_link
def bo_65_0 : List ZO := [(.aload_n 0, 0, 0, 0), (.getfield 19, 6, 1, 2), (.iload_n 1, 1, 0, 0), (.invokevirtual 113, 15, 2, 3), (.ifCond .ne 5, 13, 0, 0), (.iconst (-1), 1, 0, 1), (.ireturn, 0, 0, 0)]
theorem cb_65_0 : z_chk 65 bo_65_0 0 0 [280, 456] = true := by decide +kernel
def bo_65_13 : List ZO := [(.aload_n 0, 0, 0, 0), (.getfield 19, 6, 1, 2), (.getfield 116, 2, 1, 2), (.iload_n 1, 1, 0, 0), (.aaload, 0, 0, 0), (.astore_n 3, 3, 0, 0), (.iload_n 2, 2, 0, 0), (.tableswitch 87 0 6 #[44, 49, 54, 59, 64, 69, 74], 24, 0, 6)]
theorem cb_65_13 : z_chk 65 bo_65_13 13 0 [280, 209] = true := by decide +kernel
def bo_65_68 : List ZO := [(.aload_n 3, 3, 0, 0), (.getfield 120, 1, 0, 0), (.ireturn, 0, 0, 0)]
theorem cb_65_68 : z_chk 65 bo_65_68 68 0 [173] = true := by decide +kernel
def bo_65_73 : List ZO := [(.aload_n 3, 3, 0, 0), (.getfield 125, 1, 1, 0), (.ireturn, 0, 0, 0)]
theorem cb_65_73 : z_chk 65 bo_65_73 73 0 [176] = true := by decide +kernel
def bo_65_78 : List ZO := [(.aload_n 3, 3, 0, 0), (.getfield 128, 1, 2, 0), (.ireturn, 0, 0, 0)]
theorem cb_65_78 : z_chk 65 bo_65_78 78 0 [179] = true := by decide +kernel
def bo_65_83 : List ZO := [(.aload_n 3, 3, 0, 0), (.getfield 131, 1, 3, 0), (.ireturn, 0, 0, 0)]
theorem cb_65_83 : z_chk 65 bo_65_83 83 0 [181] = true := by decide +kernel
def bo_65_88 : List ZO := [(.aload_n 3, 3, 0, 0), (.getfield 134, 1, 4, 0), (.ireturn, 0, 0, 0)]
theorem cb_65_88 : z_chk 65 bo_65_88 88 0 [183] = true := by decide +kernel
def bo_65_93 : List ZO := [(.aload_n 3, 3, 0, 0), (.getfield 137, 1, 5, 0), (.ireturn, 0, 0, 0)]
theorem cb_65_93 : z_chk 65 bo_65_93 93 0 [185] = true := by decide +kernel
def bo_65_98 : List ZO := [(.aload_n 3, 3, 0, 0), (.getfield 140, 1, 6, 3), (.ifCond .eq 7, 109, 0, 0), (.iconst 1, 1, 0, 0), (.goto 4, 110, 0, 0)]
theorem cb_65_98 : z_chk 65 bo_65_98 98 0 [189] = true := by decide +kernel
def bo_65_109 : List ZO := [(.iconst 0, 0, 0, 0), (.ireturn, 0, 0, 0)]
theorem cb_65_109 : z_chk 65 bo_65_109 109 0 [] = true := by decide +kernel
def bo_65_110 : List ZO := [(.ireturn, 0, 0, 0)]
theorem cb_65_110 : z_chk 65 bo_65_110 110 0 [] = true := by decide +kernel
def bo_65_111 : List ZO := [(.bipush (-2), 2, 0, 1), (.ireturn, 0, 0, 0)]
theorem cb_65_111 : z_chk 65 bo_65_111 111 0 [] = true := by decide +kernel
def bk_65 : List (Nat × ZE) := [(0, false, [true, true, true, false], bo_65_0, 0), (13, false, [true, true, true, false], bo_65_13, 0), (68, false, [false, false, false, true], bo_65_68, 0), (73, false, [false, false, false, true], bo_65_73, 0), (78, false, [false, false, false, true], bo_65_78, 0), (83, false, [false, false, false, true], bo_65_83, 0), (88, false, [false, false, false, true], bo_65_88, 0), (93, false, [false, false, false, true], bo_65_93, 0), (98, false, [false, false, false, true], bo_65_98, 0), (109, false, [false, false, false, false], bo_65_109, 0), (110, false, [false, false, false, false], bo_65_110, 0), (111, false, [false, false, false, false], bo_65_111, 0)]
theorem ck_65 : z_chks 65 bk_65 [[280, 456], [280, 209], [173], [176], [179], [181], [183], [185], [189], [], [], []] = true := z_chks_cons cb_65_0 (z_chks_cons cb_65_13 (z_chks_cons cb_65_68 (z_chks_cons cb_65_73 (z_chks_cons cb_65_78 (z_chks_cons cb_65_83 (z_chks_cons cb_65_88 (z_chks_cons cb_65_93 (z_chks_cons cb_65_98 (z_chks_cons cb_65_109 (z_chks_cons cb_65_110 (z_chks_cons cb_65_111 (z_chks_nil))))))))))))
theorem bf_65_0 : z_fd bk_65 0 = some (false, [true, true, true, false], bo_65_0, 0) := rfl
theorem bf_65_13 : z_fd bk_65 13 = some (false, [true, true, true, false], bo_65_13, 0) := rfl
theorem bf_65_68 : z_fd bk_65 68 = some (false, [false, false, false, true], bo_65_68, 0) := rfl
theorem bf_65_73 : z_fd bk_65 73 = some (false, [false, false, false, true], bo_65_73, 0) := rfl
theorem bf_65_78 : z_fd bk_65 78 = some (false, [false, false, false, true], bo_65_78, 0) := rfl
theorem bf_65_83 : z_fd bk_65 83 = some (false, [false, false, false, true], bo_65_83, 0) := rfl
theorem bf_65_88 : z_fd bk_65 88 = some (false, [false, false, false, true], bo_65_88, 0) := rfl
theorem bf_65_93 : z_fd bk_65 93 = some (false, [false, false, false, true], bo_65_93, 0) := rfl
theorem bf_65_98 : z_fd bk_65 98 = some (false, [false, false, false, true], bo_65_98, 0) := rfl
theorem bf_65_109 : z_fd bk_65 109 = some (false, [false, false, false, false], bo_65_109, 0) := rfl
theorem bf_65_110 : z_fd bk_65 110 = some (false, [false, false, false, false], bo_65_110, 0) := rfl
theorem bf_65_111 : z_fd bk_65 111 = some (false, [false, false, false, false], bo_65_111, 0) := rfl
theorem cl_65 : z_mL 65 = 4 := by decide +kernel
theorem cz_65 : plainFor (z_my 65) = true ∧ ((z_rm 65).cells = 0 ∧ (z_rm 65).slots = 0) := by decide +kernel
-- 66 MP_price
def bo_66_0 : List ZO := [(.aload_n 0, 0, 0, 0), (.iload_n 1, 1, 0, 0), (.iload_n 2, 2, 0, 0), (.invokevirtual 144, 89, 3, 7), (.istore_n 3, 3, 0, 0), (.iload_n 3, 3, 0, 0), (.ifCond .eq 5, 13, 0, 0), (.iload_n 3, 3, 0, 0), (.ireturn, 0, 0, 0)]
def bo_66_13 : List ZO := [(.aload_n 0, 0, 0, 0), (.getfield 19, 6, 1, 2), (.iload_n 1, 1, 0, 0), (.iload_n 2, 2, 0, 0), (.invokevirtual 147, 21, 3, 3), (.istore 4, 4, 0, 0), (.iload 4, 4, 0, 0), (.ifCond .ge 8, 34, 0, 0), (.bipush (-9), 9, 0, 1), (.goto 29, 60, 0, 0)]
def bo_66_34 : List ZO := [(.aload_n 0, 0, 0, 0), (.getfield 19, 6, 1, 2), (.getfield 150, 2, 0, 2), (.iload_n 1, 1, 0, 0), (.aaload, 0, 0, 0), (.getfield 154, 3, 11, 0), (.aload_n 0, 0, 0, 0), (.getfield 19, 6, 1, 2), (.getfield 116, 2, 1, 2), (.iload 4, 4, 0, 0), (.aaload, 0, 0, 0), (.getfield 137, 1, 5, 0), (.iadd, 0, 0, 0), (.ireturn, 0, 0, 0)]
def bo_66_60 : List ZO := [(.ireturn, 0, 0, 0)]
def bk_66 : List (Nat × ZE) := [(0, false, [true, true, true, false, false], bo_66_0, 0), (13, false, [true, true, true, false, false], bo_66_13, 0), (34, false, [true, true, false, false, true], bo_66_34, 0), (60, false, [false, false, false, false, false], bo_66_60, 0)]
theorem ck_66 : z_chks 66 bk_66 [[464], [280, 472], [280, 207, 121, 280, 209, 185], []] = true := by decide +kernel
theorem bf_66_0 : z_fd bk_66 0 = some (false, [true, true, true, false, false], bo_66_0, 0) := rfl
theorem bf_66_13 : z_fd bk_66 13 = some (false, [true, true, true, false, false], bo_66_13, 0) := rfl
theorem bf_66_34 : z_fd bk_66 34 = some (false, [true, true, false, false, true], bo_66_34, 0) := rfl
theorem bf_66_60 : z_fd bk_66 60 = some (false, [false, false, false, false, false], bo_66_60, 0) := rfl
theorem cl_66 : z_mL 66 = 5 := by decide +kernel
theorem cz_66 : plainFor (z_my 66) = true ∧ ((z_rm 66).cells = 0 ∧ (z_rm 66).slots = 0) := by decide +kernel
-- 67 MP_safe
def bo_67_0 : List ZO := [(.aload_n 0, 0, 0, 0), (.iload_n 1, 1, 0, 0), (.iload_n 2, 2, 0, 0), (.invokevirtual 144, 89, 3, 7), (.istore_n 3, 3, 0, 0), (.iload_n 3, 3, 0, 0), (.ifCond .eq 5, 13, 0, 0), (.iload_n 3, 3, 0, 0), (.ireturn, 0, 0, 0)]
def bo_67_13 : List ZO := [(.aload_n 0, 0, 0, 0), (.getfield 19, 6, 1, 2), (.iload_n 1, 1, 0, 0), (.iload_n 2, 2, 0, 0), (.invokevirtual 147, 21, 3, 3), (.ifCond .ge 6, 28, 0, 0), (.bipush (-9), 9, 0, 1), (.ireturn, 0, 0, 0)]
def bo_67_28 : List ZO := [(.aload_n 0, 0, 0, 0), (.getfield 19, 6, 1, 2), (.getfield 150, 2, 0, 2), (.iload_n 2, 2, 0, 0), (.aaload, 0, 0, 0), (.aload_n 0, 0, 0, 0), (.getfield 19, 6, 1, 2), (.getfield 150, 2, 0, 2), (.iload_n 1, 1, 0, 0), (.aaload, 0, 0, 0), (.invokevirtual 159, 38, 2, 4), (.ifCond .eq 7, 56, 0, 0), (.iconst 1, 1, 0, 0), (.goto 4, 57, 0, 0)]
def bo_67_56 : List ZO := [(.iconst 0, 0, 0, 0), (.ireturn, 0, 0, 0)]
def bo_67_57 : List ZO := [(.ireturn, 0, 0, 0)]
def bk_67 : List (Nat × ZE) := [(0, false, [true, true, true, false], bo_67_0, 0), (13, false, [true, true, true, false], bo_67_13, 0), (28, false, [true, true, true, false], bo_67_28, 0), (56, false, [false, false, false, false], bo_67_56, 0), (57, false, [false, false, false, false], bo_67_57, 0)]
theorem ck_67 : z_chks 67 bk_67 [[464], [280, 472], [280, 207, 280, 207, 485], [], []] = true := by decide +kernel
theorem bf_67_0 : z_fd bk_67 0 = some (false, [true, true, true, false], bo_67_0, 0) := rfl
theorem bf_67_13 : z_fd bk_67 13 = some (false, [true, true, true, false], bo_67_13, 0) := rfl
theorem bf_67_28 : z_fd bk_67 28 = some (false, [true, true, true, false], bo_67_28, 0) := rfl
theorem bf_67_56 : z_fd bk_67 56 = some (false, [false, false, false, false], bo_67_56, 0) := rfl
theorem bf_67_57 : z_fd bk_67 57 = some (false, [false, false, false, false], bo_67_57, 0) := rfl
theorem cl_67 : z_mL 67 = 4 := by decide +kernel
theorem cz_67 : plainFor (z_my 67) = true ∧ ((z_rm 67).cells = 0 ∧ (z_rm 67).slots = 0) := by decide +kernel
-- 68 MP_round
def bo_68_0 : List ZO := [(.iload_n 1, 1, 0, 0), (.iconst 1, 1, 0, 0), (.bipush 99, 99, 0, 0), (.invokestatic 52, 88, 3, 0), (.ifCond .ne 6, 13, 0, 0), (.bipush (-2), 2, 0, 1), (.ireturn, 0, 0, 0)]
def bo_68_13 : List ZO := [(.aload_n 0, 0, 0, 0), (.getfield 29, 6, 3, 2), (.aload_n 0, 0, 0, 0), (.getfield 19, 6, 1, 2), (.invokevirtual 163, 2, 2, 1), (.aload_n 0, 0, 0, 0), (.getfield 19, 6, 1, 2), (.iload_n 1, 1, 0, 0), (.iconst 0, 0, 0, 0), (.invokevirtual 166, 22, 3, 3), (.aload_n 0, 0, 0, 0), (.getfield 19, 6, 1, 2), (.invokevirtual 94, 27, 1, 3), (.invokestatic 170, 175, 1, 0), (.ireturn, 0, 0, 0)]
def bk_68 : List (Nat × ZE) := [(0, false, [true, true], bo_68_0, 0), (13, false, [true, true], bo_68_13, 0)]
theorem ck_68 : z_chks 68 bk_68 [[308], [282, 280, 493, 280, 498, 280, 419, 535]] = true := by decide +kernel
theorem bf_68_0 : z_fd bk_68 0 = some (false, [true, true], bo_68_0, 0) := rfl
theorem bf_68_13 : z_fd bk_68 13 = some (false, [true, true], bo_68_13, 0) := rfl
theorem cl_68 : z_mL 68 = 2 := by decide +kernel
theorem cz_68 : plainFor (z_my 68) = true ∧ ((z_rm 68).cells = 0 ∧ (z_rm 68).slots = 0) := by decide +kernel
-- 69 MP_turn
def bo_69_0 : List ZO := [(.aload_n 0, 0, 0, 0), (.getfield 19, 6, 1, 2), (.iload_n 1, 1, 0, 0), (.invokevirtual 113, 15, 2, 3), (.ifCond .ne 5, 13, 0, 0), (.iconst (-1), 1, 0, 1), (.ireturn, 0, 0, 0)]
def bo_69_13 : List ZO := [(.aload_n 0, 0, 0, 0), (.getfield 29, 6, 3, 2), (.aload_n 0, 0, 0, 0), (.getfield 19, 6, 1, 2), (.invokevirtual 163, 2, 2, 1), (.aload_n 0, 0, 0, 0), (.getfield 19, 6, 1, 2), (.getfield 116, 2, 1, 2), (.iload_n 1, 1, 0, 0), (.aaload, 0, 0, 0), (.invokevirtual 175, 7, 1, 2), (.aload_n 0, 0, 0, 0), (.getfield 19, 6, 1, 2), (.getfield 116, 2, 1, 2), (.iload_n 1, 1, 0, 0), (.aaload, 0, 0, 0), (.getfield 140, 1, 6, 3), (.ifCond .eq 7, 55, 0, 0), (.iconst 1, 1, 0, 0), (.goto 4, 56, 0, 0)]
def bo_69_55 : List ZO := [(.iconst 0, 0, 0, 0), (.ireturn, 0, 0, 0)]
def bo_69_56 : List ZO := [(.ireturn, 0, 0, 0)]
def bk_69 : List (Nat × ZE) := [(0, false, [true, true], bo_69_0, 0), (13, false, [true, true], bo_69_13, 0), (55, false, [false, false], bo_69_55, 0), (56, false, [false, false], bo_69_56, 0)]
theorem ck_69 : z_chks 69 bk_69 [[280, 456], [282, 280, 493, 280, 209, 545, 280, 209, 189], [], []] = true := by decide +kernel
theorem bf_69_0 : z_fd bk_69 0 = some (false, [true, true], bo_69_0, 0) := rfl
theorem bf_69_13 : z_fd bk_69 13 = some (false, [true, true], bo_69_13, 0) := rfl
theorem bf_69_55 : z_fd bk_69 55 = some (false, [false, false], bo_69_55, 0) := rfl
theorem bf_69_56 : z_fd bk_69 56 = some (false, [false, false], bo_69_56, 0) := rfl
theorem cl_69 : z_mL 69 = 2 := by decide +kernel
theorem cz_69 : plainFor (z_my 69) = true ∧ ((z_rm 69).cells = 0 ∧ (z_rm 69).slots = 0) := by decide +kernel
-- 70 MP_lose
def bo_70_0 : List ZO := [(.aload_n 0, 0, 0, 0), (.getfield 19, 6, 1, 2), (.iload_n 1, 1, 0, 0), (.invokevirtual 113, 15, 2, 3), (.ifCond .ne 5, 13, 0, 0), (.iconst (-1), 1, 0, 1), (.ireturn, 0, 0, 0)]
def bo_70_13 : List ZO := [(.iload_n 3, 3, 0, 0), (.iconst 0, 0, 0, 0), (.bipush 9, 9, 0, 0), (.invokestatic 52, 88, 3, 0), (.ifCond .ne 6, 26, 0, 0), (.bipush (-2), 2, 0, 1), (.ireturn, 0, 0, 0)]
def bo_70_26 : List ZO := [(.aload_n 0, 0, 0, 0), (.getfield 29, 6, 3, 2), (.aload_n 0, 0, 0, 0), (.getfield 19, 6, 1, 2), (.invokevirtual 163, 2, 2, 1), (.aload_n 0, 0, 0, 0), (.getfield 19, 6, 1, 2), (.getfield 116, 2, 1, 2), (.iload_n 1, 1, 0, 0), (.aaload, 0, 0, 0), (.iload_n 2, 2, 0, 0), (.iload_n 3, 3, 0, 0), (.invokevirtual 178, 8, 3, 2), (.aload_n 0, 0, 0, 0), (.getfield 19, 6, 1, 2), (.getfield 116, 2, 1, 2), (.iload_n 1, 1, 0, 0), (.aaload, 0, 0, 0), (.getfield 137, 1, 5, 0), (.ireturn, 0, 0, 0)]
def bk_70 : List (Nat × ZE) := [(0, false, [true, true, true, true], bo_70_0, 0), (13, false, [true, true, true, true], bo_70_13, 0), (26, false, [true, true, true, true], bo_70_26, 0)]
theorem ck_70 : z_chks 70 bk_70 [[280, 456], [308], [282, 280, 493, 280, 209, 553, 280, 209, 185]] = true := by decide +kernel
theorem bf_70_0 : z_fd bk_70 0 = some (false, [true, true, true, true], bo_70_0, 0) := rfl
theorem bf_70_13 : z_fd bk_70 13 = some (false, [true, true, true, true], bo_70_13, 0) := rfl
theorem bf_70_26 : z_fd bk_70 26 = some (false, [true, true, true, true], bo_70_26, 0) := rfl
theorem cl_70 : z_mL 70 = 4 := by decide +kernel
theorem cz_70 : plainFor (z_my 70) = true ∧ ((z_rm 70).cells = 0 ∧ (z_rm 70).slots = 0) := by decide +kernel
-- 71 MP_offset
def bo_71_0 : List ZO := [(.aload_n 0, 0, 0, 0), (.getfield 19, 6, 1, 2), (.iload_n 1, 1, 0, 0), (.invokevirtual 182, 16, 2, 3), (.ifCond .ne 5, 13, 0, 0), (.iconst (-1), 1, 0, 1), (.ireturn, 0, 0, 0)]
def bo_71_13 : List ZO := [(.iload_n 2, 2, 0, 0), (.iconst 0, 0, 0, 0), (.bipush 9, 9, 0, 0), (.invokestatic 52, 88, 3, 0), (.ifCond .ne 6, 26, 0, 0), (.bipush (-2), 2, 0, 1), (.ireturn, 0, 0, 0)]
def bo_71_26 : List ZO := [(.aload_n 0, 0, 0, 0), (.getfield 29, 6, 3, 2), (.aload_n 0, 0, 0, 0), (.getfield 19, 6, 1, 2), (.invokevirtual 163, 2, 2, 1), (.aload_n 0, 0, 0, 0), (.getfield 19, 6, 1, 2), (.getfield 150, 2, 0, 2), (.iload_n 1, 1, 0, 0), (.aaload, 0, 0, 0), (.getfield 185, 3, 1, 0), (.istore_n 3, 3, 0, 0), (.aload_n 0, 0, 0, 0), (.getfield 19, 6, 1, 2), (.getfield 150, 2, 0, 2), (.iload_n 1, 1, 0, 0), (.aaload, 0, 0, 0), (.iload_n 2, 2, 0, 0), (.putfield 185, 3, 1, 0), (.iload_n 3, 3, 0, 0), (.ireturn, 0, 0, 0)]
def bk_71 : List (Nat × ZE) := [(0, false, [true, true, true, false], bo_71_0, 0), (13, false, [true, true, true, false], bo_71_13, 0), (26, false, [true, true, true, false], bo_71_26, 0)]
theorem ck_71 : z_chks 71 bk_71 [[280, 468], [308], [282, 280, 493, 280, 207, 98, 280, 207, 98]] = true := by decide +kernel
theorem bf_71_0 : z_fd bk_71 0 = some (false, [true, true, true, false], bo_71_0, 0) := rfl
theorem bf_71_13 : z_fd bk_71 13 = some (false, [true, true, true, false], bo_71_13, 0) := rfl
theorem bf_71_26 : z_fd bk_71 26 = some (false, [true, true, true, false], bo_71_26, 0) := rfl
theorem cl_71 : z_mL 71 = 4 := by decide +kernel
theorem cz_71 : plainFor (z_my 71) = true ∧ ((z_rm 71).cells = 0 ∧ (z_rm 71).slots = 0) := by decide +kernel
-- 72 MP_margin
def bo_72_0 : List ZO := [(.iload_n 1, 1, 0, 0), (.iconst 0, 0, 0, 0), (.bipush 9, 9, 0, 0), (.invokestatic 52, 88, 3, 0), (.ifCond .ne 6, 13, 0, 0), (.bipush (-2), 2, 0, 1), (.ireturn, 0, 0, 0)]
def bo_72_13 : List ZO := [(.aload_n 0, 0, 0, 0), (.getfield 29, 6, 3, 2), (.aload_n 0, 0, 0, 0), (.getfield 19, 6, 1, 2), (.invokevirtual 163, 2, 2, 1), (.aload_n 0, 0, 0, 0), (.getfield 19, 6, 1, 2), (.getfield 85, 2, 4, 0), (.istore_n 2, 2, 0, 0), (.aload_n 0, 0, 0, 0), (.getfield 19, 6, 1, 2), (.iload_n 1, 1, 0, 0), (.putfield 85, 2, 4, 0), (.iload_n 2, 2, 0, 0), (.ireturn, 0, 0, 0)]
def bk_72 : List (Nat × ZE) := [(0, false, [true, true, false], bo_72_0, 0), (13, false, [true, true, false], bo_72_13, 0)]
theorem ck_72 : z_chks 72 bk_72 [[308], [282, 280, 493, 280, 218, 280, 218]] = true := by decide +kernel
theorem bf_72_0 : z_fd bk_72 0 = some (false, [true, true, false], bo_72_0, 0) := rfl
theorem bf_72_13 : z_fd bk_72 13 = some (false, [true, true, false], bo_72_13, 0) := rfl
theorem cl_72 : z_mL 72 = 3 := by decide +kernel
theorem cz_72 : plainFor (z_my 72) = true ∧ ((z_rm 72).cells = 0 ∧ (z_rm 72).slots = 0) := by decide +kernel
-- 73 MP_undo
def bo_73_0 : List ZO := [(.aload_n 0, 0, 0, 0), (.getfield 29, 6, 3, 2), (.getfield 101, 0, 2, 0), (.ifCond .ne 6, 13, 0, 0), (.bipush (-3), 3, 0, 1), (.ireturn, 0, 0, 0)]
def bo_73_13 : List ZO := [(.aload_n 0, 0, 0, 0), (.getfield 29, 6, 3, 2), (.aload_n 0, 0, 0, 0), (.getfield 19, 6, 1, 2), (.invokevirtual 188, 3, 2, 1), (.aload_n 0, 0, 0, 0), (.getfield 29, 6, 3, 2), (.getfield 101, 0, 2, 0), (.ireturn, 0, 0, 0)]
def bk_73 : List (Nat × ZE) := [(0, false, [true], bo_73_0, 0), (13, false, [true], bo_73_13, 0)]
theorem ck_73 : z_chks 73 bk_73 [[282, 250], [282, 280, 569, 282, 250]] = true := by decide +kernel
theorem bf_73_0 : z_fd bk_73 0 = some (false, [true], bo_73_0, 0) := rfl
theorem bf_73_13 : z_fd bk_73 13 = some (false, [true], bo_73_13, 0) := rfl
theorem cl_73 : z_mL 73 = 1 := by decide +kernel
theorem cz_73 : plainFor (z_my 73) = true ∧ ((z_rm 73).cells = 0 ∧ (z_rm 73).slots = 0) := by decide +kernel
-- 74 MP_ahead
def bo_74_0 : List ZO := [(.aload_n 0, 0, 0, 0), (.getfield 19, 6, 1, 2), (.iload_n 2, 2, 0, 0), (.invokevirtual 105, 14, 2, 3), (.ifCond .ne 5, 13, 0, 0), (.iconst (-1), 1, 0, 1), (.ireturn, 0, 0, 0)]
def bo_74_13 : List ZO := [(.iload_n 1, 1, 0, 0), (.iconst 0, 0, 0, 0), (.bipush 99, 99, 0, 0), (.invokestatic 52, 88, 3, 0), (.ifCond .eq 13, 33, 0, 0), (.iload_n 3, 3, 0, 0), (.iconst 3, 3, 0, 0), (.bipush 9, 9, 0, 0), (.invokestatic 52, 88, 3, 0), (.ifCond .ne 6, 36, 0, 0), (.bipush (-2), 2, 0, 1), (.ireturn, 0, 0, 0)]
def bo_74_33 : List ZO := [(.bipush (-2), 2, 0, 1), (.ireturn, 0, 0, 0)]
def bo_74_36 : List ZO := [(.aload_n 0, 0, 0, 0), (.getfield 23, 6, 2, 2), (.aload_n 0, 0, 0, 0), (.getfield 19, 6, 1, 2), (.invokevirtual 68, 13, 2, 3), (.aload_n 0, 0, 0, 0), (.getfield 23, 6, 2, 2), (.iload_n 1, 1, 0, 0), (.iconst 0, 0, 0, 0), (.invokevirtual 166, 22, 3, 3), (.aload_n 0, 0, 0, 0), (.getfield 23, 6, 2, 2), (.iload_n 2, 2, 0, 0), (.iload_n 3, 3, 0, 0), (.invokevirtual 109, 31, 3, 3), (.ireturn, 0, 0, 0)]
def bk_74 : List (Nat × ZE) := [(0, false, [true, true, true, true], bo_74_0, 0), (13, false, [true, true, true, true], bo_74_13, 0), (33, false, [false, false, false, false], bo_74_33, 0), (36, false, [true, true, true, true], bo_74_36, 0)]
theorem ck_74 : z_chks 74 bk_74 [[280, 443], [308, 308], [], [281, 280, 395, 281, 498, 281, 444]] = true := by decide +kernel
theorem bf_74_0 : z_fd bk_74 0 = some (false, [true, true, true, true], bo_74_0, 0) := rfl
theorem bf_74_13 : z_fd bk_74 13 = some (false, [true, true, true, true], bo_74_13, 0) := rfl
theorem bf_74_33 : z_fd bk_74 33 = some (false, [false, false, false, false], bo_74_33, 0) := rfl
theorem bf_74_36 : z_fd bk_74 36 = some (false, [true, true, true, true], bo_74_36, 0) := rfl
theorem cl_74 : z_mL 74 = 4 := by decide +kernel
theorem cz_74 : plainFor (z_my 74) = true ∧ ((z_rm 74).cells = 0 ∧ (z_rm 74).slots = 0) := by decide +kernel
-- 75 MP_still
def bo_75_0 : List ZO := [(.aload_n 0, 0, 0, 0), (.getfield 23, 6, 2, 2), (.aload_n 0, 0, 0, 0), (.getfield 19, 6, 1, 2), (.invokevirtual 68, 13, 2, 3), (.iconst 0, 0, 0, 0), (.istore_n 1, 1, 0, 0), (.iconst 1, 1, 0, 0), (.istore_n 2, 2, 0, 0)]
def bo_75_15 : List ZO := [(.iload_n 2, 2, 0, 0), (.bipush 49, 49, 0, 0), (.if_icmp .gt 52, 70, 0, 0), (.aload_n 0, 0, 0, 0), (.getfield 23, 6, 2, 2), (.invokevirtual 191, 30, 1, 3), (.lstore_n 3, 3, 0, 0), (.aload_n 0, 0, 0, 0), (.getfield 23, 6, 2, 2), (.iconst 0, 0, 0, 0), (.invokevirtual 195, 23, 2, 3), (.aload_n 0, 0, 0, 0), (.getfield 23, 6, 2, 2), (.invokevirtual 191, 30, 1, 3), (.lload_n 3, 3, 0, 0), (.lcmp, 0, 0, 0), (.ifCond .eq 8, 54, 0, 0), (.iload_n 2, 2, 0, 0), (.istore_n 1, 1, 0, 0), (.goto 13, 64, 0, 0)]
def bo_75_54 : List ZO := [(.iload_n 2, 2, 0, 0), (.iload_n 1, 1, 0, 0), (.isub, 0, 0, 0), (.bipush 9, 9, 0, 0), (.if_icmp .ne 5, 64, 0, 0), (.iload_n 1, 1, 0, 0), (.ireturn, 0, 0, 0)]
def bo_75_64 : List ZO := [(.iinc 2 1, 1, 2, 0), (.goto (-52), 15, 0, 0)]
def bo_75_70 : List ZO := [(.bipush (-9), 9, 0, 1), (.ireturn, 0, 0, 0)]
def bk_75 : List (Nat × ZE) := [(0, false, [true, false, false, false, false], bo_75_0, 15), (15, true, [true, true, true, false, false], bo_75_15, 0), (54, false, [true, true, true, false, false], bo_75_54, 0), (64, false, [true, true, true, false, false], bo_75_64, 0), (70, false, [false, false, false, false, false], bo_75_70, 0)]
theorem ck_75 : z_chks 75 bk_75 [[281, 280, 395], [281, 581, 281, 586, 281, 581], [], [], []] = true := by decide +kernel
theorem bf_75_0 : z_fd bk_75 0 = some (false, [true, false, false, false, false], bo_75_0, 15) := rfl
theorem bf_75_15 : z_fd bk_75 15 = some (true, [true, true, true, false, false], bo_75_15, 0) := rfl
theorem bf_75_54 : z_fd bk_75 54 = some (false, [true, true, true, false, false], bo_75_54, 0) := rfl
theorem bf_75_64 : z_fd bk_75 64 = some (false, [true, true, true, false, false], bo_75_64, 0) := rfl
theorem bf_75_70 : z_fd bk_75 70 = some (false, [false, false, false, false, false], bo_75_70, 0) := rfl
theorem cl_75 : z_mL 75 = 5 := by decide +kernel
theorem cz_75 : plainFor (z_my 75) = true ∧ ((z_rm 75).cells = 0 ∧ (z_rm 75).slots = 0) := by decide +kernel
-- 76 MP_word
def bo_76_0 : List ZO := [(.aload_n 0, 0, 0, 0), (.getfield 19, 6, 1, 2), (.iload_n 1, 1, 0, 0), (.invokevirtual 105, 14, 2, 3), (.ifCond .ne 5, 13, 0, 0), (.iconst (-1), 1, 0, 1), (.ireturn, 0, 0, 0)]
theorem cb_76_0 : z_chk 76 bo_76_0 0 0 [280, 443] = true := by decide +kernel
def bo_76_13 : List ZO := [(.aload_n 0, 0, 0, 0), (.getfield 19, 6, 1, 2), (.iload_n 1, 1, 0, 0), (.invokevirtual 182, 16, 2, 3), (.ifCond .eq 5, 26, 0, 0), (.iconst 0, 0, 0, 0), (.ireturn, 0, 0, 0)]
theorem cb_76_13 : z_chk 76 bo_76_13 13 0 [280, 468] = true := by decide +kernel
def bo_76_26 : List ZO := [(.aload_n 0, 0, 0, 0), (.getfield 23, 6, 2, 2), (.aload_n 0, 0, 0, 0), (.getfield 19, 6, 1, 2), (.invokevirtual 68, 13, 2, 3), (.iload_n 1, 1, 0, 0), (.istore_n 2, 2, 0, 0), (.iconst 1, 1, 0, 0), (.istore_n 3, 3, 0, 0)]
theorem cb_76_26 : z_chk 76 bo_76_26 26 41 [281, 280, 395] = true := by decide +kernel
def bo_76_41 : List ZO := [(.iload_n 3, 3, 0, 0), (.bipush 60, 60, 0, 0), (.if_icmp .gt 85, 129, 0, 0), (.aload_n 0, 0, 0, 0), (.getfield 23, 6, 2, 2), (.getfield 150, 2, 0, 2), (.iload_n 2, 2, 0, 0), (.aaload, 0, 0, 0), (.aload_n 0, 0, 0, 0), (.getfield 23, 6, 2, 2), (.getfield 91, 2, 6, 0), (.invokevirtual 198, 36, 2, 4), (.istore 4, 4, 0, 0), (.aload_n 0, 0, 0, 0), (.getfield 23, 6, 2, 2), (.iconst 0, 0, 0, 0), (.invokevirtual 195, 23, 2, 3), (.aload_n 0, 0, 0, 0), (.getfield 23, 6, 2, 2), (.getfield 150, 2, 0, 2), (.iload_n 2, 2, 0, 0), (.aaload, 0, 0, 0), (.getfield 201, 3, 4, 0), (.istore 5, 5, 0, 0), (.iload 4, 4, 0, 0), (.ifCond .eq 18, 110, 0, 0), (.aload_n 0, 0, 0, 0), (.getfield 23, 6, 2, 2), (.iload 5, 5, 0, 0), (.invokevirtual 105, 14, 2, 3), (.ifCond .eq 6, 110, 0, 0), (.iload 5, 5, 0, 0), (.istore_n 2, 2, 0, 0), (.aload_n 0, 0, 0, 0), (.getfield 23, 6, 2, 2), (.iload_n 2, 2, 0, 0), (.invokevirtual 182, 16, 2, 3), (.ifCond .eq 5, 123, 0, 0), (.iload_n 3, 3, 0, 0), (.ireturn, 0, 0, 0)]
theorem cb_76_41 : z_chk 76 bo_76_41 41 0 [281, 207, 281, 222, 591, 281, 586, 281, 207, 108, 281, 443, 281, 468] = true := by decide +kernel
def bo_76_110 : List ZO := [(.aload_n 0, 0, 0, 0), (.getfield 23, 6, 2, 2), (.iload_n 2, 2, 0, 0), (.invokevirtual 182, 16, 2, 3), (.ifCond .eq 5, 123, 0, 0), (.iload_n 3, 3, 0, 0), (.ireturn, 0, 0, 0)]
theorem cb_76_110 : z_chk 76 bo_76_110 110 0 [281, 468] = true := by decide +kernel
def bo_76_123 : List ZO := [(.iinc 3 1, 1, 3, 0), (.goto (-85), 41, 0, 0)]
theorem cb_76_123 : z_chk 76 bo_76_123 123 0 [] = true := by decide +kernel
def bo_76_129 : List ZO := [(.bipush (-9), 9, 0, 1), (.ireturn, 0, 0, 0)]
theorem cb_76_129 : z_chk 76 bo_76_129 129 0 [] = true := by decide +kernel
def bk_76 : List (Nat × ZE) := [(0, false, [true, true, false, false, false, false], bo_76_0, 0), (13, false, [true, true, false, false, false, false], bo_76_13, 0), (26, false, [true, true, false, false, false, false], bo_76_26, 41), (41, true, [true, false, true, true, false, false], bo_76_41, 0), (110, false, [true, false, true, true, false, false], bo_76_110, 0), (123, false, [true, false, true, true, false, false], bo_76_123, 0), (129, false, [false, false, false, false, false, false], bo_76_129, 0)]
theorem ck_76 : z_chks 76 bk_76 [[280, 443], [280, 468], [281, 280, 395], [281, 207, 281, 222, 591, 281, 586, 281, 207, 108, 281, 443, 281, 468], [281, 468], [], []] = true := z_chks_cons cb_76_0 (z_chks_cons cb_76_13 (z_chks_cons cb_76_26 (z_chks_cons cb_76_41 (z_chks_cons cb_76_110 (z_chks_cons cb_76_123 (z_chks_cons cb_76_129 (z_chks_nil)))))))
theorem bf_76_0 : z_fd bk_76 0 = some (false, [true, true, false, false, false, false], bo_76_0, 0) := rfl
theorem bf_76_13 : z_fd bk_76 13 = some (false, [true, true, false, false, false, false], bo_76_13, 0) := rfl
theorem bf_76_26 : z_fd bk_76 26 = some (false, [true, true, false, false, false, false], bo_76_26, 41) := rfl
theorem bf_76_41 : z_fd bk_76 41 = some (true, [true, false, true, true, false, false], bo_76_41, 0) := rfl
theorem bf_76_110 : z_fd bk_76 110 = some (false, [true, false, true, true, false, false], bo_76_110, 0) := rfl
theorem bf_76_123 : z_fd bk_76 123 = some (false, [true, false, true, true, false, false], bo_76_123, 0) := rfl
theorem bf_76_129 : z_fd bk_76 129 = some (false, [false, false, false, false, false, false], bo_76_129, 0) := rfl
theorem cl_76 : z_mL 76 = 6 := by decide +kernel
theorem cz_76 : plainFor (z_my 76) = true ∧ ((z_rm 76).cells = 0 ∧ (z_rm 76).slots = 0) := by decide +kernel
-- 77 MP_even
def bo_77_0 : List ZO := [(.aload_n 0, 0, 0, 0), (.getfield 19, 6, 1, 2), (.iload_n 1, 1, 0, 0), (.invokevirtual 182, 16, 2, 3), (.ifCond .ne 5, 13, 0, 0), (.iconst (-1), 1, 0, 1), (.ireturn, 0, 0, 0)]
def bo_77_13 : List ZO := [(.iconst 0, 0, 0, 0), (.istore_n 2, 2, 0, 0), (.bipush 9, 9, 0, 0), (.istore_n 3, 3, 0, 0), (.iconst 0, 0, 0, 0), (.istore 4, 4, 0, 0)]
def bo_77_21 : List ZO := [(.iload 4, 4, 0, 0), (.bipush 9, 9, 0, 0), (.if_icmp .gt 65, 90, 0, 0), (.aload_n 0, 0, 0, 0), (.getfield 23, 6, 2, 2), (.aload_n 0, 0, 0, 0), (.getfield 19, 6, 1, 2), (.invokevirtual 68, 13, 2, 3), (.aload_n 0, 0, 0, 0), (.getfield 23, 6, 2, 2), (.getfield 150, 2, 0, 2), (.iload_n 1, 1, 0, 0), (.aaload, 0, 0, 0), (.iload 4, 4, 0, 0), (.putfield 185, 3, 1, 0), (.aload_n 0, 0, 0, 0), (.getfield 23, 6, 2, 2), (.bipush 20, 20, 0, 0), (.iconst 0, 0, 0, 0), (.invokevirtual 166, 22, 3, 3), (.aload_n 0, 0, 0, 0), (.getfield 23, 6, 2, 2), (.invokevirtual 204, 29, 1, 3), (.istore 5, 5, 0, 0), (.iload 5, 5, 0, 0), (.iload_n 3, 3, 0, 0), (.if_icmp .ge 9, 84, 0, 0), (.iload 4, 4, 0, 0), (.istore_n 2, 2, 0, 0), (.iload 5, 5, 0, 0), (.istore_n 3, 3, 0, 0), (.iinc 4 1, 1, 4, 0), (.goto (-66), 21, 0, 0)]
def bo_77_84 : List ZO := [(.iinc 4 1, 1, 4, 0), (.goto (-66), 21, 0, 0)]
def bo_77_90 : List ZO := [(.iload_n 2, 2, 0, 0), (.ireturn, 0, 0, 0)]
def bk_77 : List (Nat × ZE) := [(0, false, [true, true, false, false, false, false], bo_77_0, 0), (13, false, [true, true, false, false, false, false], bo_77_13, 21), (21, true, [true, true, true, true, true, false], bo_77_21, 0), (84, false, [true, true, true, true, true, false], bo_77_84, 0), (90, false, [false, false, true, false, false, false], bo_77_90, 0)]
theorem ck_77 : z_chks 77 bk_77 [[280, 468], [], [281, 280, 395, 281, 207, 98, 281, 498, 281, 596], [], []] = true := by decide +kernel
theorem bf_77_0 : z_fd bk_77 0 = some (false, [true, true, false, false, false, false], bo_77_0, 0) := rfl
theorem bf_77_13 : z_fd bk_77 13 = some (false, [true, true, false, false, false, false], bo_77_13, 21) := rfl
theorem bf_77_21 : z_fd bk_77 21 = some (true, [true, true, true, true, true, false], bo_77_21, 0) := rfl
theorem bf_77_84 : z_fd bk_77 84 = some (false, [true, true, true, true, true, false], bo_77_84, 0) := rfl
theorem bf_77_90 : z_fd bk_77 90 = some (false, [false, false, true, false, false, false], bo_77_90, 0) := rfl
theorem cl_77 : z_mL 77 = 6 := by decide +kernel
theorem cz_77 : plainFor (z_my 77) = true ∧ ((z_rm 77).cells = 0 ∧ (z_rm 77).slots = 0) := by decide +kernel
-- 78 MP_judge
def bo_78_0 : List ZO := [(.iload_n 1, 1, 0, 0), (.iconst 1, 1, 0, 0), (.iconst 3, 3, 0, 0), (.invokestatic 52, 88, 3, 0), (.ifCond .eq 19, 25, 0, 0), (.lload_n 2, 2, 0, 0), (.lconst 0, 0, 0, 0), (.lcmp, 0, 0, 0), (.ifCond .lt 13, 25, 0, 0), (.lload_n 2, 2, 0, 0), (.iload_n 1, 1, 0, 0), (.invokestatic 207, 90, 2, 0), (.lconst 0, 0, 0, 0), (.lcmp, 0, 0, 0), (.ifCond .eq 6, 28, 0, 0), (.bipush (-2), 2, 0, 1), (.ireturn, 0, 0, 0)]
def bo_78_25 : List ZO := [(.bipush (-2), 2, 0, 1), (.ireturn, 0, 0, 0)]
def bo_78_28 : List ZO := [(.aload_n 0, 0, 0, 0), (.getfield 23, 6, 2, 2), (.aload_n 0, 0, 0, 0), (.getfield 19, 6, 1, 2), (.invokevirtual 68, 13, 2, 3), (.iconst 0, 0, 0, 0), (.istore 4, 4, 0, 0)]
def bo_78_42 : List ZO := [(.iload 4, 4, 0, 0), (.iload_n 1, 1, 0, 0), (.if_icmp .ge 38, 83, 0, 0), (.lload_n 2, 2, 0, 0), (.iload_n 1, 1, 0, 0), (.iconst 1, 1, 0, 0), (.isub, 0, 0, 0), (.iload 4, 4, 0, 0), (.isub, 0, 0, 0), (.invokestatic 207, 90, 2, 0), (.ldc2_w 211, 100000, 0, 0), (.lrem, 0, 0, 0), (.l2i, 0, 0, 0), (.istore 5, 5, 0, 0), (.aload_n 0, 0, 0, 0), (.iload 5, 5, 0, 0), (.invokevirtual 213, 91, 2, 7), (.ifCond .ne 6, 77, 0, 0), (.iload 4, 4, 0, 0), (.ireturn, 0, 0, 0)]
def bo_78_77 : List ZO := [(.iinc 4 1, 1, 4, 0), (.goto (-38), 42, 0, 0)]
def bo_78_83 : List ZO := [(.bipush (-9), 9, 0, 1), (.ireturn, 0, 0, 0)]
def bk_78 : List (Nat × ZE) := [(0, false, [true, true, true, false, false, false], bo_78_0, 0), (25, false, [false, false, false, false, false, false], bo_78_25, 0), (28, false, [true, true, true, false, false, false], bo_78_28, 42), (42, true, [true, true, true, false, true, false], bo_78_42, 0), (77, false, [true, true, true, false, true, false], bo_78_77, 0), (83, false, [false, false, false, false, false, false], bo_78_83, 0)]
theorem ck_78 : z_chks 78 bk_78 [[308, 610], [], [281, 280, 395], [610, 613, 614], [], []] = true := by decide +kernel
theorem bf_78_0 : z_fd bk_78 0 = some (false, [true, true, true, false, false, false], bo_78_0, 0) := rfl
theorem bf_78_25 : z_fd bk_78 25 = some (false, [false, false, false, false, false, false], bo_78_25, 0) := rfl
theorem bf_78_28 : z_fd bk_78 28 = some (false, [true, true, true, false, false, false], bo_78_28, 42) := rfl
theorem bf_78_42 : z_fd bk_78 42 = some (true, [true, true, true, false, true, false], bo_78_42, 0) := rfl
theorem bf_78_77 : z_fd bk_78 77 = some (false, [true, true, true, false, true, false], bo_78_77, 0) := rfl
theorem bf_78_83 : z_fd bk_78 83 = some (false, [false, false, false, false, false, false], bo_78_83, 0) := rfl
theorem cl_78 : z_mL 78 = 6 := by decide +kernel
theorem cz_78 : plainFor (z_my 78) = true ∧ ((z_rm 78).cells = 0 ∧ (z_rm 78).slots = 0) := by decide +kernel
-- 79 MP_see
def bo_79_0 : List ZO := [(.aload_n 0, 0, 0, 0), (.getfield 19, 6, 1, 2), (.iload_n 1, 1, 0, 0), (.invokevirtual 105, 14, 2, 3), (.ifCond .ne 5, 13, 0, 0), (.iconst (-1), 1, 0, 1), (.ireturn, 0, 0, 0)]
theorem cb_79_0 : z_chk 79 bo_79_0 0 0 [280, 443] = true := by decide +kernel
def bo_79_13 : List ZO := [(.iload_n 2, 2, 0, 0), (.iconst 0, 0, 0, 0), (.bipush 20, 20, 0, 0), (.invokestatic 52, 88, 3, 0), (.ifCond .eq 12, 32, 0, 0), (.iload_n 3, 3, 0, 0), (.iconst 0, 0, 0, 0), (.iconst 1, 1, 0, 0), (.invokestatic 52, 88, 3, 0), (.ifCond .ne 6, 35, 0, 0), (.bipush (-2), 2, 0, 1), (.ireturn, 0, 0, 0)]
theorem cb_79_13 : z_chk 79 bo_79_13 13 0 [308, 308] = true := by decide +kernel
def bo_79_32 : List ZO := [(.bipush (-2), 2, 0, 1), (.ireturn, 0, 0, 0)]
theorem cb_79_32 : z_chk 79 bo_79_32 32 0 [] = true := by decide +kernel
def bo_79_35 : List ZO := [(.aload_n 0, 0, 0, 0), (.getfield 44, 6, 6, 2), (.getfield 104, 4, 3, 0), (.bipush 6, 6, 0, 0), (.if_icmp .lt 6, 50, 0, 0), (.bipush (-4), 4, 0, 1), (.ireturn, 0, 0, 0)]
theorem cb_79_35 : z_chk 79 bo_79_35 35 0 [285, 268] = true := by decide +kernel
def bo_79_50 : List ZO := [(.aload_n 0, 0, 0, 0), (.getfield 44, 6, 6, 2), (.iload_n 1, 1, 0, 0), (.iload_n 2, 2, 0, 0), (.iload_n 3, 3, 0, 0), (.iconst 1, 1, 0, 0), (.if_icmp .ne 7, 65, 0, 0), (.iconst 1, 1, 0, 0), (.goto 4, 66, 0, 0)]
theorem cb_79_50 : z_chk 79 bo_79_50 50 0 [285] = true := by decide +kernel
def bo_79_65 : List ZO := [(.iconst 0, 0, 0, 0), (.invokevirtual 216, 45, 4, 5), (.aload_n 0, 0, 0, 0), (.getfield 44, 6, 6, 2), (.getfield 104, 4, 3, 0), (.ireturn, 0, 0, 0)]
theorem cb_79_65 : z_chk 79 bo_79_65 65 0 [632, 285, 268] = true := by decide +kernel
def bo_79_66 : List ZO := [(.invokevirtual 216, 45, 4, 5), (.aload_n 0, 0, 0, 0), (.getfield 44, 6, 6, 2), (.getfield 104, 4, 3, 0), (.ireturn, 0, 0, 0)]
theorem cb_79_66 : z_chk 79 bo_79_66 66 0 [632, 285, 268] = true := by decide +kernel
def bk_79 : List (Nat × ZE) := [(0, false, [true, true, true, true], bo_79_0, 0), (13, false, [true, true, true, true], bo_79_13, 0), (32, false, [false, false, false, false], bo_79_32, 0), (35, false, [true, true, true, true], bo_79_35, 0), (50, false, [true, true, true, true], bo_79_50, 0), (65, false, [true, false, false, false], bo_79_65, 0), (66, false, [true, false, false, false], bo_79_66, 0)]
theorem ck_79 : z_chks 79 bk_79 [[280, 443], [308, 308], [], [285, 268], [285], [632, 285, 268], [632, 285, 268]] = true := z_chks_cons cb_79_0 (z_chks_cons cb_79_13 (z_chks_cons cb_79_32 (z_chks_cons cb_79_35 (z_chks_cons cb_79_50 (z_chks_cons cb_79_65 (z_chks_cons cb_79_66 (z_chks_nil)))))))
theorem bf_79_0 : z_fd bk_79 0 = some (false, [true, true, true, true], bo_79_0, 0) := rfl
theorem bf_79_13 : z_fd bk_79 13 = some (false, [true, true, true, true], bo_79_13, 0) := rfl
theorem bf_79_32 : z_fd bk_79 32 = some (false, [false, false, false, false], bo_79_32, 0) := rfl
theorem bf_79_35 : z_fd bk_79 35 = some (false, [true, true, true, true], bo_79_35, 0) := rfl
theorem bf_79_50 : z_fd bk_79 50 = some (false, [true, true, true, true], bo_79_50, 0) := rfl
theorem bf_79_65 : z_fd bk_79 65 = some (false, [true, false, false, false], bo_79_65, 0) := rfl
theorem bf_79_66 : z_fd bk_79 66 = some (false, [true, false, false, false], bo_79_66, 0) := rfl
theorem cl_79 : z_mL 79 = 4 := by decide +kernel
theorem cz_79 : plainFor (z_my 79) = true ∧ ((z_rm 79).cells = 0 ∧ (z_rm 79).slots = 0) := by decide +kernel
-- 80 MP_unsee
def bo_80_0 : List ZO := [(.aload_n 0, 0, 0, 0), (.getfield 44, 6, 6, 2), (.getfield 104, 4, 3, 0), (.istore_n 1, 1, 0, 0), (.aload_n 0, 0, 0, 0), (.getfield 44, 6, 6, 2), (.iconst 0, 0, 0, 0), (.putfield 104, 4, 3, 0), (.iload_n 1, 1, 0, 0), (.ireturn, 0, 0, 0)]
def bk_80 : List (Nat × ZE) := [(0, false, [true, false], bo_80_0, 0)]
theorem ck_80 : z_chks 80 bk_80 [[285, 268, 285, 268]] = true := by decide +kernel
theorem bf_80_0 : z_fd bk_80 0 = some (false, [true, false], bo_80_0, 0) := rfl
theorem cl_80 : z_mL 80 = 2 := by decide +kernel
theorem cz_80 : plainFor (z_my 80) = true ∧ ((z_rm 80).cells = 0 ∧ (z_rm 80).slots = 0) := by decide +kernel
-- 81 MP_which
def bo_81_0 : List ZO := [(.iconst 0, 0, 0, 0), (.istore_n 1, 1, 0, 0), (.iconst 0, 0, 0, 0), (.istore_n 2, 2, 0, 0)]
def bo_81_4 : List ZO := [(.iload_n 2, 2, 0, 0), (.aload_n 0, 0, 0, 0), (.getfield 19, 6, 1, 2), (.getfield 78, 2, 3, 0), (.if_icmp .ge 38, 50, 0, 0), (.aload_n 0, 0, 0, 0), (.getfield 19, 6, 1, 2), (.getfield 116, 2, 1, 2), (.iload_n 2, 2, 0, 0), (.aaload, 0, 0, 0), (.getfield 140, 1, 6, 3), (.ifCond .ne 17, 44, 0, 0), (.aload_n 0, 0, 0, 0), (.iload_n 2, 2, 0, 0), (.invokevirtual 220, 94, 2, 7), (.ifCond .eq 9, 44, 0, 0), (.iload_n 1, 1, 0, 0), (.iconst 1, 1, 0, 0), (.iload_n 2, 2, 0, 0), (.ishl, 0, 0, 0), (.ior, 0, 0, 0), (.istore_n 1, 1, 0, 0), (.iinc 2 1, 1, 2, 0), (.goto (-43), 4, 0, 0)]
def bo_81_44 : List ZO := [(.iinc 2 1, 1, 2, 0), (.goto (-43), 4, 0, 0)]
def bo_81_50 : List ZO := [(.iload_n 1, 1, 0, 0), (.ireturn, 0, 0, 0)]
def bk_81 : List (Nat × ZE) := [(0, false, [true, false, false], bo_81_0, 4), (4, true, [true, true, true], bo_81_4, 0), (44, false, [true, true, true], bo_81_44, 0), (50, false, [false, true, false], bo_81_50, 0)]
theorem ck_81 : z_chks 81 bk_81 [[], [280, 215, 280, 209, 189, 644], [], []] = true := by decide +kernel
theorem bf_81_0 : z_fd bk_81 0 = some (false, [true, false, false], bo_81_0, 4) := rfl
theorem bf_81_4 : z_fd bk_81 4 = some (true, [true, true, true], bo_81_4, 0) := rfl
theorem bf_81_44 : z_fd bk_81 44 = some (false, [true, true, true], bo_81_44, 0) := rfl
theorem bf_81_50 : z_fd bk_81 50 = some (false, [false, true, false], bo_81_50, 0) := rfl
theorem cl_81 : z_mL 81 = 3 := by decide +kernel
theorem cz_81 : plainFor (z_my 81) = true ∧ ((z_rm 81).cells = 0 ∧ (z_rm 81).slots = 0) := by decide +kernel
-- 82 MP_share
def bo_82_0 : List ZO := [(.aload_n 0, 0, 0, 0), (.getfield 19, 6, 1, 2), (.iload_n 1, 1, 0, 0), (.invokevirtual 182, 16, 2, 3), (.ifCond .ne 5, 13, 0, 0), (.iconst (-1), 1, 0, 1), (.ireturn, 0, 0, 0)]
theorem cb_82_0 : z_chk 82 bo_82_0 0 0 [280, 468] = true := by decide +kernel
def bo_82_13 : List ZO := [(.aload_n 0, 0, 0, 0), (.getfield 19, 6, 1, 2), (.iconst 0, 0, 0, 0), (.invokevirtual 81, 17, 2, 3), (.iconst 1, 1, 0, 0), (.iload_n 1, 1, 0, 0), (.ishl, 0, 0, 0), (.iconst (-1), 1, 0, 1), (.ixor, 0, 0, 0), (.iand, 0, 0, 0), (.istore_n 3, 3, 0, 0), (.iload_n 3, 3, 0, 0), (.invokestatic 170, 175, 1, 0), (.istore 4, 4, 0, 0), (.lconst 0, 0, 0, 0), (.lstore 5, 5, 0, 0), (.iconst 0, 0, 0, 0), (.istore 7, 7, 0, 0)]
theorem cb_82_13 : z_chk 82 bo_82_13 13 40 [280, 415, 535] = true := by decide +kernel
def bo_82_40 : List ZO := [(.iload 7, 7, 0, 0), (.sipush 256, 256, 0, 0), (.if_icmp .ge 78, 123, 0, 0), (.iload 7, 7, 0, 0), (.invokestatic 170, 175, 1, 0), (.istore 8, 8, 0, 0), (.iload 7, 7, 0, 0), (.iload_n 3, 3, 0, 0), (.iconst (-1), 1, 0, 1), (.ixor, 0, 0, 0), (.iand, 0, 0, 0), (.ifCond .ne 56, 117, 0, 0), (.iload 8, 8, 0, 0), (.iload 4, 4, 0, 0), (.if_icmp .gt 49, 117, 0, 0), (.getstatic 223, 0, 0, 0), (.iload 8, 8, 0, 0), (.iaload, 1, 0, 0), (.i2l, 0, 0, 0), (.getstatic 223, 0, 0, 0), (.iload 4, 4, 0, 0), (.iload 8, 8, 0, 0), (.isub, 0, 0, 0), (.iaload, 1, 0, 0), (.i2l, 0, 0, 0), (.lmul, 0, 0, 0), (.lstore 9, 9, 0, 0), (.lload 5, 5, 0, 0), (.lload 9, 9, 0, 0), (.aload_n 0, 0, 0, 0), (.iload 7, 7, 0, 0), (.iconst 1, 1, 0, 0), (.iload_n 1, 1, 0, 0), (.ishl, 0, 0, 0), (.ior, 0, 0, 0), (.invokevirtual 227, 95, 2, 7), (.aload_n 0, 0, 0, 0), (.iload 7, 7, 0, 0), (.invokevirtual 227, 95, 2, 7), (.isub, 0, 0, 0), (.i2l, 0, 0, 0), (.lmul, 0, 0, 0), (.ladd, 0, 0, 0), (.lstore 5, 5, 0, 0), (.iinc 7 1, 1, 7, 0), (.goto (-80), 40, 0, 0)]
theorem cb_82_40 : z_chk 82 bo_82_40 40 0 [535, 656, 656, 658, 658] = true := by decide +kernel
def bo_82_117 : List ZO := [(.iinc 7 1, 1, 7, 0), (.goto (-80), 40, 0, 0)]
theorem cb_82_117 : z_chk 82 bo_82_117 117 0 [] = true := by decide +kernel
def bo_82_123 : List ZO := [(.lload 5, 5, 0, 0), (.getstatic 223, 0, 0, 0), (.iload 4, 4, 0, 0), (.iconst 1, 1, 0, 0), (.iadd, 0, 0, 0), (.iaload, 1, 0, 0), (.i2l, 0, 0, 0), (.iload_n 2, 2, 0, 0), (.invokestatic 230, 98, 3, 0), (.ireturn, 0, 0, 0)]
theorem cb_82_123 : z_chk 82 bo_82_123 123 0 [656, 663] = true := by decide +kernel
def bk_82 : List (Nat × ZE) := [(0, false, [true, true, true, false, false, false, false, false, false, false, false], bo_82_0, 0), (13, false, [true, true, true, false, false, false, false, false, false, false, false], bo_82_13, 40), (40, true, [true, true, true, true, true, true, false, true, false, false, false], bo_82_40, 0), (117, false, [true, true, true, true, true, true, false, true, false, false, false], bo_82_117, 0), (123, false, [false, false, true, false, true, true, false, false, false, false, false], bo_82_123, 0)]
theorem ck_82 : z_chks 82 bk_82 [[280, 468], [280, 415, 535], [535, 656, 656, 658, 658], [], [656, 663]] = true := z_chks_cons cb_82_0 (z_chks_cons cb_82_13 (z_chks_cons cb_82_40 (z_chks_cons cb_82_117 (z_chks_cons cb_82_123 (z_chks_nil)))))
theorem bf_82_0 : z_fd bk_82 0 = some (false, [true, true, true, false, false, false, false, false, false, false, false], bo_82_0, 0) := rfl
theorem bf_82_13 : z_fd bk_82 13 = some (false, [true, true, true, false, false, false, false, false, false, false, false], bo_82_13, 40) := rfl
theorem bf_82_40 : z_fd bk_82 40 = some (true, [true, true, true, true, true, true, false, true, false, false, false], bo_82_40, 0) := rfl
theorem bf_82_117 : z_fd bk_82 117 = some (false, [true, true, true, true, true, true, false, true, false, false, false], bo_82_117, 0) := rfl
theorem bf_82_123 : z_fd bk_82 123 = some (false, [false, false, true, false, true, true, false, false, false, false, false], bo_82_123, 0) := rfl
theorem cl_82 : z_mL 82 = 11 := by decide +kernel
theorem cz_82 : plainFor (z_my 82) = true ∧ ((z_rm 82).cells = 0 ∧ (z_rm 82).slots = 0) := by decide +kernel
-- 83 MP_chance
def bo_83_0 : List ZO := [(.iload_n 1, 1, 0, 0), (.iconst 0, 0, 0, 0), (.bipush 10, 10, 0, 0), (.invokestatic 52, 88, 3, 0), (.ifCond .ne 6, 13, 0, 0), (.bipush (-2), 2, 0, 1), (.ireturn, 0, 0, 0)]
def bo_83_13 : List ZO := [(.iconst 1, 1, 0, 0), (.aload_n 0, 0, 0, 0), (.getfield 19, 6, 1, 2), (.getfield 78, 2, 3, 0), (.ishl, 0, 0, 0), (.iconst 1, 1, 0, 0), (.isub, 0, 0, 0), (.aload_n 0, 0, 0, 0), (.getfield 19, 6, 1, 2), (.invokevirtual 98, 18, 1, 3), (.iconst (-1), 1, 0, 1), (.ixor, 0, 0, 0), (.iand, 0, 0, 0), (.istore_n 3, 3, 0, 0), (.iload_n 3, 3, 0, 0), (.invokestatic 170, 175, 1, 0), (.istore 4, 4, 0, 0), (.lconst 0, 0, 0, 0), (.lstore 5, 5, 0, 0), (.iconst 0, 0, 0, 0), (.istore 7, 7, 0, 0)]
def bo_83_47 : List ZO := [(.iload 7, 7, 0, 0), (.sipush 512, 512, 0, 0), (.if_icmp .ge 69, 121, 0, 0), (.iload 7, 7, 0, 0), (.iload_n 3, 3, 0, 0), (.iconst (-1), 1, 0, 1), (.ixor, 0, 0, 0), (.iand, 0, 0, 0), (.ifCond .ne 54, 115, 0, 0), (.iload 7, 7, 0, 0), (.invokestatic 170, 175, 1, 0), (.istore 8, 8, 0, 0), (.iload_n 1, 1, 0, 0), (.iload 8, 8, 0, 0), (.invokestatic 234, 97, 2, 0), (.bipush 10, 10, 0, 0), (.iload_n 1, 1, 0, 0), (.isub, 0, 0, 0), (.iload 4, 4, 0, 0), (.iload 8, 8, 0, 0), (.isub, 0, 0, 0), (.invokestatic 234, 97, 2, 0), (.lmul, 0, 0, 0), (.lstore 9, 9, 0, 0), (.lload 9, 9, 0, 0), (.lconst 0, 0, 0, 0), (.lcmp, 0, 0, 0), (.ifCond .le 19, 115, 0, 0), (.aload_n 0, 0, 0, 0), (.iload 7, 7, 0, 0), (.invokevirtual 238, 96, 2, 7), (.ifCond .eq 10, 115, 0, 0), (.lload 5, 5, 0, 0), (.lload 9, 9, 0, 0), (.ladd, 0, 0, 0), (.lstore 5, 5, 0, 0), (.iinc 7 1, 1, 7, 0), (.goto (-71), 47, 0, 0)]
def bo_83_115 : List ZO := [(.iinc 7 1, 1, 7, 0), (.goto (-71), 47, 0, 0)]
def bo_83_121 : List ZO := [(.lload 5, 5, 0, 0), (.bipush 10, 10, 0, 0), (.iload 4, 4, 0, 0), (.invokestatic 234, 97, 2, 0), (.iload_n 2, 2, 0, 0), (.invokestatic 230, 98, 3, 0), (.ireturn, 0, 0, 0)]
def bk_83 : List (Nat × ZE) := [(0, false, [true, true, true, false, false, false, false, false, false, false, false], bo_83_0, 0), (13, false, [true, true, true, false, false, false, false, false, false, false, false], bo_83_13, 47), (47, true, [true, true, true, true, true, true, false, true, false, false, false], bo_83_47, 0), (115, false, [true, true, true, true, true, true, false, true, false, false, false], bo_83_115, 0), (121, false, [false, false, true, false, true, true, false, false, false, false, false], bo_83_121, 0)]
theorem ck_83 : z_chks 83 bk_83 [[308], [280, 215, 280, 435, 535], [535, 676, 676, 679], [], [676, 663]] = true := by decide +kernel
theorem bf_83_0 : z_fd bk_83 0 = some (false, [true, true, true, false, false, false, false, false, false, false, false], bo_83_0, 0) := rfl
theorem bf_83_13 : z_fd bk_83 13 = some (false, [true, true, true, false, false, false, false, false, false, false, false], bo_83_13, 47) := rfl
theorem bf_83_47 : z_fd bk_83 47 = some (true, [true, true, true, true, true, true, false, true, false, false, false], bo_83_47, 0) := rfl
theorem bf_83_115 : z_fd bk_83 115 = some (false, [true, true, true, true, true, true, false, true, false, false, false], bo_83_115, 0) := rfl
theorem bf_83_121 : z_fd bk_83 121 = some (false, [false, false, true, false, true, true, false, false, false, false, false], bo_83_121, 0) := rfl
theorem cl_83 : z_mL 83 = 11 := by decide +kernel
theorem cz_83 : plainFor (z_my 83) = true ∧ ((z_rm 83).cells = 0 ∧ (z_rm 83).slots = 0) := by decide +kernel
-- 84 MP_seed
def bo_84_0 : List ZO := [(.aload_n 0, 0, 0, 0), (.getfield 48, 6, 7, 1), (.lstore_n 3, 3, 0, 0), (.aload_n 0, 0, 0, 0), (.lload_n 1, 1, 0, 0), (.putfield 48, 6, 7, 1), (.lload_n 3, 3, 0, 0), (.lreturn, 0, 0, 0)]
def bk_84 : List (Nat × ZE) := [(0, false, [true, true, false, false, false], bo_84_0, 0)]
theorem ck_84 : z_chks 84 bk_84 [[286, 286]] = true := by decide +kernel
theorem bf_84_0 : z_fd bk_84 0 = some (false, [true, true, false, false, false], bo_84_0, 0) := rfl
theorem cl_84 : z_mL 84 = 5 := by decide +kernel
theorem cz_84 : plainFor (z_my 84) = true ∧ ((z_rm 84).cells = 0 ∧ (z_rm 84).slots = 0) := by decide +kernel
-- 85 MP_drawn
def bo_85_0 : List ZO := [(.iload_n 1, 1, 0, 0), (.iconst 1, 1, 0, 0), (.bipush 20, 20, 0, 0), (.invokestatic 52, 88, 3, 0), (.ifCond .ne 6, 13, 0, 0), (.bipush (-2), 2, 0, 1), (.ireturn, 0, 0, 0)]
theorem cb_85_0 : z_chk 85 bo_85_0 0 0 [308] = true := by decide +kernel
def bo_85_13 : List ZO := [(.aload_n 0, 0, 0, 0), (.getfield 23, 6, 2, 2), (.aload_n 0, 0, 0, 0), (.getfield 19, 6, 1, 2), (.invokevirtual 68, 13, 2, 3), (.iconst 0, 0, 0, 0), (.istore_n 2, 2, 0, 0), (.iconst 0, 0, 0, 0), (.istore_n 3, 3, 0, 0)]
theorem cb_85_13 : z_chk 85 bo_85_13 13 28 [281, 280, 395] = true := by decide +kernel
def bo_85_28 : List ZO := [(.iload_n 3, 3, 0, 0), (.iload_n 1, 1, 0, 0), (.if_icmp .ge 105, 135, 0, 0), (.aload_n 0, 0, 0, 0), (.aload_n 0, 0, 0, 0), (.getfield 48, 6, 7, 1), (.ldc2_w 241, 6364136223846793005, 0, 0), (.lmul, 0, 0, 0), (.ldc2_w 243, 1442695040888963407, 0, 0), (.ladd, 0, 0, 0), (.putfield 48, 6, 7, 1), (.aload_n 0, 0, 0, 0), (.getfield 23, 6, 2, 2), (.getfield 78, 2, 3, 0), (.ifCond .le 73, 129, 0, 0), (.aload_n 0, 0, 0, 0), (.getfield 48, 6, 7, 1), (.bipush 33, 33, 0, 0), (.lushr, 0, 0, 0), (.l2i, 0, 0, 0), (.istore 4, 4, 0, 0), (.iload 4, 4, 0, 0), (.bipush 16, 16, 0, 0), (.idiv, 0, 0, 0), (.iconst 2, 2, 0, 0), (.irem, 0, 0, 0), (.ifCond .ne 24, 100, 0, 0), (.aload_n 0, 0, 0, 0), (.getfield 23, 6, 2, 2), (.getfield 116, 2, 1, 2), (.iload 4, 4, 0, 0), (.aload_n 0, 0, 0, 0), (.getfield 23, 6, 2, 2), (.getfield 78, 2, 3, 0), (.irem, 0, 0, 0), (.aaload, 0, 0, 0), (.invokevirtual 175, 7, 1, 2), (.aload_n 0, 0, 0, 0), (.getfield 23, 6, 2, 2), (.iconst 0, 0, 0, 0), (.invokevirtual 195, 23, 2, 3), (.iload_n 2, 2, 0, 0), (.aload_n 0, 0, 0, 0), (.getfield 23, 6, 2, 2), (.getfield 75, 2, 2, 0), (.aload_n 0, 0, 0, 0), (.getfield 23, 6, 2, 2), (.invokevirtual 94, 27, 1, 3), (.invokestatic 170, 175, 1, 0), (.isub, 0, 0, 0), (.iadd, 0, 0, 0), (.istore_n 2, 2, 0, 0), (.iinc 3 1, 1, 3, 0), (.goto (-104), 28, 0, 0)]
theorem cb_85_28 : z_chk 85 bo_85_28 28 0 [286, 691, 692, 286, 281, 215, 286, 281, 209, 281, 215, 545, 281, 586, 281, 213, 281, 419, 535] = true := by decide +kernel
def bo_85_100 : List ZO := [(.aload_n 0, 0, 0, 0), (.getfield 23, 6, 2, 2), (.iconst 0, 0, 0, 0), (.invokevirtual 195, 23, 2, 3), (.iload_n 2, 2, 0, 0), (.aload_n 0, 0, 0, 0), (.getfield 23, 6, 2, 2), (.getfield 75, 2, 2, 0), (.aload_n 0, 0, 0, 0), (.getfield 23, 6, 2, 2), (.invokevirtual 94, 27, 1, 3), (.invokestatic 170, 175, 1, 0), (.isub, 0, 0, 0), (.iadd, 0, 0, 0), (.istore_n 2, 2, 0, 0), (.iinc 3 1, 1, 3, 0), (.goto (-104), 28, 0, 0)]
theorem cb_85_100 : z_chk 85 bo_85_100 100 0 [281, 586, 281, 213, 281, 419, 535] = true := by decide +kernel
def bo_85_129 : List ZO := [(.iinc 3 1, 1, 3, 0), (.goto (-104), 28, 0, 0)]
theorem cb_85_129 : z_chk 85 bo_85_129 129 0 [] = true := by decide +kernel
def bo_85_135 : List ZO := [(.iload_n 2, 2, 0, 0), (.ireturn, 0, 0, 0)]
theorem cb_85_135 : z_chk 85 bo_85_135 135 0 [] = true := by decide +kernel
def bk_85 : List (Nat × ZE) := [(0, false, [true, true, false, false, false], bo_85_0, 0), (13, false, [true, true, false, false, false], bo_85_13, 28), (28, true, [true, true, true, true, false], bo_85_28, 0), (100, false, [true, true, true, true, false], bo_85_100, 0), (129, false, [true, true, true, true, false], bo_85_129, 0), (135, false, [false, false, true, false, false], bo_85_135, 0)]
theorem ck_85 : z_chks 85 bk_85 [[308], [281, 280, 395], [286, 691, 692, 286, 281, 215, 286, 281, 209, 281, 215, 545, 281, 586, 281, 213, 281, 419, 535], [281, 586, 281, 213, 281, 419, 535], [], []] = true := z_chks_cons cb_85_0 (z_chks_cons cb_85_13 (z_chks_cons cb_85_28 (z_chks_cons cb_85_100 (z_chks_cons cb_85_129 (z_chks_cons cb_85_135 (z_chks_nil))))))
theorem bf_85_0 : z_fd bk_85 0 = some (false, [true, true, false, false, false], bo_85_0, 0) := rfl
theorem bf_85_13 : z_fd bk_85 13 = some (false, [true, true, false, false, false], bo_85_13, 28) := rfl
theorem bf_85_28 : z_fd bk_85 28 = some (true, [true, true, true, true, false], bo_85_28, 0) := rfl
theorem bf_85_100 : z_fd bk_85 100 = some (false, [true, true, true, true, false], bo_85_100, 0) := rfl
theorem bf_85_129 : z_fd bk_85 129 = some (false, [true, true, true, true, false], bo_85_129, 0) := rfl
theorem bf_85_135 : z_fd bk_85 135 = some (false, [false, false, true, false, false], bo_85_135, 0) := rfl
theorem cl_85 : z_mL 85 = 5 := by decide +kernel
theorem cz_85 : plainFor (z_my 85) = true ∧ ((z_rm 85).cells = 0 ∧ (z_rm 85).slots = 0) := by decide +kernel
-- 86 MP_keep
def bo_86_0 : List ZO := [(.iload_n 1, 1, 0, 0), (.iconst 0, 0, 0, 0), (.iconst 1, 1, 0, 0), (.invokestatic 52, 88, 3, 0), (.ifCond .ne 5, 11, 0, 0), (.iconst (-1), 1, 0, 1), (.ireturn, 0, 0, 0)]
def bo_86_11 : List ZO := [(.aload_n 0, 0, 0, 0), (.getfield 33, 6, 4, 2), (.iload_n 1, 1, 0, 0), (.aaload, 0, 0, 0), (.aload_n 0, 0, 0, 0), (.getfield 19, 6, 1, 2), (.invokevirtual 68, 13, 2, 3), (.aload_n 0, 0, 0, 0), (.getfield 37, 6, 5, 2), (.iload_n 1, 1, 0, 0), (.iconst 1, 1, 0, 0), (.bastore, 0, 0, 0), (.aload_n 0, 0, 0, 0), (.getfield 19, 6, 1, 2), (.getfield 91, 2, 6, 0), (.ireturn, 0, 0, 0)]
def bk_86 : List (Nat × ZE) := [(0, false, [true, true], bo_86_0, 0), (11, false, [true, true], bo_86_11, 0)]
theorem ck_86 : z_chks 86 bk_86 [[308], [283, 280, 395, 284, 280, 222]] = true := by decide +kernel
theorem bf_86_0 : z_fd bk_86 0 = some (false, [true, true], bo_86_0, 0) := rfl
theorem bf_86_11 : z_fd bk_86 11 = some (false, [true, true], bo_86_11, 0) := rfl
theorem cl_86 : z_mL 86 = 2 := by decide +kernel
theorem cz_86 : plainFor (z_my 86) = true ∧ ((z_rm 86).cells = 0 ∧ (z_rm 86).slots = 0) := by decide +kernel
-- 87 MP_again
def bo_87_0 : List ZO := [(.iload_n 1, 1, 0, 0), (.iconst 0, 0, 0, 0), (.iconst 1, 1, 0, 0), (.invokestatic 52, 88, 3, 0), (.ifCond .ne 5, 11, 0, 0), (.iconst (-1), 1, 0, 1), (.ireturn, 0, 0, 0)]
def bo_87_11 : List ZO := [(.aload_n 0, 0, 0, 0), (.getfield 37, 6, 5, 2), (.iload_n 1, 1, 0, 0), (.baload, 0, 0, 0), (.ifCond .ne 6, 23, 0, 0), (.bipush (-3), 3, 0, 1), (.ireturn, 0, 0, 0)]
def bo_87_23 : List ZO := [(.aload_n 0, 0, 0, 0), (.getfield 19, 6, 1, 2), (.aload_n 0, 0, 0, 0), (.getfield 33, 6, 4, 2), (.iload_n 1, 1, 0, 0), (.aaload, 0, 0, 0), (.invokevirtual 68, 13, 2, 3), (.aload_n 0, 0, 0, 0), (.getfield 29, 6, 3, 2), (.invokevirtual 72, 1, 1, 1), (.aload_n 0, 0, 0, 0), (.getfield 19, 6, 1, 2), (.getfield 91, 2, 6, 0), (.ireturn, 0, 0, 0)]
def bk_87 : List (Nat × ZE) := [(0, false, [true, true], bo_87_0, 0), (11, false, [true, true], bo_87_11, 0), (23, false, [true, true], bo_87_23, 0)]
theorem ck_87 : z_chks 87 bk_87 [[308], [284], [280, 283, 395, 282, 407, 280, 222]] = true := by decide +kernel
theorem bf_87_0 : z_fd bk_87 0 = some (false, [true, true], bo_87_0, 0) := rfl
theorem bf_87_11 : z_fd bk_87 11 = some (false, [true, true], bo_87_11, 0) := rfl
theorem bf_87_23 : z_fd bk_87 23 = some (false, [true, true], bo_87_23, 0) := rfl
theorem cl_87 : z_mL 87 = 2 := by decide +kernel
theorem cz_87 : plainFor (z_my 87) = true ∧ ((z_rm 87).cells = 0 ∧ (z_rm 87).slots = 0) := by decide +kernel
-- 88 MP_isWithin
def bo_88_0 : List ZO := [(.iload_n 0, 0, 0, 0), (.iload_n 1, 1, 0, 0), (.if_icmp .lt 12, 14, 0, 0), (.iload_n 0, 0, 0, 0), (.iload_n 2, 2, 0, 0), (.if_icmp .gt 7, 14, 0, 0), (.iconst 1, 1, 0, 0), (.goto 4, 15, 0, 0)]
def bo_88_14 : List ZO := [(.iconst 0, 0, 0, 0), (.ireturn, 1, 0, 0)]
def bo_88_15 : List ZO := [(.ireturn, 1, 0, 0)]
def bk_88 : List (Nat × ZE) := [(0, false, [true, true, true], bo_88_0, 0), (14, false, [false, false, false], bo_88_14, 0), (15, false, [false, false, false], bo_88_15, 0)]
theorem ck_88 : z_chks 88 bk_88 [[], [], []] = true := by decide +kernel
theorem bf_88_0 : z_fd bk_88 0 = some (false, [true, true, true], bo_88_0, 0) := rfl
theorem bf_88_14 : z_fd bk_88 14 = some (false, [false, false, false], bo_88_14, 0) := rfl
theorem bf_88_15 : z_fd bk_88 15 = some (false, [false, false, false], bo_88_15, 0) := rfl
theorem cl_88 : z_mL 88 = 3 := by decide +kernel
theorem cz_88 : plainFor (z_my 88) = true ∧ ((z_rm 88).cells = 0 ∧ (z_rm 88).slots = 0) := by decide +kernel
-- 89 MP_offerError
def bo_89_0 : List ZO := [(.aload_n 0, 0, 0, 0), (.getfield 19, 6, 1, 2), (.iload_n 1, 1, 0, 0), (.invokevirtual 105, 14, 2, 3), (.ifCond .eq 14, 22, 0, 0), (.aload_n 0, 0, 0, 0), (.getfield 19, 6, 1, 2), (.iload_n 2, 2, 0, 0), (.invokevirtual 105, 14, 2, 3), (.ifCond .ne 5, 24, 0, 0), (.iconst (-1), 1, 0, 1), (.ireturn, 0, 0, 0)]
def bo_89_22 : List ZO := [(.iconst (-1), 1, 0, 1), (.ireturn, 0, 0, 0)]
def bo_89_24 : List ZO := [(.iload_n 1, 1, 0, 0), (.iload_n 2, 2, 0, 0), (.if_icmp .eq 14, 40, 0, 0), (.aload_n 0, 0, 0, 0), (.getfield 19, 6, 1, 2), (.iload_n 2, 2, 0, 0), (.invokevirtual 182, 16, 2, 3), (.ifCond .eq 8, 45, 0, 0), (.bipush (-2), 2, 0, 1), (.goto 4, 46, 0, 0)]
def bo_89_40 : List ZO := [(.bipush (-2), 2, 0, 1), (.goto 4, 46, 0, 0)]
def bo_89_45 : List ZO := [(.iconst 0, 0, 0, 0), (.ireturn, 0, 0, 0)]
def bo_89_46 : List ZO := [(.ireturn, 0, 0, 0)]
def bk_89 : List (Nat × ZE) := [(0, false, [true, true, true], bo_89_0, 0), (22, false, [false, false, false], bo_89_22, 0), (24, false, [true, true, true], bo_89_24, 0), (40, false, [false, false, false], bo_89_40, 0), (45, false, [false, false, false], bo_89_45, 0), (46, false, [false, false, false], bo_89_46, 0)]
theorem ck_89 : z_chks 89 bk_89 [[280, 443, 280, 443], [], [280, 468], [], [], []] = true := by decide +kernel
theorem bf_89_0 : z_fd bk_89 0 = some (false, [true, true, true], bo_89_0, 0) := rfl
theorem bf_89_22 : z_fd bk_89 22 = some (false, [false, false, false], bo_89_22, 0) := rfl
theorem bf_89_24 : z_fd bk_89 24 = some (false, [true, true, true], bo_89_24, 0) := rfl
theorem bf_89_40 : z_fd bk_89 40 = some (false, [false, false, false], bo_89_40, 0) := rfl
theorem bf_89_45 : z_fd bk_89 45 = some (false, [false, false, false], bo_89_45, 0) := rfl
theorem bf_89_46 : z_fd bk_89 46 = some (false, [false, false, false], bo_89_46, 0) := rfl
theorem cl_89 : z_mL 89 = 3 := by decide +kernel
theorem cz_89 : plainFor (z_my 89) = true ∧ ((z_rm 89).cells = 0 ∧ (z_rm 89).slots = 0) := by decide +kernel
-- 90 MP_withoutEvents
def bo_90_0 : List ZO := [(.lload_n 0, 0, 0, 0), (.lstore_n 3, 3, 0, 0), (.iconst 0, 0, 0, 0), (.istore 5, 5, 0, 0)]
def bo_90_5 : List ZO := [(.iload 5, 5, 0, 0), (.iload_n 2, 2, 0, 0), (.if_icmp .ge 15, 23, 0, 0), (.lload_n 3, 3, 0, 0), (.ldc2_w 211, 100000, 0, 0), (.ldiv, 0, 0, 0), (.lstore_n 3, 3, 0, 0), (.iinc 5 1, 1, 5, 0), (.goto (-15), 5, 0, 0)]
def bo_90_23 : List ZO := [(.lload_n 3, 3, 0, 0), (.lreturn, 0, 0, 0)]
def bk_90 : List (Nat × ZE) := [(0, false, [true, false, true, false, false, false], bo_90_0, 5), (5, true, [false, false, true, true, false, true], bo_90_5, 0), (23, false, [false, false, false, true, false, false], bo_90_23, 0)]
theorem ck_90 : z_chks 90 bk_90 [[], [613], []] = true := by decide +kernel
theorem bf_90_0 : z_fd bk_90 0 = some (false, [true, false, true, false, false, false], bo_90_0, 5) := rfl
theorem bf_90_5 : z_fd bk_90 5 = some (true, [false, false, true, true, false, true], bo_90_5, 0) := rfl
theorem bf_90_23 : z_fd bk_90 23 = some (false, [false, false, false, true, false, false], bo_90_23, 0) := rfl
theorem cl_90 : z_mL 90 = 6 := by decide +kernel
theorem cz_90 : plainFor (z_my 90) = true ∧ ((z_rm 90).cells = 0 ∧ (z_rm 90).slots = 0) := by decide +kernel
-- 91 MP_happens
def bo_91_0 : List ZO := [(.iload_n 1, 1, 0, 0), (.sipush 10000, 10000, 0, 0), (.idiv, 0, 0, 0), (.istore_n 2, 2, 0, 0), (.iload_n 1, 1, 0, 0), (.sipush 1000, 1000, 0, 0), (.idiv, 0, 0, 0), (.bipush 10, 10, 0, 0), (.irem, 0, 0, 0), (.istore_n 3, 3, 0, 0), (.iload_n 1, 1, 0, 0), (.bipush 100, 100, 0, 0), (.idiv, 0, 0, 0), (.bipush 10, 10, 0, 0), (.irem, 0, 0, 0), (.istore 4, 4, 0, 0), (.iload_n 1, 1, 0, 0), (.bipush 100, 100, 0, 0), (.irem, 0, 0, 0), (.ifCond .eq 5, 33, 0, 0), (.iconst 0, 0, 0, 0), (.ireturn, 1, 0, 0)]
theorem cb_91_0 : z_chk 91 bo_91_0 0 0 [] = true := by decide +kernel
def bo_91_33 : List ZO := [(.iload_n 2, 2, 0, 0), (.tableswitch 244 1 7 #[42, 73, 92, 100, 145, 191, 221], 34, 1, 7)]
theorem cb_91_33 : z_chk 91 bo_91_33 33 0 [] = true := by decide +kernel
def bo_91_76 : List ZO := [(.aload_n 0, 0, 0, 0), (.getfield 23, 6, 2, 2), (.bipush 10, 10, 0, 0), (.iload_n 3, 3, 0, 0), (.imul, 0, 0, 0), (.iload 4, 4, 0, 0), (.iadd, 0, 0, 0), (.iconst 0, 0, 0, 0), (.invokevirtual 166, 22, 3, 3), (.bipush 10, 10, 0, 0), (.iload_n 3, 3, 0, 0), (.imul, 0, 0, 0), (.iload 4, 4, 0, 0), (.iadd, 0, 0, 0), (.ifCond .le 7, 105, 0, 0), (.iconst 1, 1, 0, 0), (.goto 4, 106, 0, 0)]
theorem cb_91_76 : z_chk 91 bo_91_76 76 0 [281, 498] = true := by decide +kernel
def bo_91_105 : List ZO := [(.iconst 0, 0, 0, 0), (.ireturn, 1, 0, 0)]
theorem cb_91_105 : z_chk 91 bo_91_105 105 0 [] = true := by decide +kernel
def bo_91_106 : List ZO := [(.ireturn, 1, 0, 0)]
theorem cb_91_106 : z_chk 91 bo_91_106 106 0 [] = true := by decide +kernel
def bo_91_107 : List ZO := [(.iload 4, 4, 0, 0), (.ifCond .ne 15, 124, 0, 0), (.aload_n 0, 0, 0, 0), (.iload_n 3, 3, 0, 0), (.invokevirtual 245, 92, 2, 7), (.ifCond .eq 7, 124, 0, 0), (.iconst 1, 1, 0, 0), (.goto 4, 125, 0, 0)]
theorem cb_91_107 : z_chk 91 bo_91_107 107 0 [618] = true := by decide +kernel
def bo_91_124 : List ZO := [(.iconst 0, 0, 0, 0), (.ireturn, 1, 0, 0)]
theorem cb_91_124 : z_chk 91 bo_91_124 124 0 [] = true := by decide +kernel
def bo_91_125 : List ZO := [(.ireturn, 1, 0, 0)]
theorem cb_91_125 : z_chk 91 bo_91_125 125 0 [] = true := by decide +kernel
def bo_91_126 : List ZO := [(.aload_n 0, 0, 0, 0), (.iload_n 3, 3, 0, 0), (.iload 4, 4, 0, 0), (.invokevirtual 248, 93, 3, 7), (.ireturn, 1, 0, 0)]
theorem cb_91_126 : z_chk 91 bo_91_126 126 0 [622] = true := by decide +kernel
def bo_91_134 : List ZO := [(.aload_n 0, 0, 0, 0), (.getfield 23, 6, 2, 2), (.iload_n 3, 3, 0, 0), (.invokevirtual 105, 14, 2, 3), (.ifCond .eq 35, 177, 0, 0), (.iload 4, 4, 0, 0), (.iconst 1, 1, 0, 0), (.if_icmp .gt 29, 177, 0, 0), (.aload_n 0, 0, 0, 0), (.getfield 23, 6, 2, 2), (.iload_n 3, 3, 0, 0), (.invokevirtual 252, 26, 2, 3), (.iload 4, 4, 0, 0), (.iconst 1, 1, 0, 0), (.if_icmp .ne 7, 169, 0, 0), (.iconst 1, 1, 0, 0), (.goto 4, 170, 0, 0)]
theorem cb_91_134 : z_chk 91 bo_91_134 134 0 [281, 443, 281, 626] = true := by decide +kernel
def bo_91_169 : List ZO := [(.iconst 0, 0, 0, 0), (.if_icmp .ne 7, 177, 0, 0), (.iconst 1, 1, 0, 0), (.goto 4, 178, 0, 0)]
theorem cb_91_169 : z_chk 91 bo_91_169 169 0 [] = true := by decide +kernel
def bo_91_170 : List ZO := [(.if_icmp .ne 7, 177, 0, 0), (.iconst 1, 1, 0, 0), (.goto 4, 178, 0, 0)]
theorem cb_91_170 : z_chk 91 bo_91_170 170 0 [] = true := by decide +kernel
def bo_91_177 : List ZO := [(.iconst 0, 0, 0, 0), (.ireturn, 1, 0, 0)]
theorem cb_91_177 : z_chk 91 bo_91_177 177 0 [] = true := by decide +kernel
def bo_91_178 : List ZO := [(.ireturn, 1, 0, 0)]
theorem cb_91_178 : z_chk 91 bo_91_178 178 0 [] = true := by decide +kernel
def bo_91_179 : List ZO := [(.aload_n 0, 0, 0, 0), (.getfield 23, 6, 2, 2), (.iload_n 3, 3, 0, 0), (.invokevirtual 105, 14, 2, 3), (.ifCond .eq 36, 223, 0, 0), (.aload_n 0, 0, 0, 0), (.getfield 23, 6, 2, 2), (.iload 4, 4, 0, 0), (.invokevirtual 105, 14, 2, 3), (.ifCond .eq 24, 223, 0, 0), (.aload_n 0, 0, 0, 0), (.getfield 23, 6, 2, 2), (.getfield 150, 2, 0, 2), (.iload_n 3, 3, 0, 0), (.aaload, 0, 0, 0), (.getfield 201, 3, 4, 0), (.iload 4, 4, 0, 0), (.if_icmp .ne 7, 223, 0, 0), (.iconst 1, 1, 0, 0), (.goto 4, 224, 0, 0)]
theorem cb_91_179 : z_chk 91 bo_91_179 179 0 [281, 443, 281, 443, 281, 207, 108] = true := by decide +kernel
def bo_91_223 : List ZO := [(.iconst 0, 0, 0, 0), (.ireturn, 1, 0, 0)]
theorem cb_91_223 : z_chk 91 bo_91_223 223 0 [] = true := by decide +kernel
def bo_91_224 : List ZO := [(.ireturn, 1, 0, 0)]
theorem cb_91_224 : z_chk 91 bo_91_224 224 0 [] = true := by decide +kernel
def bo_91_225 : List ZO := [(.aload_n 0, 0, 0, 0), (.getfield 23, 6, 2, 2), (.iload_n 3, 3, 0, 0), (.invokevirtual 182, 16, 2, 3), (.ifCond .eq 20, 253, 0, 0), (.aload_n 0, 0, 0, 0), (.getfield 23, 6, 2, 2), (.iload_n 3, 3, 0, 0), (.invokevirtual 255, 28, 2, 3), (.iload 4, 4, 0, 0), (.if_icmp .ne 7, 253, 0, 0), (.iconst 1, 1, 0, 0), (.goto 4, 254, 0, 0)]
theorem cb_91_225 : z_chk 91 bo_91_225 225 0 [281, 468, 281, 627] = true := by decide +kernel
def bo_91_253 : List ZO := [(.iconst 0, 0, 0, 0), (.ireturn, 1, 0, 0)]
theorem cb_91_253 : z_chk 91 bo_91_253 253 0 [] = true := by decide +kernel
def bo_91_254 : List ZO := [(.ireturn, 1, 0, 0)]
theorem cb_91_254 : z_chk 91 bo_91_254 254 0 [] = true := by decide +kernel
def bo_91_255 : List ZO := [(.aload_n 0, 0, 0, 0), (.getfield 23, 6, 2, 2), (.getfield 88, 2, 5, 0), (.bipush 10, 10, 0, 0), (.iload_n 3, 3, 0, 0), (.imul, 0, 0, 0), (.iload 4, 4, 0, 0), (.iadd, 0, 0, 0), (.if_icmp .ne 7, 276, 0, 0), (.iconst 1, 1, 0, 0), (.goto 4, 277, 0, 0)]
theorem cb_91_255 : z_chk 91 bo_91_255 255 0 [281, 220] = true := by decide +kernel
def bo_91_276 : List ZO := [(.iconst 0, 0, 0, 0), (.ireturn, 1, 0, 0)]
theorem cb_91_276 : z_chk 91 bo_91_276 276 0 [] = true := by decide +kernel
def bo_91_277 : List ZO := [(.ireturn, 1, 0, 0)]
theorem cb_91_277 : z_chk 91 bo_91_277 277 0 [] = true := by decide +kernel
def bo_91_278 : List ZO := [(.iconst 0, 0, 0, 0), (.ireturn, 1, 0, 0)]
theorem cb_91_278 : z_chk 91 bo_91_278 278 0 [] = true := by decide +kernel
def bk_91 : List (Nat × ZE) := [(0, false, [true, true, false, false, false], bo_91_0, 0), (33, false, [true, false, true, true, true], bo_91_33, 0), (76, false, [true, false, false, true, true], bo_91_76, 0), (105, false, [false, false, false, false, false], bo_91_105, 0), (106, false, [false, false, false, false, false], bo_91_106, 0), (107, false, [true, false, false, true, true], bo_91_107, 0), (124, false, [false, false, false, false, false], bo_91_124, 0), (125, false, [false, false, false, false, false], bo_91_125, 0), (126, false, [true, false, false, true, true], bo_91_126, 0), (134, false, [true, false, false, true, true], bo_91_134, 0), (169, false, [false, false, false, false, false], bo_91_169, 0), (170, false, [false, false, false, false, false], bo_91_170, 0), (177, false, [false, false, false, false, false], bo_91_177, 0), (178, false, [false, false, false, false, false], bo_91_178, 0), (179, false, [true, false, false, true, true], bo_91_179, 0), (223, false, [false, false, false, false, false], bo_91_223, 0), (224, false, [false, false, false, false, false], bo_91_224, 0), (225, false, [true, false, false, true, true], bo_91_225, 0), (253, false, [false, false, false, false, false], bo_91_253, 0), (254, false, [false, false, false, false, false], bo_91_254, 0), (255, false, [true, false, false, true, true], bo_91_255, 0), (276, false, [false, false, false, false, false], bo_91_276, 0), (277, false, [false, false, false, false, false], bo_91_277, 0), (278, false, [false, false, false, false, false], bo_91_278, 0)]
theorem ck_91 : z_chks 91 bk_91 [[], [], [281, 498], [], [], [618], [], [], [622], [281, 443, 281, 626], [], [], [], [], [281, 443, 281, 443, 281, 207, 108], [], [], [281, 468, 281, 627], [], [], [281, 220], [], [], []] = true := z_chks_cons cb_91_0 (z_chks_cons cb_91_33 (z_chks_cons cb_91_76 (z_chks_cons cb_91_105 (z_chks_cons cb_91_106 (z_chks_cons cb_91_107 (z_chks_cons cb_91_124 (z_chks_cons cb_91_125 (z_chks_cons cb_91_126 (z_chks_cons cb_91_134 (z_chks_cons cb_91_169 (z_chks_cons cb_91_170 (z_chks_cons cb_91_177 (z_chks_cons cb_91_178 (z_chks_cons cb_91_179 (z_chks_cons cb_91_223 (z_chks_cons cb_91_224 (z_chks_cons cb_91_225 (z_chks_cons cb_91_253 (z_chks_cons cb_91_254 (z_chks_cons cb_91_255 (z_chks_cons cb_91_276 (z_chks_cons cb_91_277 (z_chks_cons cb_91_278 (z_chks_nil))))))))))))))))))))))))
theorem bf_91_0 : z_fd bk_91 0 = some (false, [true, true, false, false, false], bo_91_0, 0) := rfl
theorem bf_91_33 : z_fd bk_91 33 = some (false, [true, false, true, true, true], bo_91_33, 0) := rfl
theorem bf_91_76 : z_fd bk_91 76 = some (false, [true, false, false, true, true], bo_91_76, 0) := rfl
theorem bf_91_105 : z_fd bk_91 105 = some (false, [false, false, false, false, false], bo_91_105, 0) := rfl
theorem bf_91_106 : z_fd bk_91 106 = some (false, [false, false, false, false, false], bo_91_106, 0) := rfl
theorem bf_91_107 : z_fd bk_91 107 = some (false, [true, false, false, true, true], bo_91_107, 0) := rfl
theorem bf_91_124 : z_fd bk_91 124 = some (false, [false, false, false, false, false], bo_91_124, 0) := rfl
theorem bf_91_125 : z_fd bk_91 125 = some (false, [false, false, false, false, false], bo_91_125, 0) := rfl
theorem bf_91_126 : z_fd bk_91 126 = some (false, [true, false, false, true, true], bo_91_126, 0) := rfl
theorem bf_91_134 : z_fd bk_91 134 = some (false, [true, false, false, true, true], bo_91_134, 0) := rfl
theorem bf_91_169 : z_fd bk_91 169 = some (false, [false, false, false, false, false], bo_91_169, 0) := rfl
theorem bf_91_170 : z_fd bk_91 170 = some (false, [false, false, false, false, false], bo_91_170, 0) := rfl
theorem bf_91_177 : z_fd bk_91 177 = some (false, [false, false, false, false, false], bo_91_177, 0) := rfl
theorem bf_91_178 : z_fd bk_91 178 = some (false, [false, false, false, false, false], bo_91_178, 0) := rfl
theorem bf_91_179 : z_fd bk_91 179 = some (false, [true, false, false, true, true], bo_91_179, 0) := rfl
theorem bf_91_223 : z_fd bk_91 223 = some (false, [false, false, false, false, false], bo_91_223, 0) := rfl
theorem bf_91_224 : z_fd bk_91 224 = some (false, [false, false, false, false, false], bo_91_224, 0) := rfl
theorem bf_91_225 : z_fd bk_91 225 = some (false, [true, false, false, true, true], bo_91_225, 0) := rfl
theorem bf_91_253 : z_fd bk_91 253 = some (false, [false, false, false, false, false], bo_91_253, 0) := rfl
theorem bf_91_254 : z_fd bk_91 254 = some (false, [false, false, false, false, false], bo_91_254, 0) := rfl
theorem bf_91_255 : z_fd bk_91 255 = some (false, [true, false, false, true, true], bo_91_255, 0) := rfl
theorem bf_91_276 : z_fd bk_91 276 = some (false, [false, false, false, false, false], bo_91_276, 0) := rfl
theorem bf_91_277 : z_fd bk_91 277 = some (false, [false, false, false, false, false], bo_91_277, 0) := rfl
theorem bf_91_278 : z_fd bk_91 278 = some (false, [false, false, false, false, false], bo_91_278, 0) := rfl
theorem cl_91 : z_mL 91 = 5 := by decide +kernel
theorem cz_91 : plainFor (z_my 91) = true ∧ ((z_rm 91).cells = 0 ∧ (z_rm 91).slots = 0) := by decide +kernel
-- 92 MP_flipInTrial
def bo_92_0 : List ZO := [(.aload_n 0, 0, 0, 0), (.getfield 23, 6, 2, 2), (.iload_n 1, 1, 0, 0), (.invokevirtual 113, 15, 2, 3), (.ifCond .ne 5, 13, 0, 0), (.iconst 0, 0, 0, 0), (.ireturn, 1, 0, 0)]
def bo_92_13 : List ZO := [(.aload_n 0, 0, 0, 0), (.getfield 23, 6, 2, 2), (.getfield 116, 2, 1, 2), (.iload_n 1, 1, 0, 0), (.aaload, 0, 0, 0), (.invokevirtual 175, 7, 1, 2), (.iconst 1, 1, 0, 0), (.ireturn, 1, 0, 0)]
def bk_92 : List (Nat × ZE) := [(0, false, [true, true], bo_92_0, 0), (13, false, [true, true], bo_92_13, 0)]
theorem ck_92 : z_chks 92 bk_92 [[281, 456], [281, 209, 545]] = true := by decide +kernel
theorem bf_92_0 : z_fd bk_92 0 = some (false, [true, true], bo_92_0, 0) := rfl
theorem bf_92_13 : z_fd bk_92 13 = some (false, [true, true], bo_92_13, 0) := rfl
theorem cl_92 : z_mL 92 = 2 := by decide +kernel
theorem cz_92 : plainFor (z_my 92) = true ∧ ((z_rm 92).cells = 0 ∧ (z_rm 92).slots = 0) := by decide +kernel
-- 93 MP_setOffsetInTrial
def bo_93_0 : List ZO := [(.aload_n 0, 0, 0, 0), (.getfield 23, 6, 2, 2), (.iload_n 1, 1, 0, 0), (.invokevirtual 182, 16, 2, 3), (.ifCond .ne 5, 13, 0, 0), (.iconst 0, 0, 0, 0), (.ireturn, 1, 0, 0)]
def bo_93_13 : List ZO := [(.aload_n 0, 0, 0, 0), (.getfield 23, 6, 2, 2), (.getfield 150, 2, 0, 2), (.iload_n 1, 1, 0, 0), (.aaload, 0, 0, 0), (.iload_n 2, 2, 0, 0), (.putfield 185, 3, 1, 0), (.iconst 1, 1, 0, 0), (.ireturn, 1, 0, 0)]
def bk_93 : List (Nat × ZE) := [(0, false, [true, true, true], bo_93_0, 0), (13, false, [true, true, true], bo_93_13, 0)]
theorem ck_93 : z_chks 93 bk_93 [[281, 468], [281, 207, 98]] = true := by decide +kernel
theorem bf_93_0 : z_fd bk_93 0 = some (false, [true, true, true], bo_93_0, 0) := rfl
theorem bf_93_13 : z_fd bk_93 13 = some (false, [true, true, true], bo_93_13, 0) := rfl
theorem cl_93 : z_mL 93 = 3 := by decide +kernel
theorem cz_93 : plainFor (z_my 93) = true ∧ ((z_rm 93).cells = 0 ∧ (z_rm 93).slots = 0) := by decide +kernel
-- 94 MP_explainsAll
def bo_94_0 : List ZO := [(.aload_n 0, 0, 0, 0), (.getfield 23, 6, 2, 2), (.aload_n 0, 0, 0, 0), (.getfield 19, 6, 1, 2), (.invokevirtual 68, 13, 2, 3), (.aload_n 0, 0, 0, 0), (.getfield 23, 6, 2, 2), (.getfield 116, 2, 1, 2), (.iload_n 1, 1, 0, 0), (.aaload, 0, 0, 0), (.iconst 1, 1, 0, 0), (.putfield 140, 1, 6, 3), (.iconst 0, 0, 0, 0), (.istore_n 2, 2, 0, 0)]
def bo_94_26 : List ZO := [(.iload_n 2, 2, 0, 0), (.bipush 20, 20, 0, 0), (.if_icmp .gt 37, 66, 0, 0), (.aload_n 0, 0, 0, 0), (.getfield 44, 6, 6, 2), (.iload_n 2, 2, 0, 0), (.aload_n 0, 0, 0, 0), (.getfield 23, 6, 2, 2), (.invokevirtual 94, 27, 1, 3), (.invokevirtual 258, 46, 3, 5), (.ifCond .ne 5, 52, 0, 0), (.iconst 0, 0, 0, 0), (.ireturn, 1, 0, 0)]
def bo_94_52 : List ZO := [(.aload_n 0, 0, 0, 0), (.getfield 23, 6, 2, 2), (.iconst 0, 0, 0, 0), (.invokevirtual 195, 23, 2, 3), (.iinc 2 1, 1, 2, 0), (.goto (-37), 26, 0, 0)]
def bo_94_66 : List ZO := [(.iconst 1, 1, 0, 0), (.ireturn, 1, 0, 0)]
def bk_94 : List (Nat × ZE) := [(0, false, [true, true, false], bo_94_0, 26), (26, true, [true, false, true], bo_94_26, 0), (52, false, [true, false, true], bo_94_52, 0), (66, false, [false, false, false], bo_94_66, 0)]
theorem ck_94 : z_chks 94 bk_94 [[281, 280, 395, 281, 209, 189], [285, 281, 419, 648], [281, 586], []] = true := by decide +kernel
theorem bf_94_0 : z_fd bk_94 0 = some (false, [true, true, false], bo_94_0, 26) := rfl
theorem bf_94_26 : z_fd bk_94 26 = some (true, [true, false, true], bo_94_26, 0) := rfl
theorem bf_94_52 : z_fd bk_94 52 = some (false, [true, false, true], bo_94_52, 0) := rfl
theorem bf_94_66 : z_fd bk_94 66 = some (false, [false, false, false], bo_94_66, 0) := rfl
theorem cl_94 : z_mL 94 = 3 := by decide +kernel
theorem cz_94 : plainFor (z_my 94) = true ∧ ((z_rm 94).cells = 0 ∧ (z_rm 94).slots = 0) := by decide +kernel
-- 95 MP_worth
def bo_95_0 : List ZO := [(.aload_n 0, 0, 0, 0), (.getfield 23, 6, 2, 2), (.aload_n 0, 0, 0, 0), (.getfield 19, 6, 1, 2), (.invokevirtual 68, 13, 2, 3), (.aload_n 0, 0, 0, 0), (.getfield 23, 6, 2, 2), (.bipush 20, 20, 0, 0), (.aload_n 0, 0, 0, 0), (.getfield 23, 6, 2, 2), (.iconst 0, 0, 0, 0), (.invokevirtual 81, 17, 2, 3), (.iload_n 1, 1, 0, 0), (.iconst (-1), 1, 0, 1), (.ixor, 0, 0, 0), (.iand, 0, 0, 0), (.invokevirtual 166, 22, 3, 3), (.iconst 0, 0, 0, 0), (.istore_n 2, 2, 0, 0), (.iconst 0, 0, 0, 0), (.istore_n 3, 3, 0, 0)]
def bo_95_36 : List ZO := [(.iload_n 3, 3, 0, 0), (.aload_n 0, 0, 0, 0), (.getfield 23, 6, 2, 2), (.getfield 75, 2, 2, 0), (.if_icmp .ge 36, 80, 0, 0), (.aload_n 0, 0, 0, 0), (.getfield 23, 6, 2, 2), (.iload_n 3, 3, 0, 0), (.invokevirtual 261, 25, 2, 3), (.istore 4, 4, 0, 0), (.iload 4, 4, 0, 0), (.ifCond .lt 15, 74, 0, 0), (.iload_n 1, 1, 0, 0), (.iconst 1, 1, 0, 0), (.iload 4, 4, 0, 0), (.ishl, 0, 0, 0), (.iand, 0, 0, 0), (.ifCond .eq 6, 74, 0, 0), (.iinc 2 1, 1, 2, 0), (.iinc 3 1, 1, 3, 0), (.goto (-41), 36, 0, 0)]
def bo_95_74 : List ZO := [(.iinc 3 1, 1, 3, 0), (.goto (-41), 36, 0, 0)]
def bo_95_80 : List ZO := [(.iload_n 2, 2, 0, 0), (.ireturn, 0, 0, 0)]
def bk_95 : List (Nat × ZE) := [(0, false, [true, true, false, false, false], bo_95_0, 36), (36, true, [true, true, true, true, false], bo_95_36, 0), (74, false, [true, true, true, true, false], bo_95_74, 0), (80, false, [false, false, true, false, false], bo_95_80, 0)]
theorem ck_95 : z_chks 95 bk_95 [[281, 280, 395, 281, 281, 415, 498], [281, 213, 281, 662], [], []] = true := by decide +kernel
theorem bf_95_0 : z_fd bk_95 0 = some (false, [true, true, false, false, false], bo_95_0, 36) := rfl
theorem bf_95_36 : z_fd bk_95 36 = some (true, [true, true, true, true, false], bo_95_36, 0) := rfl
theorem bf_95_74 : z_fd bk_95 74 = some (false, [true, true, true, true, false], bo_95_74, 0) := rfl
theorem bf_95_80 : z_fd bk_95 80 = some (false, [false, false, true, false, false], bo_95_80, 0) := rfl
theorem cl_95 : z_mL 95 = 5 := by decide +kernel
theorem cz_95 : plainFor (z_my 95) = true ∧ ((z_rm 95).cells = 0 ∧ (z_rm 95).slots = 0) := by decide +kernel
-- 96 MP_reachesAllWithout
def bo_96_0 : List ZO := [(.aload_n 0, 0, 0, 0), (.getfield 23, 6, 2, 2), (.aload_n 0, 0, 0, 0), (.getfield 19, 6, 1, 2), (.invokevirtual 68, 13, 2, 3), (.iconst 0, 0, 0, 0), (.istore_n 2, 2, 0, 0)]
def bo_96_13 : List ZO := [(.iload_n 2, 2, 0, 0), (.aload_n 0, 0, 0, 0), (.getfield 23, 6, 2, 2), (.getfield 78, 2, 3, 0), (.if_icmp .ge 30, 51, 0, 0), (.iload_n 1, 1, 0, 0), (.iconst 1, 1, 0, 0), (.iload_n 2, 2, 0, 0), (.ishl, 0, 0, 0), (.iand, 0, 0, 0), (.ifCond .eq 16, 45, 0, 0), (.aload_n 0, 0, 0, 0), (.getfield 23, 6, 2, 2), (.getfield 116, 2, 1, 2), (.iload_n 2, 2, 0, 0), (.aaload, 0, 0, 0), (.iconst 1, 1, 0, 0), (.putfield 140, 1, 6, 3), (.iinc 2 1, 1, 2, 0), (.goto (-35), 13, 0, 0)]
def bo_96_45 : List ZO := [(.iinc 2 1, 1, 2, 0), (.goto (-35), 13, 0, 0)]
def bo_96_51 : List ZO := [(.aload_n 0, 0, 0, 0), (.getfield 23, 6, 2, 2), (.bipush 20, 20, 0, 0), (.iconst 0, 0, 0, 0), (.invokevirtual 166, 22, 3, 3), (.aload_n 0, 0, 0, 0), (.getfield 23, 6, 2, 2), (.invokevirtual 94, 27, 1, 3), (.invokestatic 170, 175, 1, 0), (.aload_n 0, 0, 0, 0), (.getfield 23, 6, 2, 2), (.getfield 75, 2, 2, 0), (.if_icmp .ne 7, 85, 0, 0), (.iconst 1, 1, 0, 0), (.goto 4, 86, 0, 0)]
def bo_96_85 : List ZO := [(.iconst 0, 0, 0, 0), (.ireturn, 1, 0, 0)]
def bo_96_86 : List ZO := [(.ireturn, 1, 0, 0)]
def bk_96 : List (Nat × ZE) := [(0, false, [true, true, false], bo_96_0, 13), (13, true, [true, true, true], bo_96_13, 0), (45, false, [true, true, true], bo_96_45, 0), (51, false, [true, false, false], bo_96_51, 0), (85, false, [false, false, false], bo_96_85, 0), (86, false, [false, false, false], bo_96_86, 0)]
theorem ck_96 : z_chks 96 bk_96 [[281, 280, 395], [281, 215, 281, 209, 189], [], [281, 498, 281, 419, 535, 281, 213], [], []] = true := by decide +kernel
theorem bf_96_0 : z_fd bk_96 0 = some (false, [true, true, false], bo_96_0, 13) := rfl
theorem bf_96_13 : z_fd bk_96 13 = some (true, [true, true, true], bo_96_13, 0) := rfl
theorem bf_96_45 : z_fd bk_96 45 = some (false, [true, true, true], bo_96_45, 0) := rfl
theorem bf_96_51 : z_fd bk_96 51 = some (false, [true, false, false], bo_96_51, 0) := rfl
theorem bf_96_85 : z_fd bk_96 85 = some (false, [false, false, false], bo_96_85, 0) := rfl
theorem bf_96_86 : z_fd bk_96 86 = some (false, [false, false, false], bo_96_86, 0) := rfl
theorem cl_96 : z_mL 96 = 3 := by decide +kernel
theorem cz_96 : plainFor (z_my 96) = true ∧ ((z_rm 96).cells = 0 ∧ (z_rm 96).slots = 0) := by decide +kernel
-- 97 MP_power
def bo_97_0 : List ZO := [(.lconst 1, 1, 0, 0), (.lstore_n 2, 2, 0, 0), (.iconst 0, 0, 0, 0), (.istore 4, 4, 0, 0)]
def bo_97_5 : List ZO := [(.iload 4, 4, 0, 0), (.iload_n 1, 1, 0, 0), (.if_icmp .ge 14, 22, 0, 0), (.lload_n 2, 2, 0, 0), (.iload_n 0, 0, 0, 0), (.i2l, 0, 0, 0), (.lmul, 0, 0, 0), (.lstore_n 2, 2, 0, 0), (.iinc 4 1, 1, 4, 0), (.goto (-14), 5, 0, 0)]
def bo_97_22 : List ZO := [(.lload_n 2, 2, 0, 0), (.lreturn, 0, 0, 0)]
def bk_97 : List (Nat × ZE) := [(0, false, [true, true, false, false, false], bo_97_0, 5), (5, true, [true, true, true, false, true], bo_97_5, 0), (22, false, [false, false, true, false, false], bo_97_22, 0)]
theorem ck_97 : z_chks 97 bk_97 [[], [], []] = true := by decide +kernel
theorem bf_97_0 : z_fd bk_97 0 = some (false, [true, true, false, false, false], bo_97_0, 5) := rfl
theorem bf_97_5 : z_fd bk_97 5 = some (true, [true, true, true, false, true], bo_97_5, 0) := rfl
theorem bf_97_22 : z_fd bk_97 22 = some (false, [false, false, true, false, false], bo_97_22, 0) := rfl
theorem cl_97 : z_mL 97 = 5 := by decide +kernel
theorem cz_97 : plainFor (z_my 97) = true ∧ ((z_rm 97).cells = 0 ∧ (z_rm 97).slots = 0) := by decide +kernel
-- 98 MP_inLowestTerms
def bo_98_0 : List ZO := [(.lload_n 0, 0, 0, 0), (.invokestatic 264, 176, 1, 0), (.lload_n 2, 2, 0, 0), (.invokestatic 270, 99, 2, 0), (.lstore 5, 5, 0, 0), (.lload 5, 5, 0, 0), (.lconst 1, 1, 0, 0), (.lcmp, 0, 0, 0), (.ifCond .ge 5, 19, 0, 0), (.iconst 0, 0, 0, 0), (.ireturn, 0, 0, 0)]
def bo_98_19 : List ZO := [(.iload 4, 4, 0, 0), (.ifCond .eq 7, 28, 0, 0), (.lload_n 0, 0, 0, 0), (.goto 4, 29, 0, 0)]
def bo_98_28 : List ZO := [(.lload_n 2, 2, 0, 0), (.lload 5, 5, 0, 0), (.ldiv, 0, 0, 0), (.l2i, 0, 0, 0), (.ireturn, 0, 0, 0)]
def bo_98_29 : List ZO := [(.lload 5, 5, 0, 0), (.ldiv, 0, 0, 0), (.l2i, 0, 0, 0), (.ireturn, 0, 0, 0)]
def bk_98 : List (Nat × ZE) := [(0, false, [true, false, true, false, true, false, false], bo_98_0, 0), (19, false, [true, false, true, false, true, true, false], bo_98_19, 0), (28, false, [false, false, true, false, false, true, false], bo_98_28, 0), (29, false, [false, false, false, false, false, true, false], bo_98_29, 0)]
theorem ck_98 : z_chks 98 bk_98 [[666, 669], [], [], []] = true := by decide +kernel
theorem bf_98_0 : z_fd bk_98 0 = some (false, [true, false, true, false, true, false, false], bo_98_0, 0) := rfl
theorem bf_98_19 : z_fd bk_98 19 = some (false, [true, false, true, false, true, true, false], bo_98_19, 0) := rfl
theorem bf_98_28 : z_fd bk_98 28 = some (false, [false, false, true, false, false, true, false], bo_98_28, 0) := rfl
theorem bf_98_29 : z_fd bk_98 29 = some (false, [false, false, false, false, false, true, false], bo_98_29, 0) := rfl
theorem cl_98 : z_mL 98 = 7 := by decide +kernel
theorem cz_98 : plainFor (z_my 98) = true ∧ ((z_rm 98).cells = 0 ∧ (z_rm 98).slots = 0) := by decide +kernel
-- 99 MP_greatestCommonDivisor
def bo_99_0 : List ZO := [(.lload_n 0, 0, 0, 0), (.lstore 4, 4, 0, 0), (.lload_n 2, 2, 0, 0), (.lstore 6, 6, 0, 0), (.iconst 0, 0, 0, 0), (.istore 8, 8, 0, 0)]
def bo_99_9 : List ZO := [(.iload 8, 8, 0, 0), (.sipush 200, 200, 0, 0), (.if_icmp .ge 31, 45, 0, 0), (.lload 6, 6, 0, 0), (.lconst 0, 0, 0, 0), (.lcmp, 0, 0, 0), (.ifCond .eq 24, 45, 0, 0), (.lload 4, 4, 0, 0), (.lload 6, 6, 0, 0), (.lrem, 0, 0, 0), (.lstore 9, 9, 0, 0), (.lload 6, 6, 0, 0), (.lstore 4, 4, 0, 0), (.lload 9, 9, 0, 0), (.lstore 6, 6, 0, 0), (.iinc 8 1, 1, 8, 0), (.goto (-33), 9, 0, 0)]
def bo_99_45 : List ZO := [(.lload 4, 4, 0, 0), (.lreturn, 0, 0, 0)]
def bk_99 : List (Nat × ZE) := [(0, false, [true, false, true, false, false, false, false, false, false, false, false], bo_99_0, 9), (9, true, [false, false, false, false, true, false, true, false, true, false, false], bo_99_9, 0), (45, false, [false, false, false, false, true, false, false, false, false, false, false], bo_99_45, 0)]
theorem ck_99 : z_chks 99 bk_99 [[], [], []] = true := by decide +kernel
theorem bf_99_0 : z_fd bk_99 0 = some (false, [true, false, true, false, false, false, false, false, false, false, false], bo_99_0, 9) := rfl
theorem bf_99_9 : z_fd bk_99 9 = some (true, [false, false, false, false, true, false, true, false, true, false, false], bo_99_9, 0) := rfl
theorem bf_99_45 : z_fd bk_99 45 = some (false, [false, false, false, false, true, false, false, false, false, false, false], bo_99_45, 0) := rfl
theorem cl_99 : z_mL 99 = 11 := by decide +kernel
theorem cz_99 : plainFor (z_my 99) = true ∧ ((z_rm 99).cells = 0 ∧ (z_rm 99).slots = 0) := by decide +kernel
end
section
/-! the code of the methods in blocks (written by wip/whole/gen08.py): (instruction, what it means) *, checked against the bytes -/
-- 100 Model_init
def bo_100_0 : List ZO := [(.aload_n 0, 0, 0, 0), (.invokespecial 1, 0, 1, 99), (.aload_n 0, 0, 0, 0), (.bipush 100, 100, 0, 0), (.newarray .int, 0, 0, 0), (.putfield 7, 7, 0, 2), (.aload_n 0, 0, 0, 0), (.bipush 8, 8, 0, 0), (.newarray .int, 0, 0, 0), (.putfield 13, 7, 3, 2), (.aload_n 0, 0, 0, 0), (.bipush 8, 8, 0, 0), (.newarray .int, 0, 0, 0), (.putfield 16, 7, 4, 2), (.aload_n 0, 0, 0, 0), (.bipush 8, 8, 0, 0), (.newarray .int, 0, 0, 0), (.putfield 19, 7, 5, 2), (.aload_n 0, 0, 0, 0), (.bipush 9, 9, 0, 0), (.newarray .int, 0, 0, 0), (.putfield 22, 7, 7, 2), (.aload_n 0, 0, 0, 0), (.bipush 9, 9, 0, 0), (.newarray .int, 0, 0, 0), (.putfield 25, 7, 8, 2), (.aload_n 0, 0, 0, 0), (.bipush 9, 9, 0, 0), (.newarray .int, 0, 0, 0), (.putfield 28, 7, 9, 2), (.aload_n 0, 0, 0, 0), (.bipush 78, 78, 0, 0), (.newarray .int, 0, 0, 0), (.putfield 31, 7, 10, 2), (.aload_n 0, 0, 0, 0), (.bipush 78, 78, 0, 0), (.newarray .int, 0, 0, 0), (.putfield 34, 7, 11, 2), (.aload_n 0, 0, 0, 0), (.bipush 78, 78, 0, 0), (.newarray .int, 0, 0, 0), (.putfield 37, 7, 12, 2), (.aload_n 0, 0, 0, 0), (.sipush 1092, 1092, 0, 0), (.newarray .int, 0, 0, 0), (.putfield 40, 7, 13, 2), (.aload_n 0, 0, 0, 0), (.sipush 156, 156, 0, 0), (.newarray .int, 0, 0, 0), (.putfield 43, 7, 16, 2), (.aload_n 0, 0, 0, 0), (.iconst 2, 2, 0, 0), (.newarray .boolean, 0, 0, 0), (.putfield 46, 7, 17, 2), (.aload_n 0, 0, 0, 0), (.bipush 6, 6, 0, 0), (.newarray .int, 0, 0, 0), (.putfield 50, 7, 18, 2), (.aload_n 0, 0, 0, 0), (.bipush 6, 6, 0, 0), (.newarray .int, 0, 0, 0), (.putfield 53, 7, 19, 2), (.aload_n 0, 0, 0, 0), (.bipush 6, 6, 0, 0), (.newarray .int, 0, 0, 0), (.putfield 56, 7, 20, 2), (.aload_n 0, 0, 0, 0), (.sipush 400, 400, 0, 0), (.newarray .int, 0, 0, 0), (.putfield 59, 7, 24, 2), (.aload_n 0, 0, 0, 0), (.sipush 256, 256, 0, 0), (.newarray .int, 0, 0, 0), (.putfield 62, 7, 25, 2), (.aload_n 0, 0, 0, 0), (.bipush 8, 8, 0, 0), (.newarray .int, 0, 0, 0), (.putfield 65, 7, 27, 2), (.aload_n 0, 0, 0, 0), (.bipush 8, 8, 0, 0), (.newarray .int, 0, 0, 0), (.putfield 68, 7, 28, 2), (.aload_n 0, 0, 0, 0), (.bipush 8, 8, 0, 0), (.newarray .int, 0, 0, 0), (.putfield 71, 7, 29, 2), (.aload_n 0, 0, 0, 0), (.bipush 8, 8, 0, 0), (.newarray .int, 0, 0, 0), (.putfield 74, 7, 30, 2), (.aload_n 0, 0, 0, 0), (.bipush 9, 9, 0, 0), (.newarray .int, 0, 0, 0), (.putfield 77, 7, 32, 2), (.aload_n 0, 0, 0, 0), (.bipush 9, 9, 0, 0), (.newarray .int, 0, 0, 0), (.putfield 80, 7, 33, 2), (.aload_n 0, 0, 0, 0), (.bipush 9, 9, 0, 0), (.newarray .int, 0, 0, 0), (.putfield 83, 7, 34, 2), (.aload_n 0, 0, 0, 0), (.bipush 9, 9, 0, 0), (.newarray .int, 0, 0, 0), (.putfield 86, 7, 35, 2), (.aload_n 0, 0, 0, 0), (.bipush 9, 9, 0, 0), (.newarray .int, 0, 0, 0), (.putfield 89, 7, 36, 2), (.aload_n 0, 0, 0, 0), (.sipush 255, 255, 0, 0), (.putfield 92, 7, 23, 0), (.aload_n 0, 0, 0, 0), (.invokevirtual 96, 101, 1, 8), (.return_, 0, 0, 0)]
theorem cb_100_0 : z_chk 100 bo_100_0 0 0 [706, 711, 714, 715, 716, 718, 719, 720, 721, 722, 723, 724, 727, 728, 729, 730, 731, 735, 736, 738, 739, 740, 741, 743, 744, 745, 746, 747, 734, 707] = true := by decide +kernel
def bk_100 : List (Nat × ZE) := [(0, false, [true], bo_100_0, 0)]
theorem ck_100 : z_chks 100 bk_100 [[706, 711, 714, 715, 716, 718, 719, 720, 721, 722, 723, 724, 727, 728, 729, 730, 731, 735, 736, 738, 739, 740, 741, 743, 744, 745, 746, 747, 734, 707]] = true := z_chks_cons cb_100_0 (z_chks_nil)
theorem bf_100_0 : z_fd bk_100 0 = some (false, [true], bo_100_0, 0) := rfl
theorem cl_100 : z_mL 100 = 1 := by decide +kernel
theorem cz_100 : plainFor (z_my 100) = true ∧ ((z_rm 100).cells = 27 ∧ (z_rm 100).slots = 2386) := by decide +kernel
-- 101 Model_fresh
def bo_101_0 : List ZO := [(.iconst 0, 0, 0, 0), (.istore_n 1, 1, 0, 0)]
def bo_101_2 : List ZO := [(.iload_n 1, 1, 0, 0), (.bipush 78, 78, 0, 0), (.if_icmp .ge 45, 50, 0, 0), (.aload_n 0, 0, 0, 0), (.getfield 31, 7, 10, 2), (.iload_n 1, 1, 0, 0), (.iload_n 1, 1, 0, 0), (.bipush 8, 8, 0, 0), (.if_icmp .ge 8, 24, 0, 0), (.bipush (-9), 9, 0, 1), (.goto 22, 43, 0, 0)]
def bo_101_24 : List ZO := [(.iload_n 1, 1, 0, 0), (.bipush 32, 32, 0, 0), (.if_icmp .lt 15, 42, 0, 0), (.iload_n 1, 1, 0, 0), (.bipush 40, 40, 0, 0), (.if_icmp .ge 9, 42, 0, 0), (.sipush 9999, 9999, 0, 0), (.goto 4, 43, 0, 0)]
def bo_101_42 : List ZO := [(.iconst 0, 0, 0, 0), (.iastore, 0, 0, 0), (.iinc 1 1, 1, 1, 0), (.goto (-45), 2, 0, 0)]
def bo_101_43 : List ZO := [(.iastore, 0, 0, 0), (.iinc 1 1, 1, 1, 0), (.goto (-45), 2, 0, 0)]
def bo_101_50 : List ZO := [(.return_, 0, 0, 0)]
def bk_101 : List (Nat × ZE) := [(0, false, [true, false], bo_101_0, 2), (2, true, [true, true], bo_101_2, 0), (24, false, [true, true], bo_101_24, 0), (42, false, [true, true], bo_101_42, 0), (43, false, [true, true], bo_101_43, 0), (50, false, [false, false], bo_101_50, 0)]
theorem ck_101 : z_chks 101 bk_101 [[], [721], [], [], [], []] = true := by decide +kernel
theorem bf_101_0 : z_fd bk_101 0 = some (false, [true, false], bo_101_0, 2) := rfl
theorem bf_101_2 : z_fd bk_101 2 = some (true, [true, true], bo_101_2, 0) := rfl
theorem bf_101_24 : z_fd bk_101 24 = some (false, [true, true], bo_101_24, 0) := rfl
theorem bf_101_42 : z_fd bk_101 42 = some (false, [true, true], bo_101_42, 0) := rfl
theorem bf_101_43 : z_fd bk_101 43 = some (false, [true, true], bo_101_43, 0) := rfl
theorem bf_101_50 : z_fd bk_101 50 = some (false, [false, false], bo_101_50, 0) := rfl
theorem cl_101 : z_mL 101 = 2 := by decide +kernel
theorem cz_101 : plainFor (z_my 101) = true ∧ ((z_rm 101).cells = 0 ∧ (z_rm 101).slots = 0) := by decide +kernel
-- 102 Model_copy
def bo_102_0 : List ZO := [(.iconst 0, 0, 0, 0), (.istore_n 2, 2, 0, 0)]
def bo_102_2 : List ZO := [(.iload_n 2, 2, 0, 0), (.bipush 78, 78, 0, 0), (.if_icmp .ge 15, 20, 0, 0), (.aload_n 1, 1, 0, 0), (.iload_n 2, 2, 0, 0), (.aload_n 0, 0, 0, 0), (.iload_n 2, 2, 0, 0), (.iaload, 0, 0, 0), (.iastore, 0, 0, 0), (.iinc 2 1, 1, 2, 0), (.goto (-15), 2, 0, 0)]
def bo_102_20 : List ZO := [(.return_, 0, 0, 0)]
def bk_102 : List (Nat × ZE) := [(0, false, [true, true, false], bo_102_0, 2), (2, true, [true, true, true], bo_102_2, 0), (20, false, [false, false, false], bo_102_20, 0)]
theorem ck_102 : z_chks 102 bk_102 [[], [], []] = true := by decide +kernel
theorem bf_102_0 : z_fd bk_102 0 = some (false, [true, true, false], bo_102_0, 2) := rfl
theorem bf_102_2 : z_fd bk_102 2 = some (true, [true, true, true], bo_102_2, 0) := rfl
theorem bf_102_20 : z_fd bk_102 20 = some (false, [false, false, false], bo_102_20, 0) := rfl
theorem cl_102 : z_mL 102 = 3 := by decide +kernel
theorem cz_102 : plainFor (z_my 102) = true ∧ ((z_rm 102).cells = 0 ∧ (z_rm 102).slots = 0) := by decide +kernel
-- 103 Model_in
def bo_103_0 : List ZO := [(.lload_n 0, 0, 0, 0), (.lload_n 2, 2, 0, 0), (.lcmp, 0, 0, 0), (.ifCond .lt 14, 17, 0, 0), (.lload_n 0, 0, 0, 0), (.lload 4, 4, 0, 0), (.lcmp, 0, 0, 0), (.ifCond .gt 7, 17, 0, 0), (.iconst 1, 1, 0, 0), (.goto 4, 18, 0, 0)]
def bo_103_17 : List ZO := [(.iconst 0, 0, 0, 0), (.ireturn, 1, 0, 0)]
def bo_103_18 : List ZO := [(.ireturn, 1, 0, 0)]
def bk_103 : List (Nat × ZE) := [(0, false, [true, false, true, false, true, false], bo_103_0, 0), (17, false, [false, false, false, false, false, false], bo_103_17, 0), (18, false, [false, false, false, false, false, false], bo_103_18, 0)]
theorem ck_103 : z_chks 103 bk_103 [[], [], []] = true := by decide +kernel
theorem bf_103_0 : z_fd bk_103 0 = some (false, [true, false, true, false, true, false], bo_103_0, 0) := rfl
theorem bf_103_17 : z_fd bk_103 17 = some (false, [false, false, false, false, false, false], bo_103_17, 0) := rfl
theorem bf_103_18 : z_fd bk_103 18 = some (false, [false, false, false, false, false, false], bo_103_18, 0) := rfl
theorem cl_103 : z_mL 103 = 6 := by decide +kernel
theorem cz_103 : plainFor (z_my 103) = true ∧ ((z_rm 103).cells = 0 ∧ (z_rm 103).slots = 0) := by decide +kernel
-- 104 Model_has
def bo_104_0 : List ZO := [(.iload_n 0, 0, 0, 0), (.iload_n 1, 1, 0, 0), (.ishr, 0, 0, 0), (.iconst 1, 1, 0, 0), (.iand, 0, 0, 0), (.iconst 1, 1, 0, 0), (.if_icmp .ne 7, 13, 0, 0), (.iconst 1, 1, 0, 0), (.goto 4, 14, 0, 0)]
def bo_104_13 : List ZO := [(.iconst 0, 0, 0, 0), (.ireturn, 1, 0, 0)]
def bo_104_14 : List ZO := [(.ireturn, 1, 0, 0)]
def bk_104 : List (Nat × ZE) := [(0, false, [true, true], bo_104_0, 0), (13, false, [false, false], bo_104_13, 0), (14, false, [false, false], bo_104_14, 0)]
theorem ck_104 : z_chks 104 bk_104 [[], [], []] = true := by decide +kernel
theorem bf_104_0 : z_fd bk_104 0 = some (false, [true, true], bo_104_0, 0) := rfl
theorem bf_104_13 : z_fd bk_104 13 = some (false, [false, false], bo_104_13, 0) := rfl
theorem bf_104_14 : z_fd bk_104 14 = some (false, [false, false], bo_104_14, 0) := rfl
theorem cl_104 : z_mL 104 = 2 := by decide +kernel
theorem cz_104 : plainFor (z_my 104) = true ∧ ((z_rm 104).cells = 0 ∧ (z_rm 104).slots = 0) := by decide +kernel
-- 105 Model_ones
def bo_105_0 : List ZO := [(.iconst 0, 0, 0, 0), (.istore_n 1, 1, 0, 0), (.iconst 0, 0, 0, 0), (.istore_n 2, 2, 0, 0)]
def bo_105_4 : List ZO := [(.iload_n 2, 2, 0, 0), (.bipush 9, 9, 0, 0), (.if_icmp .ge 17, 24, 0, 0), (.iload_n 1, 1, 0, 0), (.iload_n 0, 0, 0, 0), (.iload_n 2, 2, 0, 0), (.ishr, 0, 0, 0), (.iconst 1, 1, 0, 0), (.iand, 0, 0, 0), (.iadd, 0, 0, 0), (.istore_n 1, 1, 0, 0), (.iinc 2 1, 1, 2, 0), (.goto (-17), 4, 0, 0)]
def bo_105_24 : List ZO := [(.iload_n 1, 1, 0, 0), (.ireturn, 0, 0, 0)]
def bk_105 : List (Nat × ZE) := [(0, false, [true, false, false], bo_105_0, 4), (4, true, [true, true, true], bo_105_4, 0), (24, false, [false, true, false], bo_105_24, 0)]
theorem ck_105 : z_chks 105 bk_105 [[], [], []] = true := by decide +kernel
theorem bf_105_0 : z_fd bk_105 0 = some (false, [true, false, false], bo_105_0, 4) := rfl
theorem bf_105_4 : z_fd bk_105 4 = some (true, [true, true, true], bo_105_4, 0) := rfl
theorem bf_105_24 : z_fd bk_105 24 = some (false, [false, true, false], bo_105_24, 0) := rfl
theorem cl_105 : z_mL 105 = 3 := by decide +kernel
theorem cz_105 : plainFor (z_my 105) = true ∧ ((z_rm 105).cells = 0 ∧ (z_rm 105).slots = 0) := by decide +kernel
-- 106 Model_power
def bo_106_0 : List ZO := [(.iconst 1, 1, 0, 0), (.istore_n 2, 2, 0, 0), (.iconst 0, 0, 0, 0), (.istore_n 3, 3, 0, 0)]
def bo_106_4 : List ZO := [(.iload_n 3, 3, 0, 0), (.iload_n 1, 1, 0, 0), (.if_icmp .ge 13, 19, 0, 0), (.iload_n 2, 2, 0, 0), (.iload_n 0, 0, 0, 0), (.imul, 0, 0, 0), (.istore_n 2, 2, 0, 0), (.iinc 3 1, 1, 3, 0), (.goto (-12), 4, 0, 0)]
def bo_106_19 : List ZO := [(.iload_n 2, 2, 0, 0), (.ireturn, 0, 0, 0)]
def bk_106 : List (Nat × ZE) := [(0, false, [true, true, false, false], bo_106_0, 4), (4, true, [true, true, true, true], bo_106_4, 0), (19, false, [false, false, true, false], bo_106_19, 0)]
theorem ck_106 : z_chks 106 bk_106 [[], [], []] = true := by decide +kernel
theorem bf_106_0 : z_fd bk_106 0 = some (false, [true, true, false, false], bo_106_0, 4) := rfl
theorem bf_106_4 : z_fd bk_106 4 = some (true, [true, true, true, true], bo_106_4, 0) := rfl
theorem bf_106_19 : z_fd bk_106 19 = some (false, [false, false, true, false], bo_106_19, 0) := rfl
theorem cl_106 : z_mL 106 = 4 := by decide +kernel
theorem cz_106 : plainFor (z_my 106) = true ∧ ((z_rm 106).cells = 0 ∧ (z_rm 106).slots = 0) := by decide +kernel
-- 107 Model_factorial
def bo_107_0 : List ZO := [(.iconst 1, 1, 0, 0), (.istore_n 1, 1, 0, 0), (.iconst 2, 2, 0, 0), (.istore_n 2, 2, 0, 0)]
def bo_107_4 : List ZO := [(.iload_n 2, 2, 0, 0), (.iload_n 0, 0, 0, 0), (.if_icmp .gt 13, 19, 0, 0), (.iload_n 1, 1, 0, 0), (.iload_n 2, 2, 0, 0), (.imul, 0, 0, 0), (.istore_n 1, 1, 0, 0), (.iinc 2 1, 1, 2, 0), (.goto (-12), 4, 0, 0)]
def bo_107_19 : List ZO := [(.iload_n 1, 1, 0, 0), (.ireturn, 0, 0, 0)]
def bk_107 : List (Nat × ZE) := [(0, false, [true, false, false], bo_107_0, 4), (4, true, [true, true, true], bo_107_4, 0), (19, false, [false, true, false], bo_107_19, 0)]
theorem ck_107 : z_chks 107 bk_107 [[], [], []] = true := by decide +kernel
theorem bf_107_0 : z_fd bk_107 0 = some (false, [true, false, false], bo_107_0, 4) := rfl
theorem bf_107_4 : z_fd bk_107 4 = some (true, [true, true, true], bo_107_4, 0) := rfl
theorem bf_107_19 : z_fd bk_107 19 = some (false, [false, true, false], bo_107_19, 0) := rfl
theorem cl_107 : z_mL 107 = 3 := by decide +kernel
theorem cz_107 : plainFor (z_my 107) = true ∧ ((z_rm 107).cells = 0 ∧ (z_rm 107).slots = 0) := by decide +kernel
-- 108 Model_fraction
def bo_108_0 : List ZO := [(.lload_n 0, 0, 0, 0), (.lconst 0, 0, 0, 0), (.lcmp, 0, 0, 0), (.ifCond .ge 8, 11, 0, 0), (.lload_n 0, 0, 0, 0), (.lneg, 0, 0, 0), (.goto 4, 12, 0, 0)]
theorem cb_108_0 : z_chk 108 bo_108_0 0 0 [] = true := by decide +kernel
def bo_108_11 : List ZO := [(.lload_n 0, 0, 0, 0), (.lstore 5, 5, 0, 0), (.lload_n 2, 2, 0, 0), (.lstore 7, 7, 0, 0)]
theorem cb_108_11 : z_chk 108 bo_108_11 11 17 [] = true := by decide +kernel
def bo_108_12 : List ZO := [(.lstore 5, 5, 0, 0), (.lload_n 2, 2, 0, 0), (.lstore 7, 7, 0, 0)]
theorem cb_108_12 : z_chk 108 bo_108_12 12 17 [] = true := by decide +kernel
def bo_108_17 : List ZO := [(.lload 7, 7, 0, 0), (.lconst 0, 0, 0, 0), (.lcmp, 0, 0, 0), (.ifCond .eq 21, 42, 0, 0), (.lload 5, 5, 0, 0), (.lload 7, 7, 0, 0), (.lrem, 0, 0, 0), (.lstore 9, 9, 0, 0), (.lload 7, 7, 0, 0), (.lstore 5, 5, 0, 0), (.lload 9, 9, 0, 0), (.lstore 7, 7, 0, 0), (.goto (-22), 17, 0, 0)]
theorem cb_108_17 : z_chk 108 bo_108_17 17 0 [] = true := by decide +kernel
def bo_108_42 : List ZO := [(.iload 4, 4, 0, 0), (.ifCond .eq 10, 54, 0, 0), (.lload_n 0, 0, 0, 0), (.lload 5, 5, 0, 0), (.ldiv, 0, 0, 0), (.goto 7, 58, 0, 0)]
theorem cb_108_42 : z_chk 108 bo_108_42 42 0 [] = true := by decide +kernel
def bo_108_54 : List ZO := [(.lload_n 2, 2, 0, 0), (.lload 5, 5, 0, 0), (.ldiv, 0, 0, 0), (.l2i, 0, 0, 0), (.ireturn, 0, 0, 0)]
theorem cb_108_54 : z_chk 108 bo_108_54 54 0 [] = true := by decide +kernel
def bo_108_58 : List ZO := [(.l2i, 0, 0, 0), (.ireturn, 0, 0, 0)]
theorem cb_108_58 : z_chk 108 bo_108_58 58 0 [] = true := by decide +kernel
def bk_108 : List (Nat × ZE) := [(0, false, [true, false, true, false, true, false, false, false, false, false, false], bo_108_0, 0), (11, false, [true, false, true, false, true, false, false, false, false, false, false], bo_108_11, 17), (12, false, [true, false, true, false, true, false, false, false, false, false, false], bo_108_12, 17), (17, true, [true, false, true, false, true, true, false, true, false, false, false], bo_108_17, 0), (42, false, [true, false, true, false, true, true, false, false, false, false, false], bo_108_42, 0), (54, false, [false, false, true, false, false, true, false, false, false, false, false], bo_108_54, 0), (58, false, [false, false, false, false, false, false, false, false, false, false, false], bo_108_58, 0)]
theorem ck_108 : z_chks 108 bk_108 [[], [], [], [], [], [], []] = true := z_chks_cons cb_108_0 (z_chks_cons cb_108_11 (z_chks_cons cb_108_12 (z_chks_cons cb_108_17 (z_chks_cons cb_108_42 (z_chks_cons cb_108_54 (z_chks_cons cb_108_58 (z_chks_nil)))))))
theorem bf_108_0 : z_fd bk_108 0 = some (false, [true, false, true, false, true, false, false, false, false, false, false], bo_108_0, 0) := rfl
theorem bf_108_11 : z_fd bk_108 11 = some (false, [true, false, true, false, true, false, false, false, false, false, false], bo_108_11, 17) := rfl
theorem bf_108_12 : z_fd bk_108 12 = some (false, [true, false, true, false, true, false, false, false, false, false, false], bo_108_12, 17) := rfl
theorem bf_108_17 : z_fd bk_108 17 = some (true, [true, false, true, false, true, true, false, true, false, false, false], bo_108_17, 0) := rfl
theorem bf_108_42 : z_fd bk_108 42 = some (false, [true, false, true, false, true, true, false, false, false, false, false], bo_108_42, 0) := rfl
theorem bf_108_54 : z_fd bk_108 54 = some (false, [false, false, true, false, false, true, false, false, false, false, false], bo_108_54, 0) := rfl
theorem bf_108_58 : z_fd bk_108 58 = some (false, [false, false, false, false, false, false, false, false, false, false, false], bo_108_58, 0) := rfl
theorem cl_108 : z_mL 108 = 11 := by decide +kernel
theorem cz_108 : plainFor (z_my 108) = true ∧ ((z_rm 108).cells = 0 ∧ (z_rm 108).slots = 0) := by decide +kernel
-- 109 Model_isNode
def bo_109_0 : List ZO := [(.iload_n 1, 1, 0, 0), (.i2l, 0, 0, 0), (.lconst 0, 0, 0, 0), (.aload_n 0, 0, 0, 0), (.getfield 99, 7, 2, 0), (.iconst 1, 1, 0, 0), (.isub, 0, 0, 0), (.i2l, 0, 0, 0), (.invokestatic 102, 103, 3, 0), (.ireturn, 1, 0, 0)]
def bk_109 : List (Nat × ZE) := [(0, false, [true, true], bo_109_0, 0)]
theorem ck_109 : z_chks 109 bk_109 [[713, 837]] = true := by decide +kernel
theorem bf_109_0 : z_fd bk_109 0 = some (false, [true, true], bo_109_0, 0) := rfl
theorem cl_109 : z_mL 109 = 2 := by decide +kernel
theorem cz_109 : plainFor (z_my 109) = true ∧ ((z_rm 109).cells = 0 ∧ (z_rm 109).slots = 0) := by decide +kernel
-- 110 Model_isGateway
def bo_110_0 : List ZO := [(.aload_n 0, 0, 0, 0), (.iload_n 1, 1, 0, 0), (.invokevirtual 106, 109, 2, 8), (.ifCond .eq 16, 21, 0, 0), (.aload_n 0, 0, 0, 0), (.getfield 13, 7, 3, 2), (.iload_n 1, 1, 0, 0), (.iaload, 0, 0, 0), (.ifCond .ne 7, 21, 0, 0), (.iconst 1, 1, 0, 0), (.goto 4, 22, 0, 0)]
def bo_110_21 : List ZO := [(.iconst 0, 0, 0, 0), (.ireturn, 1, 0, 0)]
def bo_110_22 : List ZO := [(.ireturn, 1, 0, 0)]
def bk_110 : List (Nat × ZE) := [(0, false, [true, true], bo_110_0, 0), (21, false, [false, false], bo_110_21, 0), (22, false, [false, false], bo_110_22, 0)]
theorem ck_110 : z_chks 110 bk_110 [[916, 714], [], []] = true := by decide +kernel
theorem bf_110_0 : z_fd bk_110 0 = some (false, [true, true], bo_110_0, 0) := rfl
theorem bf_110_21 : z_fd bk_110 21 = some (false, [false, false], bo_110_21, 0) := rfl
theorem bf_110_22 : z_fd bk_110 22 = some (false, [false, false], bo_110_22, 0) := rfl
theorem cl_110 : z_mL 110 = 2 := by decide +kernel
theorem cz_110 : plainFor (z_my 110) = true ∧ ((z_rm 110).cells = 0 ∧ (z_rm 110).slots = 0) := by decide +kernel
-- 111 Model_isLink
def bo_111_0 : List ZO := [(.iload_n 1, 1, 0, 0), (.i2l, 0, 0, 0), (.lconst 0, 0, 0, 0), (.aload_n 0, 0, 0, 0), (.getfield 110, 7, 6, 0), (.iconst 1, 1, 0, 0), (.isub, 0, 0, 0), (.i2l, 0, 0, 0), (.invokestatic 102, 103, 3, 0), (.ireturn, 1, 0, 0)]
def bk_111 : List (Nat × ZE) := [(0, false, [true, true], bo_111_0, 0)]
theorem ck_111 : z_chks 111 bk_111 [[717, 837]] = true := by decide +kernel
theorem bf_111_0 : z_fd bk_111 0 = some (false, [true, true], bo_111_0, 0) := rfl
theorem cl_111 : z_mL 111 = 2 := by decide +kernel
theorem cz_111 : plainFor (z_my 111) = true ∧ ((z_rm 111).cells = 0 ∧ (z_rm 111).slots = 0) := by decide +kernel
-- 112 Model_write
def bo_112_0 : List ZO := [(.iload_n 1, 1, 0, 0), (.i2l, 0, 0, 0), (.lconst 0, 0, 0, 0), (.ldc2_w 113, 255, 0, 0), (.invokestatic 102, 103, 3, 0), (.ifCond .ne 6, 15, 0, 0), (.bipush (-2), 2, 0, 1), (.ireturn, 0, 0, 0)]
def bo_112_15 : List ZO := [(.aload_n 0, 0, 0, 0), (.getfield 115, 7, 1, 0), (.bipush 100, 100, 0, 0), (.if_icmp .ne 6, 27, 0, 0), (.bipush (-4), 4, 0, 1), (.ireturn, 0, 0, 0)]
def bo_112_27 : List ZO := [(.aload_n 0, 0, 0, 0), (.getfield 7, 7, 0, 2), (.aload_n 0, 0, 0, 0), (.getfield 115, 7, 1, 0), (.iload_n 1, 1, 0, 0), (.iastore, 0, 0, 0), (.aload_n 0, 0, 0, 0), (.dup, 0, 0, 0), (.getfield 115, 7, 1, 0), (.iconst 1, 1, 0, 0), (.iadd, 0, 0, 0), (.putfield 115, 7, 1, 0), (.aload_n 0, 0, 0, 0), (.getfield 115, 7, 1, 0), (.ireturn, 0, 0, 0)]
def bk_112 : List (Nat × ZE) := [(0, false, [true, true], bo_112_0, 0), (15, false, [true, true], bo_112_15, 0), (27, false, [true, true], bo_112_27, 0)]
theorem ck_112 : z_chks 112 bk_112 [[836, 837], [712], [711, 712, 712, 712, 712]] = true := by decide +kernel
theorem bf_112_0 : z_fd bk_112 0 = some (false, [true, true], bo_112_0, 0) := rfl
theorem bf_112_15 : z_fd bk_112 15 = some (false, [true, true], bo_112_15, 0) := rfl
theorem bf_112_27 : z_fd bk_112 27 = some (false, [true, true], bo_112_27, 0) := rfl
theorem cl_112 : z_mL 112 = 2 := by decide +kernel
theorem cz_112 : plainFor (z_my 112) = true ∧ ((z_rm 112).cells = 0 ∧ (z_rm 112).slots = 0) := by decide +kernel
-- 113 Model_wipe
def bo_113_0 : List ZO := [(.aload_n 0, 0, 0, 0), (.getfield 115, 7, 1, 0), (.istore_n 1, 1, 0, 0), (.aload_n 0, 0, 0, 0), (.iconst 0, 0, 0, 0), (.putfield 115, 7, 1, 0), (.iload_n 1, 1, 0, 0), (.ireturn, 0, 0, 0)]
def bk_113 : List (Nat × ZE) := [(0, false, [true, false], bo_113_0, 0)]
theorem ck_113 : z_chks 113 bk_113 [[712, 712]] = true := by decide +kernel
theorem bf_113_0 : z_fd bk_113 0 = some (false, [true, false], bo_113_0, 0) := rfl
theorem cl_113 : z_mL 113 = 2 := by decide +kernel
theorem cz_113 : plainFor (z_my 113) = true ∧ ((z_rm 113).cells = 0 ∧ (z_rm 113).slots = 0) := by decide +kernel
-- 114 Model_areLinkedAsRead
def bo_114_0 : List ZO := [(.iconst 0, 0, 0, 0), (.istore_n 3, 3, 0, 0), (.iconst 0, 0, 0, 0), (.istore 4, 4, 0, 0)]
theorem cb_114_0 : z_chk 114 bo_114_0 0 5 [] = true := by decide +kernel
def bo_114_5 : List ZO := [(.iload 4, 4, 0, 0), (.aload_n 0, 0, 0, 0), (.getfield 118, 7, 31, 0), (.if_icmp .ge 63, 74, 0, 0), (.iload_n 3, 3, 0, 0), (.ifCond .ne 47, 62, 0, 0), (.aload_n 0, 0, 0, 0), (.getfield 77, 7, 32, 2), (.iload 4, 4, 0, 0), (.iaload, 0, 0, 0), (.iload_n 1, 1, 0, 0), (.if_icmp .ne 14, 40, 0, 0), (.aload_n 0, 0, 0, 0), (.getfield 80, 7, 33, 2), (.iload 4, 4, 0, 0), (.iaload, 0, 0, 0), (.iload_n 2, 2, 0, 0), (.if_icmp .eq 25, 62, 0, 0), (.aload_n 0, 0, 0, 0), (.getfield 77, 7, 32, 2), (.iload 4, 4, 0, 0), (.iaload, 0, 0, 0), (.iload_n 2, 2, 0, 0), (.if_icmp .ne 18, 66, 0, 0), (.aload_n 0, 0, 0, 0), (.getfield 80, 7, 33, 2), (.iload 4, 4, 0, 0), (.iaload, 0, 0, 0), (.iload_n 1, 1, 0, 0), (.if_icmp .ne 7, 66, 0, 0), (.iconst 1, 1, 0, 0), (.goto 4, 67, 0, 0)]
theorem cb_114_5 : z_chk 114 bo_114_5 5 0 [742, 743, 744, 743, 744] = true := by decide +kernel
def bo_114_40 : List ZO := [(.aload_n 0, 0, 0, 0), (.getfield 77, 7, 32, 2), (.iload 4, 4, 0, 0), (.iaload, 0, 0, 0), (.iload_n 2, 2, 0, 0), (.if_icmp .ne 18, 66, 0, 0), (.aload_n 0, 0, 0, 0), (.getfield 80, 7, 33, 2), (.iload 4, 4, 0, 0), (.iaload, 0, 0, 0), (.iload_n 1, 1, 0, 0), (.if_icmp .ne 7, 66, 0, 0), (.iconst 1, 1, 0, 0), (.goto 4, 67, 0, 0)]
theorem cb_114_40 : z_chk 114 bo_114_40 40 0 [743, 744] = true := by decide +kernel
def bo_114_62 : List ZO := [(.iconst 1, 1, 0, 0), (.goto 4, 67, 0, 0)]
theorem cb_114_62 : z_chk 114 bo_114_62 62 0 [] = true := by decide +kernel
def bo_114_66 : List ZO := [(.iconst 0, 0, 0, 0), (.istore_n 3, 3, 0, 0), (.iinc 4 1, 1, 4, 0), (.goto (-66), 5, 0, 0)]
theorem cb_114_66 : z_chk 114 bo_114_66 66 0 [] = true := by decide +kernel
def bo_114_67 : List ZO := [(.istore_n 3, 3, 0, 0), (.iinc 4 1, 1, 4, 0), (.goto (-66), 5, 0, 0)]
theorem cb_114_67 : z_chk 114 bo_114_67 67 0 [] = true := by decide +kernel
def bo_114_74 : List ZO := [(.iload_n 3, 3, 0, 0), (.ireturn, 1, 0, 0)]
theorem cb_114_74 : z_chk 114 bo_114_74 74 0 [] = true := by decide +kernel
def bk_114 : List (Nat × ZE) := [(0, false, [true, true, true, false, false], bo_114_0, 5), (5, true, [true, true, true, true, true], bo_114_5, 0), (40, false, [true, true, true, false, true], bo_114_40, 0), (62, false, [true, true, true, false, true], bo_114_62, 0), (66, false, [true, true, true, false, true], bo_114_66, 0), (67, false, [true, true, true, false, true], bo_114_67, 0), (74, false, [false, false, false, true, false], bo_114_74, 0)]
theorem ck_114 : z_chks 114 bk_114 [[], [742, 743, 744, 743, 744], [743, 744], [], [], [], []] = true := z_chks_cons cb_114_0 (z_chks_cons cb_114_5 (z_chks_cons cb_114_40 (z_chks_cons cb_114_62 (z_chks_cons cb_114_66 (z_chks_cons cb_114_67 (z_chks_cons cb_114_74 (z_chks_nil)))))))
theorem bf_114_0 : z_fd bk_114 0 = some (false, [true, true, true, false, false], bo_114_0, 5) := rfl
theorem bf_114_5 : z_fd bk_114 5 = some (true, [true, true, true, true, true], bo_114_5, 0) := rfl
theorem bf_114_40 : z_fd bk_114 40 = some (false, [true, true, true, false, true], bo_114_40, 0) := rfl
theorem bf_114_62 : z_fd bk_114 62 = some (false, [true, true, true, false, true], bo_114_62, 0) := rfl
theorem bf_114_66 : z_fd bk_114 66 = some (false, [true, true, true, false, true], bo_114_66, 0) := rfl
theorem bf_114_67 : z_fd bk_114 67 = some (false, [true, true, true, false, true], bo_114_67, 0) := rfl
theorem bf_114_74 : z_fd bk_114 74 = some (false, [false, false, false, true, false], bo_114_74, 0) := rfl
theorem cl_114 : z_mL 114 = 5 := by decide +kernel
theorem cz_114 : plainFor (z_my 114) = true ∧ ((z_rm 114).cells = 0 ∧ (z_rm 114).slots = 0) := by decide +kernel
-- 115 Model_isFullAsRead
def bo_115_0 : List ZO := [(.iconst 1, 1, 0, 0), (.istore_n 2, 2, 0, 0), (.iconst 0, 0, 0, 0), (.istore_n 3, 3, 0, 0)]
def bo_115_4 : List ZO := [(.iload_n 3, 3, 0, 0), (.aload_n 0, 0, 0, 0), (.getfield 121, 7, 26, 0), (.if_icmp .ge 33, 42, 0, 0), (.iload_n 2, 2, 0, 0), (.ifCond .eq 21, 34, 0, 0), (.iload_n 3, 3, 0, 0), (.iload_n 1, 1, 0, 0), (.if_icmp .eq 12, 30, 0, 0), (.aload_n 0, 0, 0, 0), (.iload_n 1, 1, 0, 0), (.iload_n 3, 3, 0, 0), (.invokevirtual 124, 114, 3, 8), (.ifCond .eq 7, 34, 0, 0), (.iconst 1, 1, 0, 0), (.goto 4, 35, 0, 0)]
def bo_115_30 : List ZO := [(.iconst 1, 1, 0, 0), (.goto 4, 35, 0, 0)]
def bo_115_34 : List ZO := [(.iconst 0, 0, 0, 0), (.istore_n 2, 2, 0, 0), (.iinc 3 1, 1, 3, 0), (.goto (-35), 4, 0, 0)]
def bo_115_35 : List ZO := [(.istore_n 2, 2, 0, 0), (.iinc 3 1, 1, 3, 0), (.goto (-35), 4, 0, 0)]
def bo_115_42 : List ZO := [(.iload_n 2, 2, 0, 0), (.ireturn, 1, 0, 0)]
def bk_115 : List (Nat × ZE) := [(0, false, [true, true, false, false], bo_115_0, 4), (4, true, [true, true, true, true], bo_115_4, 0), (30, false, [true, true, false, true], bo_115_30, 0), (34, false, [true, true, false, true], bo_115_34, 0), (35, false, [true, true, false, true], bo_115_35, 0), (42, false, [false, false, true, false], bo_115_42, 0)]
theorem ck_115 : z_chks 115 bk_115 [[], [737, 868], [], [], [], []] = true := by decide +kernel
theorem bf_115_0 : z_fd bk_115 0 = some (false, [true, true, false, false], bo_115_0, 4) := rfl
theorem bf_115_4 : z_fd bk_115 4 = some (true, [true, true, true, true], bo_115_4, 0) := rfl
theorem bf_115_30 : z_fd bk_115 30 = some (false, [true, true, false, true], bo_115_30, 0) := rfl
theorem bf_115_34 : z_fd bk_115 34 = some (false, [true, true, false, true], bo_115_34, 0) := rfl
theorem bf_115_35 : z_fd bk_115 35 = some (false, [true, true, false, true], bo_115_35, 0) := rfl
theorem bf_115_42 : z_fd bk_115 42 = some (false, [false, false, true, false], bo_115_42, 0) := rfl
theorem cl_115 : z_mL 115 = 4 := by decide +kernel
theorem cz_115 : plainFor (z_my 115) = true ∧ ((z_rm 115).cells = 0 ∧ (z_rm 115).slots = 0) := by decide +kernel
-- 116 Model_mayLink
def bo_116_0 : List ZO := [(.iconst 0, 0, 0, 0), (.istore_n 1, 1, 0, 0), (.iconst 0, 0, 0, 0), (.istore_n 2, 2, 0, 0)]
theorem cb_116_0 : z_chk 116 bo_116_0 0 4 [] = true := by decide +kernel
def bo_116_4 : List ZO := [(.iload_n 2, 2, 0, 0), (.aload_n 0, 0, 0, 0), (.getfield 121, 7, 26, 0), (.if_icmp .ge 27, 36, 0, 0), (.iload_n 1, 1, 0, 0), (.ifCond .ne 11, 24, 0, 0), (.aload_n 0, 0, 0, 0), (.iload_n 2, 2, 0, 0), (.invokevirtual 128, 115, 2, 8), (.ifCond .ne 7, 28, 0, 0), (.iconst 1, 1, 0, 0), (.goto 4, 29, 0, 0)]
theorem cb_116_4 : z_chk 116 bo_116_4 4 0 [737, 864] = true := by decide +kernel
def bo_116_24 : List ZO := [(.iconst 1, 1, 0, 0), (.goto 4, 29, 0, 0)]
theorem cb_116_24 : z_chk 116 bo_116_24 24 0 [] = true := by decide +kernel
def bo_116_28 : List ZO := [(.iconst 0, 0, 0, 0), (.istore_n 1, 1, 0, 0), (.iinc 2 1, 1, 2, 0), (.goto (-29), 4, 0, 0)]
theorem cb_116_28 : z_chk 116 bo_116_28 28 0 [] = true := by decide +kernel
def bo_116_29 : List ZO := [(.istore_n 1, 1, 0, 0), (.iinc 2 1, 1, 2, 0), (.goto (-29), 4, 0, 0)]
theorem cb_116_29 : z_chk 116 bo_116_29 29 0 [] = true := by decide +kernel
def bo_116_36 : List ZO := [(.iload_n 1, 1, 0, 0), (.ifCond .eq 16, 53, 0, 0), (.aload_n 0, 0, 0, 0), (.getfield 118, 7, 31, 0), (.bipush 9, 9, 0, 0), (.if_icmp .ge 7, 53, 0, 0), (.iconst 1, 1, 0, 0), (.goto 4, 54, 0, 0)]
theorem cb_116_36 : z_chk 116 bo_116_36 36 0 [742] = true := by decide +kernel
def bo_116_53 : List ZO := [(.iconst 0, 0, 0, 0), (.ireturn, 1, 0, 0)]
theorem cb_116_53 : z_chk 116 bo_116_53 53 0 [] = true := by decide +kernel
def bo_116_54 : List ZO := [(.ireturn, 1, 0, 0)]
theorem cb_116_54 : z_chk 116 bo_116_54 54 0 [] = true := by decide +kernel
def bk_116 : List (Nat × ZE) := [(0, false, [true, false, false], bo_116_0, 4), (4, true, [true, true, true], bo_116_4, 0), (24, false, [true, false, true], bo_116_24, 0), (28, false, [true, false, true], bo_116_28, 0), (29, false, [true, false, true], bo_116_29, 0), (36, false, [true, true, false], bo_116_36, 0), (53, false, [false, false, false], bo_116_53, 0), (54, false, [false, false, false], bo_116_54, 0)]
theorem ck_116 : z_chks 116 bk_116 [[], [737, 864], [], [], [], [742], [], []] = true := z_chks_cons cb_116_0 (z_chks_cons cb_116_4 (z_chks_cons cb_116_24 (z_chks_cons cb_116_28 (z_chks_cons cb_116_29 (z_chks_cons cb_116_36 (z_chks_cons cb_116_53 (z_chks_cons cb_116_54 (z_chks_nil))))))))
theorem bf_116_0 : z_fd bk_116 0 = some (false, [true, false, false], bo_116_0, 4) := rfl
theorem bf_116_4 : z_fd bk_116 4 = some (true, [true, true, true], bo_116_4, 0) := rfl
theorem bf_116_24 : z_fd bk_116 24 = some (false, [true, false, true], bo_116_24, 0) := rfl
theorem bf_116_28 : z_fd bk_116 28 = some (false, [true, false, true], bo_116_28, 0) := rfl
theorem bf_116_29 : z_fd bk_116 29 = some (false, [true, false, true], bo_116_29, 0) := rfl
theorem bf_116_36 : z_fd bk_116 36 = some (false, [true, true, false], bo_116_36, 0) := rfl
theorem bf_116_53 : z_fd bk_116 53 = some (false, [false, false, false], bo_116_53, 0) := rfl
theorem bf_116_54 : z_fd bk_116 54 = some (false, [false, false, false], bo_116_54, 0) := rfl
theorem cl_116 : z_mL 116 = 3 := by decide +kernel
theorem cz_116 : plainFor (z_my 116) = true ∧ ((z_rm 116).cells = 0 ∧ (z_rm 116).slots = 0) := by decide +kernel
-- 117 Model_takeSign
def bo_117_0 : List ZO := [(.aload_n 0, 0, 0, 0), (.iload_n 1, 1, 0, 0), (.putfield 131, 7, 38, 0), (.aload_n 0, 0, 0, 0), (.iconst 1, 1, 0, 0), (.putfield 134, 7, 39, 0), (.iload_n 1, 1, 0, 0), (.lookupswitch 129 #[(103, 41), (107, 124), (108, 41), (114, 56)], 11, 0, 0)]
theorem cb_117_0 : z_chk 117 bo_117_0 0 0 [749, 750] = true := by decide +kernel
def bo_117_52 : List ZO := [(.aload_n 0, 0, 0, 0), (.getfield 121, 7, 26, 0), (.bipush 8, 8, 0, 0), (.if_icmp .ge 7, 65, 0, 0), (.iconst 1, 1, 0, 0), (.goto 4, 66, 0, 0)]
theorem cb_117_52 : z_chk 117 bo_117_52 52 0 [737] = true := by decide +kernel
def bo_117_65 : List ZO := [(.iconst 0, 0, 0, 0), (.ireturn, 1, 0, 0)]
theorem cb_117_65 : z_chk 117 bo_117_65 65 0 [] = true := by decide +kernel
def bo_117_66 : List ZO := [(.ireturn, 1, 0, 0)]
theorem cb_117_66 : z_chk 117 bo_117_66 66 0 [] = true := by decide +kernel
def bo_117_67 : List ZO := [(.aload_n 0, 0, 0, 0), (.iconst 0, 0, 0, 0), (.putfield 134, 7, 39, 0), (.aload_n 0, 0, 0, 0), (.getfield 121, 7, 26, 0), (.bipush 8, 8, 0, 0), (.if_icmp .ne 5, 83, 0, 0), (.iconst 0, 0, 0, 0), (.ireturn, 1, 0, 0)]
theorem cb_117_67 : z_chk 117 bo_117_67 67 0 [750, 737] = true := by decide +kernel
def bo_117_83 : List ZO := [(.aload_n 0, 0, 0, 0), (.getfield 65, 7, 27, 2), (.aload_n 0, 0, 0, 0), (.getfield 121, 7, 26, 0), (.iconst 1, 1, 0, 0), (.iastore, 0, 0, 0), (.aload_n 0, 0, 0, 0), (.getfield 68, 7, 28, 2), (.aload_n 0, 0, 0, 0), (.getfield 121, 7, 26, 0), (.iconst 0, 0, 0, 0), (.iastore, 0, 0, 0), (.aload_n 0, 0, 0, 0), (.getfield 71, 7, 29, 2), (.aload_n 0, 0, 0, 0), (.getfield 121, 7, 26, 0), (.iconst 0, 0, 0, 0), (.iastore, 0, 0, 0), (.aload_n 0, 0, 0, 0), (.getfield 74, 7, 30, 2), (.aload_n 0, 0, 0, 0), (.getfield 121, 7, 26, 0), (.iconst 0, 0, 0, 0), (.iastore, 0, 0, 0), (.aload_n 0, 0, 0, 0), (.dup, 0, 0, 0), (.getfield 121, 7, 26, 0), (.iconst 1, 1, 0, 0), (.iadd, 0, 0, 0), (.putfield 121, 7, 26, 0), (.iconst 1, 1, 0, 0), (.ireturn, 1, 0, 0)]
theorem cb_117_83 : z_chk 117 bo_117_83 83 0 [738, 737, 739, 737, 740, 737, 741, 737, 737, 737] = true := by decide +kernel
def bo_117_135 : List ZO := [(.aload_n 0, 0, 0, 0), (.invokevirtual 137, 116, 1, 8), (.ireturn, 1, 0, 0)]
theorem cb_117_135 : z_chk 117 bo_117_135 135 0 [860] = true := by decide +kernel
def bo_117_140 : List ZO := [(.iconst 0, 0, 0, 0), (.ireturn, 1, 0, 0)]
theorem cb_117_140 : z_chk 117 bo_117_140 140 0 [] = true := by decide +kernel
def bk_117 : List (Nat × ZE) := [(0, false, [true, true], bo_117_0, 0), (52, false, [true, false], bo_117_52, 0), (65, false, [false, false], bo_117_65, 0), (66, false, [false, false], bo_117_66, 0), (67, false, [true, false], bo_117_67, 0), (83, false, [true, false], bo_117_83, 0), (135, false, [true, false], bo_117_135, 0), (140, false, [false, false], bo_117_140, 0)]
theorem ck_117 : z_chks 117 bk_117 [[749, 750], [737], [], [], [750, 737], [738, 737, 739, 737, 740, 737, 741, 737, 737, 737], [860], []] = true := z_chks_cons cb_117_0 (z_chks_cons cb_117_52 (z_chks_cons cb_117_65 (z_chks_cons cb_117_66 (z_chks_cons cb_117_67 (z_chks_cons cb_117_83 (z_chks_cons cb_117_135 (z_chks_cons cb_117_140 (z_chks_nil))))))))
theorem bf_117_0 : z_fd bk_117 0 = some (false, [true, true], bo_117_0, 0) := rfl
theorem bf_117_52 : z_fd bk_117 52 = some (false, [true, false], bo_117_52, 0) := rfl
theorem bf_117_65 : z_fd bk_117 65 = some (false, [false, false], bo_117_65, 0) := rfl
theorem bf_117_66 : z_fd bk_117 66 = some (false, [false, false], bo_117_66, 0) := rfl
theorem bf_117_67 : z_fd bk_117 67 = some (false, [true, false], bo_117_67, 0) := rfl
theorem bf_117_83 : z_fd bk_117 83 = some (false, [true, false], bo_117_83, 0) := rfl
theorem bf_117_135 : z_fd bk_117 135 = some (false, [true, false], bo_117_135, 0) := rfl
theorem bf_117_140 : z_fd bk_117 140 = some (false, [false, false], bo_117_140, 0) := rfl
theorem cl_117 : z_mL 117 = 2 := by decide +kernel
theorem cz_117 : plainFor (z_my 117) = true ∧ ((z_rm 117).cells = 0 ∧ (z_rm 117).slots = 0) := by decide +kernel
-- 118 Model_takeOfGateway
def bo_118_0 : List ZO := [(.aload_n 0, 0, 0, 0), (.iconst 0, 0, 0, 0), (.putfield 134, 7, 39, 0), (.iload_n 1, 1, 0, 0), (.i2l, 0, 0, 0), (.lconst 0, 0, 0, 0), (.ldc2_w 141, 9, 0, 0), (.invokestatic 102, 103, 3, 0), (.ifCond .ne 5, 19, 0, 0), (.iconst 0, 0, 0, 0), (.ireturn, 1, 0, 0)]
def bo_118_19 : List ZO := [(.aload_n 0, 0, 0, 0), (.getfield 65, 7, 27, 2), (.aload_n 0, 0, 0, 0), (.getfield 121, 7, 26, 0), (.iconst 0, 0, 0, 0), (.iastore, 0, 0, 0), (.aload_n 0, 0, 0, 0), (.getfield 68, 7, 28, 2), (.aload_n 0, 0, 0, 0), (.getfield 121, 7, 26, 0), (.iconst 0, 0, 0, 0), (.iastore, 0, 0, 0), (.aload_n 0, 0, 0, 0), (.getfield 71, 7, 29, 2), (.aload_n 0, 0, 0, 0), (.getfield 121, 7, 26, 0), (.iconst 0, 0, 0, 0), (.iastore, 0, 0, 0), (.aload_n 0, 0, 0, 0), (.getfield 74, 7, 30, 2), (.aload_n 0, 0, 0, 0), (.getfield 121, 7, 26, 0), (.iload_n 1, 1, 0, 0), (.iastore, 0, 0, 0), (.aload_n 0, 0, 0, 0), (.dup, 0, 0, 0), (.getfield 121, 7, 26, 0), (.iconst 1, 1, 0, 0), (.iadd, 0, 0, 0), (.putfield 121, 7, 26, 0), (.iconst 1, 1, 0, 0), (.ireturn, 1, 0, 0)]
def bk_118 : List (Nat × ZE) := [(0, false, [true, true], bo_118_0, 0), (19, false, [true, true], bo_118_19, 0)]
theorem ck_118 : z_chks 118 bk_118 [[750, 872, 837], [738, 737, 739, 737, 740, 737, 741, 737, 737, 737]] = true := by decide +kernel
theorem bf_118_0 : z_fd bk_118 0 = some (false, [true, true], bo_118_0, 0) := rfl
theorem bf_118_19 : z_fd bk_118 19 = some (false, [true, true], bo_118_19, 0) := rfl
theorem cl_118 : z_mL 118 = 2 := by decide +kernel
theorem cz_118 : plainFor (z_my 118) = true ∧ ((z_rm 118).cells = 0 ∧ (z_rm 118).slots = 0) := by decide +kernel
-- 119 Model_takeOfLeaf
def bo_119_0 : List ZO := [(.aload_n 0, 0, 0, 0), (.getfield 134, 7, 39, 0), (.iconst 1, 1, 0, 0), (.if_icmp .ne 28, 33, 0, 0), (.aload_n 0, 0, 0, 0), (.getfield 68, 7, 28, 2), (.aload_n 0, 0, 0, 0), (.getfield 121, 7, 26, 0), (.iload_n 1, 1, 0, 0), (.iastore, 0, 0, 0), (.aload_n 0, 0, 0, 0), (.iconst 2, 2, 0, 0), (.putfield 134, 7, 39, 0), (.iload_n 1, 1, 0, 0), (.i2l, 0, 0, 0), (.lconst 1, 1, 0, 0), (.ldc2_w 141, 9, 0, 0), (.invokestatic 102, 103, 3, 0), (.ireturn, 1, 0, 0)]
def bo_119_33 : List ZO := [(.aload_n 0, 0, 0, 0), (.iconst 0, 0, 0, 0), (.putfield 134, 7, 39, 0), (.iload_n 1, 1, 0, 0), (.i2l, 0, 0, 0), (.lconst 0, 0, 0, 0), (.aload_n 0, 0, 0, 0), (.getfield 68, 7, 28, 2), (.aload_n 0, 0, 0, 0), (.getfield 121, 7, 26, 0), (.iaload, 0, 0, 0), (.iconst 1, 1, 0, 0), (.isub, 0, 0, 0), (.i2l, 0, 0, 0), (.invokestatic 102, 103, 3, 0), (.ifCond .ne 5, 61, 0, 0), (.iconst 0, 0, 0, 0), (.ireturn, 1, 0, 0)]
def bo_119_61 : List ZO := [(.aload_n 0, 0, 0, 0), (.getfield 65, 7, 27, 2), (.aload_n 0, 0, 0, 0), (.getfield 121, 7, 26, 0), (.iconst 2, 2, 0, 0), (.iastore, 0, 0, 0), (.aload_n 0, 0, 0, 0), (.getfield 71, 7, 29, 2), (.aload_n 0, 0, 0, 0), (.getfield 121, 7, 26, 0), (.iload_n 1, 1, 0, 0), (.iastore, 0, 0, 0), (.aload_n 0, 0, 0, 0), (.getfield 74, 7, 30, 2), (.aload_n 0, 0, 0, 0), (.getfield 121, 7, 26, 0), (.iconst 0, 0, 0, 0), (.iastore, 0, 0, 0), (.aload_n 0, 0, 0, 0), (.dup, 0, 0, 0), (.getfield 121, 7, 26, 0), (.iconst 1, 1, 0, 0), (.iadd, 0, 0, 0), (.putfield 121, 7, 26, 0), (.iconst 1, 1, 0, 0), (.ireturn, 1, 0, 0)]
def bk_119 : List (Nat × ZE) := [(0, false, [true, true], bo_119_0, 0), (33, false, [true, true], bo_119_33, 0), (61, false, [true, true], bo_119_61, 0)]
theorem ck_119 : z_chks 119 bk_119 [[750, 739, 737, 750, 872, 837], [750, 739, 737, 837], [738, 737, 740, 737, 741, 737, 737, 737]] = true := by decide +kernel
theorem bf_119_0 : z_fd bk_119 0 = some (false, [true, true], bo_119_0, 0) := rfl
theorem bf_119_33 : z_fd bk_119 33 = some (false, [true, true], bo_119_33, 0) := rfl
theorem bf_119_61 : z_fd bk_119 61 = some (false, [true, true], bo_119_61, 0) := rfl
theorem cl_119 : z_mL 119 = 2 := by decide +kernel
theorem cz_119 : plainFor (z_my 119) = true ∧ ((z_rm 119).cells = 0 ∧ (z_rm 119).slots = 0) := by decide +kernel
-- 120 Model_takeOfLink
def bo_120_0 : List ZO := [(.aload_n 0, 0, 0, 0), (.getfield 118, 7, 31, 0), (.istore_n 2, 2, 0, 0), (.aload_n 0, 0, 0, 0), (.getfield 134, 7, 39, 0), (.tableswitch 175 1 4 #[31, 73, 131, 153], 9, 1, 4)]
theorem cb_120_0 : z_chk 120 bo_120_0 0 0 [742, 750] = true := by decide +kernel
def bo_120_40 : List ZO := [(.aload_n 0, 0, 0, 0), (.getfield 77, 7, 32, 2), (.iload_n 2, 2, 0, 0), (.iload_n 1, 1, 0, 0), (.iastore, 0, 0, 0), (.aload_n 0, 0, 0, 0), (.iconst 2, 2, 0, 0), (.putfield 134, 7, 39, 0), (.iload_n 1, 1, 0, 0), (.i2l, 0, 0, 0), (.lconst 0, 0, 0, 0), (.aload_n 0, 0, 0, 0), (.getfield 121, 7, 26, 0), (.iconst 1, 1, 0, 0), (.isub, 0, 0, 0), (.i2l, 0, 0, 0), (.invokestatic 102, 103, 3, 0), (.ifCond .eq 15, 80, 0, 0), (.aload_n 0, 0, 0, 0), (.iload_n 1, 1, 0, 0), (.invokevirtual 128, 115, 2, 8), (.ifCond .ne 7, 80, 0, 0), (.iconst 1, 1, 0, 0), (.goto 4, 81, 0, 0)]
theorem cb_120_40 : z_chk 120 bo_120_40 40 0 [743, 750, 737, 837, 864] = true := by decide +kernel
def bo_120_80 : List ZO := [(.iconst 0, 0, 0, 0), (.ireturn, 1, 0, 0)]
theorem cb_120_80 : z_chk 120 bo_120_80 80 0 [] = true := by decide +kernel
def bo_120_81 : List ZO := [(.ireturn, 1, 0, 0)]
theorem cb_120_81 : z_chk 120 bo_120_81 81 0 [] = true := by decide +kernel
def bo_120_82 : List ZO := [(.aload_n 0, 0, 0, 0), (.getfield 80, 7, 33, 2), (.iload_n 2, 2, 0, 0), (.iload_n 1, 1, 0, 0), (.iastore, 0, 0, 0), (.aload_n 0, 0, 0, 0), (.iconst 3, 3, 0, 0), (.putfield 134, 7, 39, 0), (.iload_n 1, 1, 0, 0), (.i2l, 0, 0, 0), (.lconst 0, 0, 0, 0), (.aload_n 0, 0, 0, 0), (.getfield 121, 7, 26, 0), (.iconst 1, 1, 0, 0), (.isub, 0, 0, 0), (.i2l, 0, 0, 0), (.invokestatic 102, 103, 3, 0), (.ifCond .eq 31, 138, 0, 0), (.iload_n 1, 1, 0, 0), (.aload_n 0, 0, 0, 0), (.getfield 77, 7, 32, 2), (.iload_n 2, 2, 0, 0), (.iaload, 0, 0, 0), (.if_icmp .eq 21, 138, 0, 0), (.aload_n 0, 0, 0, 0), (.aload_n 0, 0, 0, 0), (.getfield 77, 7, 32, 2), (.iload_n 2, 2, 0, 0), (.iaload, 0, 0, 0), (.iload_n 1, 1, 0, 0), (.invokevirtual 124, 114, 3, 8), (.ifCond .ne 7, 138, 0, 0), (.iconst 1, 1, 0, 0), (.goto 4, 139, 0, 0)]
theorem cb_120_82 : z_chk 120 bo_120_82 82 0 [744, 750, 737, 837, 743, 743, 868] = true := by decide +kernel
def bo_120_138 : List ZO := [(.iconst 0, 0, 0, 0), (.ireturn, 1, 0, 0)]
theorem cb_120_138 : z_chk 120 bo_120_138 138 0 [] = true := by decide +kernel
def bo_120_139 : List ZO := [(.ireturn, 1, 0, 0)]
theorem cb_120_139 : z_chk 120 bo_120_139 139 0 [] = true := by decide +kernel
def bo_120_140 : List ZO := [(.aload_n 0, 0, 0, 0), (.getfield 83, 7, 34, 2), (.iload_n 2, 2, 0, 0), (.iload_n 1, 1, 0, 0), (.iastore, 0, 0, 0), (.aload_n 0, 0, 0, 0), (.iconst 4, 4, 0, 0), (.putfield 134, 7, 39, 0), (.iload_n 1, 1, 0, 0), (.i2l, 0, 0, 0), (.lconst 0, 0, 0, 0), (.ldc2_w 141, 9, 0, 0), (.invokestatic 102, 103, 3, 0), (.ireturn, 1, 0, 0)]
theorem cb_120_140 : z_chk 120 bo_120_140 140 0 [745, 750, 872, 837] = true := by decide +kernel
def bo_120_162 : List ZO := [(.aload_n 0, 0, 0, 0), (.getfield 86, 7, 35, 2), (.iload_n 2, 2, 0, 0), (.iload_n 1, 1, 0, 0), (.iastore, 0, 0, 0), (.aload_n 0, 0, 0, 0), (.iconst 5, 5, 0, 0), (.putfield 134, 7, 39, 0), (.iload_n 1, 1, 0, 0), (.i2l, 0, 0, 0), (.lconst 0, 0, 0, 0), (.ldc2_w 141, 9, 0, 0), (.invokestatic 102, 103, 3, 0), (.ireturn, 1, 0, 0)]
theorem cb_120_162 : z_chk 120 bo_120_162 162 0 [746, 750, 872, 837] = true := by decide +kernel
def bo_120_184 : List ZO := [(.aload_n 0, 0, 0, 0), (.iconst 0, 0, 0, 0), (.putfield 134, 7, 39, 0), (.iload_n 1, 1, 0, 0), (.i2l, 0, 0, 0), (.lconst 1, 1, 0, 0), (.ldc2_w 141, 9, 0, 0), (.invokestatic 102, 103, 3, 0), (.ifCond .ne 5, 203, 0, 0), (.iconst 0, 0, 0, 0), (.ireturn, 1, 0, 0)]
theorem cb_120_184 : z_chk 120 bo_120_184 184 0 [750, 872, 837] = true := by decide +kernel
def bo_120_203 : List ZO := [(.aload_n 0, 0, 0, 0), (.getfield 89, 7, 36, 2), (.iload_n 2, 2, 0, 0), (.iload_n 1, 1, 0, 0), (.iastore, 0, 0, 0), (.aload_n 0, 0, 0, 0), (.dup, 0, 0, 0), (.getfield 118, 7, 31, 0), (.iconst 1, 1, 0, 0), (.iadd, 0, 0, 0), (.putfield 118, 7, 31, 0), (.iconst 1, 1, 0, 0), (.ireturn, 1, 0, 0)]
theorem cb_120_203 : z_chk 120 bo_120_203 203 0 [747, 742, 742] = true := by decide +kernel
def bk_120 : List (Nat × ZE) := [(0, false, [true, true, false], bo_120_0, 0), (40, false, [true, true, true], bo_120_40, 0), (80, false, [false, false, false], bo_120_80, 0), (81, false, [false, false, false], bo_120_81, 0), (82, false, [true, true, true], bo_120_82, 0), (138, false, [false, false, false], bo_120_138, 0), (139, false, [false, false, false], bo_120_139, 0), (140, false, [true, true, true], bo_120_140, 0), (162, false, [true, true, true], bo_120_162, 0), (184, false, [true, true, true], bo_120_184, 0), (203, false, [true, true, true], bo_120_203, 0)]
theorem ck_120 : z_chks 120 bk_120 [[742, 750], [743, 750, 737, 837, 864], [], [], [744, 750, 737, 837, 743, 743, 868], [], [], [745, 750, 872, 837], [746, 750, 872, 837], [750, 872, 837], [747, 742, 742]] = true := z_chks_cons cb_120_0 (z_chks_cons cb_120_40 (z_chks_cons cb_120_80 (z_chks_cons cb_120_81 (z_chks_cons cb_120_82 (z_chks_cons cb_120_138 (z_chks_cons cb_120_139 (z_chks_cons cb_120_140 (z_chks_cons cb_120_162 (z_chks_cons cb_120_184 (z_chks_cons cb_120_203 (z_chks_nil)))))))))))
theorem bf_120_0 : z_fd bk_120 0 = some (false, [true, true, false], bo_120_0, 0) := rfl
theorem bf_120_40 : z_fd bk_120 40 = some (false, [true, true, true], bo_120_40, 0) := rfl
theorem bf_120_80 : z_fd bk_120 80 = some (false, [false, false, false], bo_120_80, 0) := rfl
theorem bf_120_81 : z_fd bk_120 81 = some (false, [false, false, false], bo_120_81, 0) := rfl
theorem bf_120_82 : z_fd bk_120 82 = some (false, [true, true, true], bo_120_82, 0) := rfl
theorem bf_120_138 : z_fd bk_120 138 = some (false, [false, false, false], bo_120_138, 0) := rfl
theorem bf_120_139 : z_fd bk_120 139 = some (false, [false, false, false], bo_120_139, 0) := rfl
theorem bf_120_140 : z_fd bk_120 140 = some (false, [true, true, true], bo_120_140, 0) := rfl
theorem bf_120_162 : z_fd bk_120 162 = some (false, [true, true, true], bo_120_162, 0) := rfl
theorem bf_120_184 : z_fd bk_120 184 = some (false, [true, true, true], bo_120_184, 0) := rfl
theorem bf_120_203 : z_fd bk_120 203 = some (false, [true, true, true], bo_120_203, 0) := rfl
theorem cl_120 : z_mL 120 = 3 := by decide +kernel
theorem cz_120 : plainFor (z_my 120) = true ∧ ((z_rm 120).cells = 0 ∧ (z_rm 120).slots = 0) := by decide +kernel
-- 121 Model_take
def bo_121_0 : List ZO := [(.aload_n 0, 0, 0, 0), (.getfield 134, 7, 39, 0), (.ifCond .ne 9, 13, 0, 0), (.aload_n 0, 0, 0, 0), (.iload_n 1, 1, 0, 0), (.invokevirtual 143, 117, 2, 8), (.ireturn, 1, 0, 0)]
def bo_121_13 : List ZO := [(.iload_n 1, 1, 0, 0), (.bipush 48, 48, 0, 0), (.isub, 0, 0, 0), (.istore_n 2, 2, 0, 0), (.aload_n 0, 0, 0, 0), (.getfield 131, 7, 38, 0), (.bipush 77, 77, 0, 0), (.if_icmp .ne 23, 47, 0, 0), (.aload_n 0, 0, 0, 0), (.iload_n 2, 2, 0, 0), (.putfield 146, 7, 37, 0), (.aload_n 0, 0, 0, 0), (.iconst 0, 0, 0, 0), (.putfield 134, 7, 39, 0), (.iload_n 2, 2, 0, 0), (.i2l, 0, 0, 0), (.lconst 0, 0, 0, 0), (.ldc2_w 141, 9, 0, 0), (.invokestatic 102, 103, 3, 0), (.ireturn, 1, 0, 0)]
def bo_121_47 : List ZO := [(.aload_n 0, 0, 0, 0), (.getfield 131, 7, 38, 0), (.bipush 103, 103, 0, 0), (.if_icmp .ne 11, 64, 0, 0), (.aload_n 0, 0, 0, 0), (.iload_n 2, 2, 0, 0), (.invokevirtual 149, 118, 2, 8), (.goto 25, 86, 0, 0)]
def bo_121_64 : List ZO := [(.aload_n 0, 0, 0, 0), (.getfield 131, 7, 38, 0), (.bipush 108, 108, 0, 0), (.if_icmp .ne 11, 81, 0, 0), (.aload_n 0, 0, 0, 0), (.iload_n 2, 2, 0, 0), (.invokevirtual 152, 119, 2, 8), (.goto 8, 86, 0, 0)]
def bo_121_81 : List ZO := [(.aload_n 0, 0, 0, 0), (.iload_n 2, 2, 0, 0), (.invokevirtual 155, 120, 2, 8), (.ireturn, 1, 0, 0)]
def bo_121_86 : List ZO := [(.ireturn, 1, 0, 0)]
def bk_121 : List (Nat × ZE) := [(0, false, [true, true, false], bo_121_0, 0), (13, false, [true, true, false], bo_121_13, 0), (47, false, [true, false, true], bo_121_47, 0), (64, false, [true, false, true], bo_121_64, 0), (81, false, [true, false, true], bo_121_81, 0), (86, false, [false, false, false], bo_121_86, 0)]
theorem ck_121 : z_chks 121 bk_121 [[750, 856], [749, 748, 750, 872, 837], [749, 873], [749, 877], [881], []] = true := by decide +kernel
theorem bf_121_0 : z_fd bk_121 0 = some (false, [true, true, false], bo_121_0, 0) := rfl
theorem bf_121_13 : z_fd bk_121 13 = some (false, [true, true, false], bo_121_13, 0) := rfl
theorem bf_121_47 : z_fd bk_121 47 = some (false, [true, false, true], bo_121_47, 0) := rfl
theorem bf_121_64 : z_fd bk_121 64 = some (false, [true, false, true], bo_121_64, 0) := rfl
theorem bf_121_81 : z_fd bk_121 81 = some (false, [true, false, true], bo_121_81, 0) := rfl
theorem bf_121_86 : z_fd bk_121 86 = some (false, [false, false, false], bo_121_86, 0) := rfl
theorem cl_121 : z_mL 121 = 3 := by decide +kernel
theorem cz_121 : plainFor (z_my 121) = true ∧ ((z_rm 121).cells = 0 ∧ (z_rm 121).slots = 0) := by decide +kernel
-- 122 Model_readText
def bo_122_0 : List ZO := [(.aload_n 0, 0, 0, 0), (.iconst 0, 0, 0, 0), (.putfield 121, 7, 26, 0), (.aload_n 0, 0, 0, 0), (.iconst 0, 0, 0, 0), (.putfield 118, 7, 31, 0), (.aload_n 0, 0, 0, 0), (.bipush 77, 77, 0, 0), (.putfield 131, 7, 38, 0), (.aload_n 0, 0, 0, 0), (.iconst 1, 1, 0, 0), (.putfield 134, 7, 39, 0), (.aload_n 0, 0, 0, 0), (.getfield 115, 7, 1, 0), (.ifCond .eq 14, 39, 0, 0), (.aload_n 0, 0, 0, 0), (.getfield 7, 7, 0, 2), (.iconst 0, 0, 0, 0), (.iaload, 0, 0, 0), (.bipush 77, 77, 0, 0), (.if_icmp .eq 5, 41, 0, 0), (.iconst 0, 0, 0, 0), (.ireturn, 0, 0, 0)]
theorem cb_122_0 : z_chk 122 bo_122_0 0 0 [737, 742, 749, 750, 712, 711] = true := by decide +kernel
def bo_122_39 : List ZO := [(.iconst 0, 0, 0, 0), (.ireturn, 0, 0, 0)]
theorem cb_122_39 : z_chk 122 bo_122_39 39 0 [] = true := by decide +kernel
def bo_122_41 : List ZO := [(.iconst 1, 1, 0, 0), (.istore_n 1, 1, 0, 0)]
theorem cb_122_41 : z_chk 122 bo_122_41 41 43 [] = true := by decide +kernel
def bo_122_43 : List ZO := [(.iload_n 1, 1, 0, 0), (.aload_n 0, 0, 0, 0), (.getfield 115, 7, 1, 0), (.if_icmp .ge 24, 72, 0, 0), (.aload_n 0, 0, 0, 0), (.aload_n 0, 0, 0, 0), (.getfield 7, 7, 0, 2), (.iload_n 1, 1, 0, 0), (.iaload, 0, 0, 0), (.invokevirtual 158, 121, 2, 8), (.ifCond .ne 5, 66, 0, 0), (.iload_n 1, 1, 0, 0), (.ireturn, 0, 0, 0)]
theorem cb_122_43 : z_chk 122 bo_122_43 43 0 [712, 711, 852] = true := by decide +kernel
def bo_122_66 : List ZO := [(.iinc 1 1, 1, 1, 0), (.goto (-26), 43, 0, 0)]
theorem cb_122_66 : z_chk 122 bo_122_66 66 0 [] = true := by decide +kernel
def bo_122_72 : List ZO := [(.aload_n 0, 0, 0, 0), (.getfield 134, 7, 39, 0), (.ifCond .ne 8, 84, 0, 0), (.bipush (-9), 9, 0, 1), (.goto 7, 88, 0, 0)]
theorem cb_122_72 : z_chk 122 bo_122_72 72 0 [750] = true := by decide +kernel
def bo_122_84 : List ZO := [(.aload_n 0, 0, 0, 0), (.getfield 115, 7, 1, 0), (.ireturn, 0, 0, 0)]
theorem cb_122_84 : z_chk 122 bo_122_84 84 0 [712] = true := by decide +kernel
def bo_122_88 : List ZO := [(.ireturn, 0, 0, 0)]
theorem cb_122_88 : z_chk 122 bo_122_88 88 0 [] = true := by decide +kernel
def bk_122 : List (Nat × ZE) := [(0, false, [true, false], bo_122_0, 0), (39, false, [false, false], bo_122_39, 0), (41, false, [true, false], bo_122_41, 43), (43, true, [true, true], bo_122_43, 0), (66, false, [true, true], bo_122_66, 0), (72, false, [true, false], bo_122_72, 0), (84, false, [true, false], bo_122_84, 0), (88, false, [false, false], bo_122_88, 0)]
theorem ck_122 : z_chks 122 bk_122 [[737, 742, 749, 750, 712, 711], [], [], [712, 711, 852], [], [750], [712], []] = true := z_chks_cons cb_122_0 (z_chks_cons cb_122_39 (z_chks_cons cb_122_41 (z_chks_cons cb_122_43 (z_chks_cons cb_122_66 (z_chks_cons cb_122_72 (z_chks_cons cb_122_84 (z_chks_cons cb_122_88 (z_chks_nil))))))))
theorem bf_122_0 : z_fd bk_122 0 = some (false, [true, false], bo_122_0, 0) := rfl
theorem bf_122_39 : z_fd bk_122 39 = some (false, [false, false], bo_122_39, 0) := rfl
theorem bf_122_41 : z_fd bk_122 41 = some (false, [true, false], bo_122_41, 43) := rfl
theorem bf_122_43 : z_fd bk_122 43 = some (true, [true, true], bo_122_43, 0) := rfl
theorem bf_122_66 : z_fd bk_122 66 = some (false, [true, true], bo_122_66, 0) := rfl
theorem bf_122_72 : z_fd bk_122 72 = some (false, [true, false], bo_122_72, 0) := rfl
theorem bf_122_84 : z_fd bk_122 84 = some (false, [true, false], bo_122_84, 0) := rfl
theorem bf_122_88 : z_fd bk_122 88 = some (false, [false, false], bo_122_88, 0) := rfl
theorem cl_122 : z_mL 122 = 2 := by decide +kernel
theorem cz_122 : plainFor (z_my 122) = true ∧ ((z_rm 122).cells = 0 ∧ (z_rm 122).slots = 0) := by decide +kernel
-- 123 Model_fault
def bo_123_0 : List ZO := [(.aload_n 0, 0, 0, 0), (.invokevirtual 161, 122, 1, 8), (.ireturn, 0, 0, 0)]
def bk_123 : List (Nat × ZE) := [(0, false, [true], bo_123_0, 0)]
theorem ck_123 : z_chks 123 bk_123 [[848]] = true := by decide +kernel
theorem bf_123_0 : z_fd bk_123 0 = some (false, [true], bo_123_0, 0) := rfl
theorem cl_123 : z_mL 123 = 1 := by decide +kernel
theorem cz_123 : plainFor (z_my 123) = true ∧ ((z_rm 123).cells = 0 ∧ (z_rm 123).slots = 0) := by decide +kernel
-- 124 Model_mesh
def bo_124_0 : List ZO := [(.aload_n 0, 0, 0, 0), (.invokevirtual 161, 122, 1, 8), (.bipush (-9), 9, 0, 1), (.if_icmp .eq 6, 12, 0, 0), (.bipush (-3), 3, 0, 1), (.ireturn, 0, 0, 0)]
theorem cb_124_0 : z_chk 124 bo_124_0 0 0 [848] = true := by decide +kernel
def bo_124_12 : List ZO := [(.aload_n 0, 0, 0, 0), (.aload_n 0, 0, 0, 0), (.getfield 121, 7, 26, 0), (.putfield 99, 7, 2, 0), (.aload_n 0, 0, 0, 0), (.aload_n 0, 0, 0, 0), (.getfield 118, 7, 31, 0), (.putfield 110, 7, 6, 0), (.aload_n 0, 0, 0, 0), (.invokevirtual 96, 101, 1, 8), (.iconst 0, 0, 0, 0), (.istore_n 1, 1, 0, 0)]
theorem cb_124_12 : z_chk 124 bo_124_12 12 34 [737, 713, 742, 717, 707] = true := by decide +kernel
def bo_124_34 : List ZO := [(.iload_n 1, 1, 0, 0), (.aload_n 0, 0, 0, 0), (.getfield 99, 7, 2, 0), (.if_icmp .ge 60, 99, 0, 0), (.aload_n 0, 0, 0, 0), (.getfield 13, 7, 3, 2), (.iload_n 1, 1, 0, 0), (.aload_n 0, 0, 0, 0), (.getfield 65, 7, 27, 2), (.iload_n 1, 1, 0, 0), (.iaload, 0, 0, 0), (.iastore, 0, 0, 0), (.aload_n 0, 0, 0, 0), (.getfield 16, 7, 4, 2), (.iload_n 1, 1, 0, 0), (.aload_n 0, 0, 0, 0), (.getfield 68, 7, 28, 2), (.iload_n 1, 1, 0, 0), (.iaload, 0, 0, 0), (.iastore, 0, 0, 0), (.aload_n 0, 0, 0, 0), (.getfield 19, 7, 5, 2), (.iload_n 1, 1, 0, 0), (.aload_n 0, 0, 0, 0), (.getfield 71, 7, 29, 2), (.iload_n 1, 1, 0, 0), (.iaload, 0, 0, 0), (.iastore, 0, 0, 0), (.aload_n 0, 0, 0, 0), (.getfield 31, 7, 10, 2), (.bipush 67, 67, 0, 0), (.iload_n 1, 1, 0, 0), (.iadd, 0, 0, 0), (.aload_n 0, 0, 0, 0), (.getfield 74, 7, 30, 2), (.iload_n 1, 1, 0, 0), (.iaload, 0, 0, 0), (.iastore, 0, 0, 0), (.iinc 1 1, 1, 1, 0), (.goto (-62), 34, 0, 0)]
theorem cb_124_34 : z_chk 124 bo_124_34 34 0 [713, 714, 738, 715, 739, 716, 740, 721, 741] = true := by decide +kernel
def bo_124_99 : List ZO := [(.iconst 0, 0, 0, 0), (.istore_n 1, 1, 0, 0)]
theorem cb_124_99 : z_chk 124 bo_124_99 99 101 [] = true := by decide +kernel
def bo_124_101 : List ZO := [(.iload_n 1, 1, 0, 0), (.aload_n 0, 0, 0, 0), (.getfield 110, 7, 6, 0), (.if_icmp .ge 75, 181, 0, 0), (.aload_n 0, 0, 0, 0), (.getfield 22, 7, 7, 2), (.iload_n 1, 1, 0, 0), (.aload_n 0, 0, 0, 0), (.getfield 77, 7, 32, 2), (.iload_n 1, 1, 0, 0), (.iaload, 0, 0, 0), (.iastore, 0, 0, 0), (.aload_n 0, 0, 0, 0), (.getfield 25, 7, 8, 2), (.iload_n 1, 1, 0, 0), (.aload_n 0, 0, 0, 0), (.getfield 80, 7, 33, 2), (.iload_n 1, 1, 0, 0), (.iaload, 0, 0, 0), (.iastore, 0, 0, 0), (.aload_n 0, 0, 0, 0), (.getfield 28, 7, 9, 2), (.iload_n 1, 1, 0, 0), (.aload_n 0, 0, 0, 0), (.getfield 89, 7, 36, 2), (.iload_n 1, 1, 0, 0), (.iaload, 0, 0, 0), (.iastore, 0, 0, 0), (.aload_n 0, 0, 0, 0), (.getfield 31, 7, 10, 2), (.bipush 40, 40, 0, 0), (.iload_n 1, 1, 0, 0), (.iadd, 0, 0, 0), (.aload_n 0, 0, 0, 0), (.getfield 83, 7, 34, 2), (.iload_n 1, 1, 0, 0), (.iaload, 0, 0, 0), (.iastore, 0, 0, 0), (.aload_n 0, 0, 0, 0), (.getfield 31, 7, 10, 2), (.bipush 49, 49, 0, 0), (.iload_n 1, 1, 0, 0), (.iadd, 0, 0, 0), (.aload_n 0, 0, 0, 0), (.getfield 86, 7, 35, 2), (.iload_n 1, 1, 0, 0), (.iaload, 0, 0, 0), (.iastore, 0, 0, 0), (.iinc 1 1, 1, 1, 0), (.goto (-77), 101, 0, 0)]
theorem cb_124_101 : z_chk 124 bo_124_101 101 0 [717, 718, 743, 719, 744, 720, 747, 721, 745, 721, 746] = true := by decide +kernel
def bo_124_181 : List ZO := [(.aload_n 0, 0, 0, 0), (.getfield 31, 7, 10, 2), (.bipush 75, 75, 0, 0), (.aload_n 0, 0, 0, 0), (.getfield 146, 7, 37, 0), (.iastore, 0, 0, 0), (.aload_n 0, 0, 0, 0), (.iconst 0, 0, 0, 0), (.putfield 165, 7, 14, 0), (.aload_n 0, 0, 0, 0), (.getfield 46, 7, 17, 2), (.iconst 0, 0, 0, 0), (.iconst 0, 0, 0, 0), (.bastore, 0, 0, 0), (.aload_n 0, 0, 0, 0), (.getfield 46, 7, 17, 2), (.iconst 1, 1, 0, 0), (.iconst 0, 0, 0, 0), (.bastore, 0, 0, 0), (.aload_n 0, 0, 0, 0), (.getfield 99, 7, 2, 0), (.ireturn, 0, 0, 0)]
theorem cb_124_181 : z_chk 124 bo_124_181 181 0 [721, 748, 725, 728, 728, 713] = true := by decide +kernel
def bk_124 : List (Nat × ZE) := [(0, false, [true, false], bo_124_0, 0), (12, false, [true, false], bo_124_12, 34), (34, true, [true, true], bo_124_34, 0), (99, false, [true, false], bo_124_99, 101), (101, true, [true, true], bo_124_101, 0), (181, false, [true, false], bo_124_181, 0)]
theorem ck_124 : z_chks 124 bk_124 [[848], [737, 713, 742, 717, 707], [713, 714, 738, 715, 739, 716, 740, 721, 741], [], [717, 718, 743, 719, 744, 720, 747, 721, 745, 721, 746], [721, 748, 725, 728, 728, 713]] = true := z_chks_cons cb_124_0 (z_chks_cons cb_124_12 (z_chks_cons cb_124_34 (z_chks_cons cb_124_99 (z_chks_cons cb_124_101 (z_chks_cons cb_124_181 (z_chks_nil))))))
theorem bf_124_0 : z_fd bk_124 0 = some (false, [true, false], bo_124_0, 0) := rfl
theorem bf_124_12 : z_fd bk_124 12 = some (false, [true, false], bo_124_12, 34) := rfl
theorem bf_124_34 : z_fd bk_124 34 = some (true, [true, true], bo_124_34, 0) := rfl
theorem bf_124_99 : z_fd bk_124 99 = some (false, [true, false], bo_124_99, 101) := rfl
theorem bf_124_101 : z_fd bk_124 101 = some (true, [true, true], bo_124_101, 0) := rfl
theorem bf_124_181 : z_fd bk_124 181 = some (false, [true, false], bo_124_181, 0) := rfl
theorem cl_124 : z_mL 124 = 2 := by decide +kernel
theorem cz_124 : plainFor (z_my 124) = true ∧ ((z_rm 124).cells = 0 ∧ (z_rm 124).slots = 0) := by decide +kernel
-- 125 Model_airtime
def bo_125_0 : List ZO := [(.bipush 10, 10, 0, 0), (.aload_n 1, 1, 0, 0), (.bipush 40, 40, 0, 0), (.iload_n 2, 2, 0, 0), (.iadd, 0, 0, 0), (.iaload, 0, 0, 0), (.isub, 0, 0, 0), (.bipush 10, 10, 0, 0), (.aload_n 1, 1, 0, 0), (.bipush 49, 49, 0, 0), (.iload_n 2, 2, 0, 0), (.iadd, 0, 0, 0), (.iaload, 0, 0, 0), (.isub, 0, 0, 0), (.imul, 0, 0, 0), (.istore_n 3, 3, 0, 0), (.bipush 100, 100, 0, 0), (.aload_n 0, 0, 0, 0), (.getfield 28, 7, 9, 2), (.iload_n 2, 2, 0, 0), (.iaload, 0, 0, 0), (.imul, 0, 0, 0), (.iload_n 3, 3, 0, 0), (.iadd, 0, 0, 0), (.iconst 1, 1, 0, 0), (.isub, 0, 0, 0), (.iload_n 3, 3, 0, 0), (.idiv, 0, 0, 0), (.ireturn, 0, 0, 0)]
def bk_125 : List (Nat × ZE) := [(0, false, [true, true, true, false], bo_125_0, 0)]
theorem ck_125 : z_chks 125 bk_125 [[720]] = true := by decide +kernel
theorem bf_125_0 : z_fd bk_125 0 = some (false, [true, true, true, false], bo_125_0, 0) := rfl
theorem cl_125 : z_mL 125 = 4 := by decide +kernel
theorem cz_125 : plainFor (z_my 125) = true ∧ ((z_rm 125).cells = 0 ∧ (z_rm 125).slots = 0) := by decide +kernel
-- 126 Model_linkOf
def bo_126_0 : List ZO := [(.bipush (-9), 9, 0, 1), (.istore 4, 4, 0, 0), (.iconst 0, 0, 0, 0), (.istore 5, 5, 0, 0)]
theorem cb_126_0 : z_chk 126 bo_126_0 0 7 [] = true := by decide +kernel
def bo_126_7 : List ZO := [(.iload 5, 5, 0, 0), (.aload_n 0, 0, 0, 0), (.getfield 110, 7, 6, 0), (.if_icmp .ge 84, 97, 0, 0), (.aload_n 0, 0, 0, 0), (.getfield 22, 7, 7, 2), (.iload 5, 5, 0, 0), (.iaload, 0, 0, 0), (.iload_n 2, 2, 0, 0), (.if_icmp .ne 14, 38, 0, 0), (.aload_n 0, 0, 0, 0), (.getfield 25, 7, 8, 2), (.iload 5, 5, 0, 0), (.iaload, 0, 0, 0), (.iload_n 3, 3, 0, 0), (.if_icmp .eq 25, 60, 0, 0), (.aload_n 0, 0, 0, 0), (.getfield 22, 7, 7, 2), (.iload 5, 5, 0, 0), (.iaload, 0, 0, 0), (.iload_n 3, 3, 0, 0), (.if_icmp .ne 18, 64, 0, 0), (.aload_n 0, 0, 0, 0), (.getfield 25, 7, 8, 2), (.iload 5, 5, 0, 0), (.iaload, 0, 0, 0), (.iload_n 2, 2, 0, 0), (.if_icmp .ne 7, 64, 0, 0), (.iconst 1, 1, 0, 0), (.goto 4, 65, 0, 0)]
theorem cb_126_7 : z_chk 126 bo_126_7 7 0 [717, 718, 719, 718, 719] = true := by decide +kernel
def bo_126_38 : List ZO := [(.aload_n 0, 0, 0, 0), (.getfield 22, 7, 7, 2), (.iload 5, 5, 0, 0), (.iaload, 0, 0, 0), (.iload_n 3, 3, 0, 0), (.if_icmp .ne 18, 64, 0, 0), (.aload_n 0, 0, 0, 0), (.getfield 25, 7, 8, 2), (.iload 5, 5, 0, 0), (.iaload, 0, 0, 0), (.iload_n 2, 2, 0, 0), (.if_icmp .ne 7, 64, 0, 0), (.iconst 1, 1, 0, 0), (.goto 4, 65, 0, 0)]
theorem cb_126_38 : z_chk 126 bo_126_38 38 0 [718, 719] = true := by decide +kernel
def bo_126_60 : List ZO := [(.iconst 1, 1, 0, 0), (.goto 4, 65, 0, 0)]
theorem cb_126_60 : z_chk 126 bo_126_60 60 0 [] = true := by decide +kernel
def bo_126_64 : List ZO := [(.iconst 0, 0, 0, 0), (.istore 6, 6, 0, 0), (.iload 6, 6, 0, 0), (.ifCond .eq 18, 87, 0, 0), (.aload_n 1, 1, 0, 0), (.bipush 58, 58, 0, 0), (.iload 5, 5, 0, 0), (.iadd, 0, 0, 0), (.iaload, 0, 0, 0), (.ifCond .ne 8, 87, 0, 0), (.iload 5, 5, 0, 0), (.goto 5, 89, 0, 0)]
theorem cb_126_64 : z_chk 126 bo_126_64 64 0 [] = true := by decide +kernel
def bo_126_65 : List ZO := [(.istore 6, 6, 0, 0), (.iload 6, 6, 0, 0), (.ifCond .eq 18, 87, 0, 0), (.aload_n 1, 1, 0, 0), (.bipush 58, 58, 0, 0), (.iload 5, 5, 0, 0), (.iadd, 0, 0, 0), (.iaload, 0, 0, 0), (.ifCond .ne 8, 87, 0, 0), (.iload 5, 5, 0, 0), (.goto 5, 89, 0, 0)]
theorem cb_126_65 : z_chk 126 bo_126_65 65 0 [] = true := by decide +kernel
def bo_126_87 : List ZO := [(.iload 4, 4, 0, 0), (.istore 4, 4, 0, 0), (.iinc 5 1, 1, 5, 0), (.goto (-87), 7, 0, 0)]
theorem cb_126_87 : z_chk 126 bo_126_87 87 0 [] = true := by decide +kernel
def bo_126_89 : List ZO := [(.istore 4, 4, 0, 0), (.iinc 5 1, 1, 5, 0), (.goto (-87), 7, 0, 0)]
theorem cb_126_89 : z_chk 126 bo_126_89 89 0 [] = true := by decide +kernel
def bo_126_97 : List ZO := [(.iload 4, 4, 0, 0), (.ireturn, 0, 0, 0)]
theorem cb_126_97 : z_chk 126 bo_126_97 97 0 [] = true := by decide +kernel
def bk_126 : List (Nat × ZE) := [(0, false, [true, true, true, true, false, false, false], bo_126_0, 7), (7, true, [true, true, true, true, true, true, false], bo_126_7, 0), (38, false, [true, true, true, true, true, true, false], bo_126_38, 0), (60, false, [true, true, true, true, true, true, false], bo_126_60, 0), (64, false, [true, true, true, true, true, true, false], bo_126_64, 0), (65, false, [true, true, true, true, true, true, false], bo_126_65, 0), (87, false, [true, true, true, true, true, true, false], bo_126_87, 0), (89, false, [true, true, true, true, false, true, false], bo_126_89, 0), (97, false, [false, false, false, false, true, false, false], bo_126_97, 0)]
theorem ck_126 : z_chks 126 bk_126 [[], [717, 718, 719, 718, 719], [718, 719], [], [], [], [], [], []] = true := z_chks_cons cb_126_0 (z_chks_cons cb_126_7 (z_chks_cons cb_126_38 (z_chks_cons cb_126_60 (z_chks_cons cb_126_64 (z_chks_cons cb_126_65 (z_chks_cons cb_126_87 (z_chks_cons cb_126_89 (z_chks_cons cb_126_97 (z_chks_nil)))))))))
theorem bf_126_0 : z_fd bk_126 0 = some (false, [true, true, true, true, false, false, false], bo_126_0, 7) := rfl
theorem bf_126_7 : z_fd bk_126 7 = some (true, [true, true, true, true, true, true, false], bo_126_7, 0) := rfl
theorem bf_126_38 : z_fd bk_126 38 = some (false, [true, true, true, true, true, true, false], bo_126_38, 0) := rfl
theorem bf_126_60 : z_fd bk_126 60 = some (false, [true, true, true, true, true, true, false], bo_126_60, 0) := rfl
theorem bf_126_64 : z_fd bk_126 64 = some (false, [true, true, true, true, true, true, false], bo_126_64, 0) := rfl
theorem bf_126_65 : z_fd bk_126 65 = some (false, [true, true, true, true, true, true, false], bo_126_65, 0) := rfl
theorem bf_126_87 : z_fd bk_126 87 = some (false, [true, true, true, true, true, true, false], bo_126_87, 0) := rfl
theorem bf_126_89 : z_fd bk_126 89 = some (false, [true, true, true, true, false, true, false], bo_126_89, 0) := rfl
theorem bf_126_97 : z_fd bk_126 97 = some (false, [false, false, false, false, true, false, false], bo_126_97, 0) := rfl
theorem cl_126 : z_mL 126 = 7 := by decide +kernel
theorem cz_126 : plainFor (z_my 126) = true ∧ ((z_rm 126).cells = 0 ∧ (z_rm 126).slots = 0) := by decide +kernel
-- 127 Model_offers
def bo_127_0 : List ZO := [(.aload_n 0, 0, 0, 0), (.getfield 13, 7, 3, 2), (.iload_n 2, 2, 0, 0), (.iaload, 0, 0, 0), (.ifCond .ne 14, 20, 0, 0), (.aload_n 0, 0, 0, 0), (.getfield 92, 7, 23, 0), (.iload_n 2, 2, 0, 0), (.invokestatic 168, 104, 2, 0), (.goto 28, 45, 0, 0)]
def bo_127_20 : List ZO := [(.aload_n 0, 0, 0, 0), (.getfield 13, 7, 3, 2), (.iload_n 2, 2, 0, 0), (.iaload, 0, 0, 0), (.iconst 1, 1, 0, 0), (.if_icmp .ne 17, 44, 0, 0), (.aload_n 1, 1, 0, 0), (.iconst 0, 0, 0, 0), (.iload_n 2, 2, 0, 0), (.iadd, 0, 0, 0), (.iaload, 0, 0, 0), (.bipush (-9), 9, 0, 1), (.if_icmp .eq 7, 44, 0, 0), (.iconst 1, 1, 0, 0), (.goto 4, 45, 0, 0)]
def bo_127_44 : List ZO := [(.iconst 0, 0, 0, 0), (.ireturn, 1, 0, 0)]
def bo_127_45 : List ZO := [(.ireturn, 1, 0, 0)]
def bk_127 : List (Nat × ZE) := [(0, false, [true, true, true], bo_127_0, 0), (20, false, [true, true, true], bo_127_20, 0), (44, false, [false, false, false], bo_127_44, 0), (45, false, [false, false, false], bo_127_45, 0)]
theorem ck_127 : z_chks 127 bk_127 [[714, 734, 905], [714], [], []] = true := by decide +kernel
theorem bf_127_0 : z_fd bk_127 0 = some (false, [true, true, true], bo_127_0, 0) := rfl
theorem bf_127_20 : z_fd bk_127 20 = some (false, [true, true, true], bo_127_20, 0) := rfl
theorem bf_127_44 : z_fd bk_127 44 = some (false, [false, false, false], bo_127_44, 0) := rfl
theorem bf_127_45 : z_fd bk_127 45 = some (false, [false, false, false], bo_127_45, 0) := rfl
theorem cl_127 : z_mL 127 = 3 := by decide +kernel
theorem cz_127 : plainFor (z_my 127) = true ∧ ((z_rm 127).cells = 0 ∧ (z_rm 127).slots = 0) := by decide +kernel
-- 128 Model_offered
def bo_128_0 : List ZO := [(.aload_n 0, 0, 0, 0), (.getfield 13, 7, 3, 2), (.iload_n 2, 2, 0, 0), (.iaload, 0, 0, 0), (.ifCond .ne 12, 18, 0, 0), (.aload_n 1, 1, 0, 0), (.bipush 67, 67, 0, 0), (.iload_n 2, 2, 0, 0), (.iadd, 0, 0, 0), (.iaload, 0, 0, 0), (.goto 9, 24, 0, 0)]
def bo_128_18 : List ZO := [(.aload_n 1, 1, 0, 0), (.bipush 8, 8, 0, 0), (.iload_n 2, 2, 0, 0), (.iadd, 0, 0, 0), (.iaload, 0, 0, 0), (.ireturn, 0, 0, 0)]
def bo_128_24 : List ZO := [(.ireturn, 0, 0, 0)]
def bk_128 : List (Nat × ZE) := [(0, false, [true, true, true], bo_128_0, 0), (18, false, [false, true, true], bo_128_18, 0), (24, false, [false, false, false], bo_128_24, 0)]
theorem ck_128 : z_chks 128 bk_128 [[714], [], []] = true := by decide +kernel
theorem bf_128_0 : z_fd bk_128 0 = some (false, [true, true, true], bo_128_0, 0) := rfl
theorem bf_128_18 : z_fd bk_128 18 = some (false, [false, true, true], bo_128_18, 0) := rfl
theorem bf_128_24 : z_fd bk_128 24 = some (false, [false, false, false], bo_128_24, 0) := rfl
theorem cl_128 : z_mL 128 = 3 := by decide +kernel
theorem cz_128 : plainFor (z_my 128) = true ∧ ((z_rm 128).cells = 0 ∧ (z_rm 128).slots = 0) := by decide +kernel
-- 129 Model_sequenceOf
def bo_129_0 : List ZO := [(.aload_n 0, 0, 0, 0), (.getfield 13, 7, 3, 2), (.iload_n 2, 2, 0, 0), (.iaload, 0, 0, 0), (.ifCond .ne 10, 16, 0, 0), (.aload_n 1, 1, 0, 0), (.bipush 76, 76, 0, 0), (.iaload, 0, 0, 0), (.goto 9, 22, 0, 0)]
def bo_129_16 : List ZO := [(.aload_n 1, 1, 0, 0), (.bipush 16, 16, 0, 0), (.iload_n 2, 2, 0, 0), (.iadd, 0, 0, 0), (.iaload, 0, 0, 0), (.ireturn, 0, 0, 0)]
def bo_129_22 : List ZO := [(.ireturn, 0, 0, 0)]
def bk_129 : List (Nat × ZE) := [(0, false, [true, true, true], bo_129_0, 0), (16, false, [false, true, true], bo_129_16, 0), (22, false, [false, false, false], bo_129_22, 0)]
theorem ck_129 : z_chks 129 bk_129 [[714], [], []] = true := by decide +kernel
theorem bf_129_0 : z_fd bk_129 0 = some (false, [true, true, true], bo_129_0, 0) := rfl
theorem bf_129_16 : z_fd bk_129 16 = some (false, [false, true, true], bo_129_16, 0) := rfl
theorem bf_129_22 : z_fd bk_129 22 = some (false, [false, false, false], bo_129_22, 0) := rfl
theorem cl_129 : z_mL 129 = 3 := by decide +kernel
theorem cz_129 : plainFor (z_my 129) = true ∧ ((z_rm 129).cells = 0 ∧ (z_rm 129).slots = 0) := by decide +kernel
-- 130 Model_priceOf
def bo_130_0 : List ZO := [(.aload_n 0, 0, 0, 0), (.aload_n 1, 1, 0, 0), (.iload_n 2, 2, 0, 0), (.iload_n 3, 3, 0, 0), (.invokevirtual 171, 126, 4, 8), (.istore 4, 4, 0, 0), (.iload 4, 4, 0, 0), (.bipush (-9), 9, 0, 1), (.if_icmp .eq 12, 25, 0, 0), (.aload_n 0, 0, 0, 0), (.aload_n 1, 1, 0, 0), (.iload_n 2, 2, 0, 0), (.invokevirtual 175, 127, 3, 8), (.ifCond .ne 8, 30, 0, 0), (.bipush (-9), 9, 0, 1), (.goto 17, 44, 0, 0)]
def bo_130_25 : List ZO := [(.bipush (-9), 9, 0, 1), (.goto 17, 44, 0, 0)]
def bo_130_30 : List ZO := [(.aload_n 0, 0, 0, 0), (.aload_n 1, 1, 0, 0), (.iload_n 2, 2, 0, 0), (.invokevirtual 179, 128, 3, 8), (.aload_n 0, 0, 0, 0), (.aload_n 1, 1, 0, 0), (.iload 4, 4, 0, 0), (.invokevirtual 183, 125, 3, 8), (.iadd, 0, 0, 0), (.ireturn, 0, 0, 0)]
def bo_130_44 : List ZO := [(.ireturn, 0, 0, 0)]
def bk_130 : List (Nat × ZE) := [(0, false, [true, true, true, true, false], bo_130_0, 0), (25, false, [false, false, false, false, false], bo_130_25, 0), (30, false, [true, true, true, false, true], bo_130_30, 0), (44, false, [false, false, false, false, false], bo_130_44, 0)]
theorem ck_130 : z_chks 130 bk_130 [[952, 956], [], [960, 936], []] = true := by decide +kernel
theorem bf_130_0 : z_fd bk_130 0 = some (false, [true, true, true, true, false], bo_130_0, 0) := rfl
theorem bf_130_25 : z_fd bk_130 25 = some (false, [false, false, false, false, false], bo_130_25, 0) := rfl
theorem bf_130_30 : z_fd bk_130 30 = some (false, [true, true, true, false, true], bo_130_30, 0) := rfl
theorem bf_130_44 : z_fd bk_130 44 = some (false, [false, false, false, false, false], bo_130_44, 0) := rfl
theorem cl_130 : z_mL 130 = 5 := by decide +kernel
theorem cz_130 : plainFor (z_my 130) = true ∧ ((z_rm 130).cells = 0 ∧ (z_rm 130).slots = 0) := by decide +kernel
-- 131 Model_isSafe
def bo_131_0 : List ZO := [(.aload_n 0, 0, 0, 0), (.aload_n 1, 1, 0, 0), (.iload_n 2, 2, 0, 0), (.invokevirtual 186, 129, 3, 8), (.istore 4, 4, 0, 0), (.iload 4, 4, 0, 0), (.aload_n 1, 1, 0, 0), (.bipush 24, 24, 0, 0), (.iload_n 3, 3, 0, 0), (.iadd, 0, 0, 0), (.iaload, 0, 0, 0), (.if_icmp .gt 29, 45, 0, 0), (.iload 4, 4, 0, 0), (.aload_n 1, 1, 0, 0), (.bipush 24, 24, 0, 0), (.iload_n 3, 3, 0, 0), (.iadd, 0, 0, 0), (.iaload, 0, 0, 0), (.if_icmp .ne 22, 49, 0, 0), (.aload_n 0, 0, 0, 0), (.aload_n 1, 1, 0, 0), (.iload_n 2, 2, 0, 0), (.invokevirtual 179, 128, 3, 8), (.aload_n 1, 1, 0, 0), (.bipush 32, 32, 0, 0), (.iload_n 3, 3, 0, 0), (.iadd, 0, 0, 0), (.iaload, 0, 0, 0), (.if_icmp .ge 7, 49, 0, 0), (.iconst 1, 1, 0, 0), (.goto 4, 50, 0, 0)]
def bo_131_45 : List ZO := [(.iconst 1, 1, 0, 0), (.goto 4, 50, 0, 0)]
def bo_131_49 : List ZO := [(.iconst 0, 0, 0, 0), (.ireturn, 1, 0, 0)]
def bo_131_50 : List ZO := [(.ireturn, 1, 0, 0)]
def bk_131 : List (Nat × ZE) := [(0, false, [true, true, true, true, false], bo_131_0, 0), (45, false, [false, false, false, false, false], bo_131_45, 0), (49, false, [false, false, false, false, false], bo_131_49, 0), (50, false, [false, false, false, false, false], bo_131_50, 0)]
theorem ck_131 : z_chks 131 bk_131 [[972, 960], [], [], []] = true := by decide +kernel
theorem bf_131_0 : z_fd bk_131 0 = some (false, [true, true, true, true, false], bo_131_0, 0) := rfl
theorem bf_131_45 : z_fd bk_131 45 = some (false, [false, false, false, false, false], bo_131_45, 0) := rfl
theorem bf_131_49 : z_fd bk_131 49 = some (false, [false, false, false, false, false], bo_131_49, 0) := rfl
theorem bf_131_50 : z_fd bk_131 50 = some (false, [false, false, false, false, false], bo_131_50, 0) := rfl
theorem cl_131 : z_mL 131 = 5 := by decide +kernel
theorem cz_131 : plainFor (z_my 131) = true ∧ ((z_rm 131).cells = 0 ∧ (z_rm 131).slots = 0) := by decide +kernel
-- 132 Model_isGood
def bo_132_0 : List ZO := [(.iload_n 2, 2, 0, 0), (.iload_n 3, 3, 0, 0), (.if_icmp .eq 29, 31, 0, 0), (.aload_n 0, 0, 0, 0), (.aload_n 1, 1, 0, 0), (.iload_n 2, 2, 0, 0), (.iload_n 3, 3, 0, 0), (.invokevirtual 189, 130, 4, 8), (.bipush (-9), 9, 0, 1), (.if_icmp .eq 17, 31, 0, 0), (.aload_n 0, 0, 0, 0), (.aload_n 1, 1, 0, 0), (.iload_n 2, 2, 0, 0), (.iload_n 3, 3, 0, 0), (.invokevirtual 192, 131, 4, 8), (.ifCond .eq 7, 31, 0, 0), (.iconst 1, 1, 0, 0), (.goto 4, 32, 0, 0)]
def bo_132_31 : List ZO := [(.iconst 0, 0, 0, 0), (.ireturn, 1, 0, 0)]
def bo_132_32 : List ZO := [(.ireturn, 1, 0, 0)]
def bk_132 : List (Nat × ZE) := [(0, false, [true, true, true, true], bo_132_0, 0), (31, false, [false, false, false, false], bo_132_31, 0), (32, false, [false, false, false, false], bo_132_32, 0)]
theorem ck_132 : z_chks 132 bk_132 [[948, 968], [], []] = true := by decide +kernel
theorem bf_132_0 : z_fd bk_132 0 = some (false, [true, true, true, true], bo_132_0, 0) := rfl
theorem bf_132_31 : z_fd bk_132 31 = some (false, [false, false, false, false], bo_132_31, 0) := rfl
theorem bf_132_32 : z_fd bk_132 32 = some (false, [false, false, false, false], bo_132_32, 0) := rfl
theorem cl_132 : z_mL 132 = 4 := by decide +kernel
theorem cz_132 : plainFor (z_my 132) = true ∧ ((z_rm 132).cells = 0 ∧ (z_rm 132).slots = 0) := by decide +kernel
-- 133 Model_isAwake
def bo_133_0 : List ZO := [(.aload_n 0, 0, 0, 0), (.getfield 13, 7, 3, 2), (.iload_n 1, 1, 0, 0), (.iaload, 0, 0, 0), (.iconst 2, 2, 0, 0), (.if_icmp .ne 20, 27, 0, 0), (.iload_n 2, 2, 0, 0), (.aload_n 0, 0, 0, 0), (.getfield 16, 7, 4, 2), (.iload_n 1, 1, 0, 0), (.iaload, 0, 0, 0), (.irem, 0, 0, 0), (.aload_n 0, 0, 0, 0), (.getfield 19, 7, 5, 2), (.iload_n 1, 1, 0, 0), (.iaload, 0, 0, 0), (.if_icmp .ne 7, 31, 0, 0), (.iconst 1, 1, 0, 0), (.goto 4, 32, 0, 0)]
def bo_133_27 : List ZO := [(.iconst 1, 1, 0, 0), (.goto 4, 32, 0, 0)]
def bo_133_31 : List ZO := [(.iconst 0, 0, 0, 0), (.ireturn, 1, 0, 0)]
def bo_133_32 : List ZO := [(.ireturn, 1, 0, 0)]
def bk_133 : List (Nat × ZE) := [(0, false, [true, true, true], bo_133_0, 0), (27, false, [false, false, false], bo_133_27, 0), (31, false, [false, false, false], bo_133_31, 0), (32, false, [false, false, false], bo_133_32, 0)]
theorem ck_133 : z_chks 133 bk_133 [[714, 715, 716], [], [], []] = true := by decide +kernel
theorem bf_133_0 : z_fd bk_133 0 = some (false, [true, true, true], bo_133_0, 0) := rfl
theorem bf_133_27 : z_fd bk_133 27 = some (false, [false, false, false], bo_133_27, 0) := rfl
theorem bf_133_31 : z_fd bk_133 31 = some (false, [false, false, false], bo_133_31, 0) := rfl
theorem bf_133_32 : z_fd bk_133 32 = some (false, [false, false, false], bo_133_32, 0) := rfl
theorem cl_133 : z_mL 133 = 3 := by decide +kernel
theorem cz_133 : plainFor (z_my 133) = true ∧ ((z_rm 133).cells = 0 ∧ (z_rm 133).slots = 0) := by decide +kernel
-- 134 Model_hears
def bo_134_0 : List ZO := [(.aload_n 0, 0, 0, 0), (.getfield 37, 7, 12, 2), (.iconst 0, 0, 0, 0), (.iload_n 2, 2, 0, 0), (.iadd, 0, 0, 0), (.iaload, 0, 0, 0), (.istore_n 3, 3, 0, 0), (.iload_n 3, 3, 0, 0), (.bipush (-9), 9, 0, 1), (.if_icmp .eq 50, 62, 0, 0), (.aload_n 0, 0, 0, 0), (.aload_n 0, 0, 0, 0), (.getfield 37, 7, 12, 2), (.iload_n 3, 3, 0, 0), (.iload_n 2, 2, 0, 0), (.invokevirtual 196, 132, 4, 8), (.ifCond .eq 37, 62, 0, 0), (.aload_n 1, 1, 0, 0), (.bipush 8, 8, 0, 0), (.iload_n 2, 2, 0, 0), (.iadd, 0, 0, 0), (.aload_n 0, 0, 0, 0), (.aload_n 0, 0, 0, 0), (.getfield 37, 7, 12, 2), (.iload_n 3, 3, 0, 0), (.iload_n 2, 2, 0, 0), (.invokevirtual 189, 130, 4, 8), (.iastore, 0, 0, 0), (.aload_n 1, 1, 0, 0), (.bipush 16, 16, 0, 0), (.iload_n 2, 2, 0, 0), (.iadd, 0, 0, 0), (.aload_n 0, 0, 0, 0), (.aload_n 0, 0, 0, 0), (.getfield 37, 7, 12, 2), (.iload_n 3, 3, 0, 0), (.invokevirtual 186, 129, 3, 8), (.iastore, 0, 0, 0), (.goto 10, 69, 0, 0)]
theorem cb_134_0 : z_chk 134 bo_134_0 0 0 [723, 723, 1000, 723, 948, 723, 972] = true := by decide +kernel
def bo_134_62 : List ZO := [(.aload_n 1, 1, 0, 0), (.iconst 0, 0, 0, 0), (.iload_n 2, 2, 0, 0), (.iadd, 0, 0, 0), (.bipush (-9), 9, 0, 1), (.iastore, 0, 0, 0), (.bipush (-9), 9, 0, 1), (.istore 4, 4, 0, 0), (.iconst 0, 0, 0, 0), (.istore 5, 5, 0, 0), (.iconst 0, 0, 0, 0), (.istore 6, 6, 0, 0)]
theorem cb_134_62 : z_chk 134 bo_134_62 62 79 [] = true := by decide +kernel
def bo_134_69 : List ZO := [(.bipush (-9), 9, 0, 1), (.istore 4, 4, 0, 0), (.iconst 0, 0, 0, 0), (.istore 5, 5, 0, 0), (.iconst 0, 0, 0, 0), (.istore 6, 6, 0, 0)]
theorem cb_134_69 : z_chk 134 bo_134_69 69 79 [] = true := by decide +kernel
def bo_134_79 : List ZO := [(.iload 6, 6, 0, 0), (.aload_n 0, 0, 0, 0), (.getfield 99, 7, 2, 0), (.if_icmp .ge 93, 178, 0, 0), (.iload 5, 5, 0, 0), (.ifCond .ne 25, 115, 0, 0), (.iload 6, 6, 0, 0), (.iload_n 2, 2, 0, 0), (.if_icmp .eq 23, 119, 0, 0), (.aload_n 0, 0, 0, 0), (.aload_n 0, 0, 0, 0), (.getfield 37, 7, 12, 2), (.iload 6, 6, 0, 0), (.iload_n 2, 2, 0, 0), (.invokevirtual 189, 130, 4, 8), (.bipush (-9), 9, 0, 1), (.if_icmp .eq 7, 119, 0, 0), (.iconst 1, 1, 0, 0), (.goto 4, 120, 0, 0)]
theorem cb_134_79 : z_chk 134 bo_134_79 79 0 [713, 723, 948] = true := by decide +kernel
def bo_134_115 : List ZO := [(.iconst 1, 1, 0, 0), (.goto 4, 120, 0, 0)]
theorem cb_134_115 : z_chk 134 bo_134_115 115 0 [] = true := by decide +kernel
def bo_134_119 : List ZO := [(.iconst 0, 0, 0, 0)]
theorem cb_134_119 : z_chk 134 bo_134_119 119 120 [] = true := by decide +kernel
def bo_134_120 : List ZO := [(.istore 5, 5, 0, 0), (.aload_n 0, 0, 0, 0), (.aload_n 0, 0, 0, 0), (.getfield 37, 7, 12, 2), (.iload 6, 6, 0, 0), (.iload_n 2, 2, 0, 0), (.invokevirtual 196, 132, 4, 8), (.ifCond .eq 39, 172, 0, 0), (.iload 4, 4, 0, 0), (.bipush (-9), 9, 0, 1), (.if_icmp .eq 28, 168, 0, 0), (.aload_n 0, 0, 0, 0), (.aload_n 0, 0, 0, 0), (.getfield 37, 7, 12, 2), (.iload 6, 6, 0, 0), (.iload_n 2, 2, 0, 0), (.invokevirtual 189, 130, 4, 8), (.aload_n 0, 0, 0, 0), (.aload_n 0, 0, 0, 0), (.getfield 37, 7, 12, 2), (.iload 4, 4, 0, 0), (.iload_n 2, 2, 0, 0), (.invokevirtual 189, 130, 4, 8), (.if_icmp .ge 7, 172, 0, 0), (.iload 6, 6, 0, 0), (.istore 4, 4, 0, 0), (.iinc 6 1, 1, 6, 0), (.goto (-96), 79, 0, 0)]
theorem cb_134_120 : z_chk 134 bo_134_120 120 0 [723, 1000, 723, 948, 723, 948] = true := by decide +kernel
def bo_134_168 : List ZO := [(.iload 6, 6, 0, 0), (.istore 4, 4, 0, 0), (.iinc 6 1, 1, 6, 0), (.goto (-96), 79, 0, 0)]
theorem cb_134_168 : z_chk 134 bo_134_168 168 0 [] = true := by decide +kernel
def bo_134_172 : List ZO := [(.iinc 6 1, 1, 6, 0), (.goto (-96), 79, 0, 0)]
theorem cb_134_172 : z_chk 134 bo_134_172 172 0 [] = true := by decide +kernel
def bo_134_178 : List ZO := [(.iload 4, 4, 0, 0), (.bipush (-9), 9, 0, 1), (.if_icmp .eq 81, 263, 0, 0), (.aload_n 1, 1, 0, 0), (.iconst 0, 0, 0, 0), (.iload_n 2, 2, 0, 0), (.iadd, 0, 0, 0), (.iaload, 0, 0, 0), (.bipush (-9), 9, 0, 1), (.if_icmp .eq 31, 223, 0, 0), (.aload_n 1, 1, 0, 0), (.bipush 8, 8, 0, 0), (.iload_n 2, 2, 0, 0), (.iadd, 0, 0, 0), (.iaload, 0, 0, 0), (.aload_n 0, 0, 0, 0), (.aload_n 0, 0, 0, 0), (.getfield 37, 7, 12, 2), (.iload 4, 4, 0, 0), (.iload_n 2, 2, 0, 0), (.invokevirtual 189, 130, 4, 8), (.aload_n 0, 0, 0, 0), (.getfield 37, 7, 12, 2), (.bipush 75, 75, 0, 0), (.iaload, 0, 0, 0), (.iadd, 0, 0, 0), (.if_icmp .le 43, 263, 0, 0), (.aload_n 1, 1, 0, 0), (.iconst 0, 0, 0, 0), (.iload_n 2, 2, 0, 0), (.iadd, 0, 0, 0), (.iload 4, 4, 0, 0), (.iastore, 0, 0, 0), (.aload_n 1, 1, 0, 0), (.bipush 8, 8, 0, 0), (.iload_n 2, 2, 0, 0), (.iadd, 0, 0, 0), (.aload_n 0, 0, 0, 0), (.aload_n 0, 0, 0, 0), (.getfield 37, 7, 12, 2), (.iload 4, 4, 0, 0), (.iload_n 2, 2, 0, 0), (.invokevirtual 189, 130, 4, 8), (.iastore, 0, 0, 0), (.aload_n 1, 1, 0, 0), (.bipush 16, 16, 0, 0), (.iload_n 2, 2, 0, 0), (.iadd, 0, 0, 0), (.aload_n 0, 0, 0, 0), (.aload_n 0, 0, 0, 0), (.getfield 37, 7, 12, 2), (.iload 4, 4, 0, 0), (.invokevirtual 186, 129, 3, 8), (.iastore, 0, 0, 0)]
theorem cb_134_178 : z_chk 134 bo_134_178 178 263 [723, 948, 723, 723, 948, 723, 972] = true := by decide +kernel
def bo_134_223 : List ZO := [(.aload_n 1, 1, 0, 0), (.iconst 0, 0, 0, 0), (.iload_n 2, 2, 0, 0), (.iadd, 0, 0, 0), (.iload 4, 4, 0, 0), (.iastore, 0, 0, 0), (.aload_n 1, 1, 0, 0), (.bipush 8, 8, 0, 0), (.iload_n 2, 2, 0, 0), (.iadd, 0, 0, 0), (.aload_n 0, 0, 0, 0), (.aload_n 0, 0, 0, 0), (.getfield 37, 7, 12, 2), (.iload 4, 4, 0, 0), (.iload_n 2, 2, 0, 0), (.invokevirtual 189, 130, 4, 8), (.iastore, 0, 0, 0), (.aload_n 1, 1, 0, 0), (.bipush 16, 16, 0, 0), (.iload_n 2, 2, 0, 0), (.iadd, 0, 0, 0), (.aload_n 0, 0, 0, 0), (.aload_n 0, 0, 0, 0), (.getfield 37, 7, 12, 2), (.iload 4, 4, 0, 0), (.invokevirtual 186, 129, 3, 8), (.iastore, 0, 0, 0)]
theorem cb_134_223 : z_chk 134 bo_134_223 223 263 [723, 948, 723, 972] = true := by decide +kernel
def bo_134_263 : List ZO := [(.aload_n 1, 1, 0, 0), (.iconst 0, 0, 0, 0), (.iload_n 2, 2, 0, 0), (.iadd, 0, 0, 0), (.iaload, 0, 0, 0), (.bipush (-9), 9, 0, 1), (.if_icmp .ne 20, 290, 0, 0), (.aload_n 1, 1, 0, 0), (.bipush 8, 8, 0, 0), (.iload_n 2, 2, 0, 0), (.iadd, 0, 0, 0), (.iconst 0, 0, 0, 0), (.iastore, 0, 0, 0), (.aload_n 1, 1, 0, 0), (.bipush 16, 16, 0, 0), (.iload_n 2, 2, 0, 0), (.iadd, 0, 0, 0), (.iconst 0, 0, 0, 0), (.iastore, 0, 0, 0), (.iload 5, 5, 0, 0), (.ireturn, 1, 0, 0)]
theorem cb_134_263 : z_chk 134 bo_134_263 263 0 [] = true := by decide +kernel
def bo_134_290 : List ZO := [(.aload_n 1, 1, 0, 0), (.bipush 16, 16, 0, 0), (.iload_n 2, 2, 0, 0), (.iadd, 0, 0, 0), (.iaload, 0, 0, 0), (.aload_n 1, 1, 0, 0), (.bipush 24, 24, 0, 0), (.iload_n 2, 2, 0, 0), (.iadd, 0, 0, 0), (.iaload, 0, 0, 0), (.if_icmp .le 30, 332, 0, 0), (.aload_n 1, 1, 0, 0), (.bipush 24, 24, 0, 0), (.iload_n 2, 2, 0, 0), (.iadd, 0, 0, 0), (.aload_n 1, 1, 0, 0), (.bipush 16, 16, 0, 0), (.iload_n 2, 2, 0, 0), (.iadd, 0, 0, 0), (.iaload, 0, 0, 0), (.iastore, 0, 0, 0), (.aload_n 1, 1, 0, 0), (.bipush 32, 32, 0, 0), (.iload_n 2, 2, 0, 0), (.iadd, 0, 0, 0), (.aload_n 1, 1, 0, 0), (.bipush 8, 8, 0, 0), (.iload_n 2, 2, 0, 0), (.iadd, 0, 0, 0), (.iaload, 0, 0, 0), (.iastore, 0, 0, 0), (.goto 30, 359, 0, 0)]
theorem cb_134_290 : z_chk 134 bo_134_290 290 0 [] = true := by decide +kernel
def bo_134_332 : List ZO := [(.aload_n 1, 1, 0, 0), (.bipush 8, 8, 0, 0), (.iload_n 2, 2, 0, 0), (.iadd, 0, 0, 0), (.iaload, 0, 0, 0), (.aload_n 1, 1, 0, 0), (.bipush 32, 32, 0, 0), (.iload_n 2, 2, 0, 0), (.iadd, 0, 0, 0), (.iaload, 0, 0, 0), (.if_icmp .ge 15, 359, 0, 0), (.aload_n 1, 1, 0, 0), (.bipush 32, 32, 0, 0), (.iload_n 2, 2, 0, 0), (.iadd, 0, 0, 0), (.aload_n 1, 1, 0, 0), (.bipush 8, 8, 0, 0), (.iload_n 2, 2, 0, 0), (.iadd, 0, 0, 0), (.iaload, 0, 0, 0), (.iastore, 0, 0, 0), (.iconst 0, 0, 0, 0), (.ireturn, 1, 0, 0)]
theorem cb_134_332 : z_chk 134 bo_134_332 332 0 [] = true := by decide +kernel
def bo_134_359 : List ZO := [(.iconst 0, 0, 0, 0), (.ireturn, 1, 0, 0)]
theorem cb_134_359 : z_chk 134 bo_134_359 359 0 [] = true := by decide +kernel
def bk_134 : List (Nat × ZE) := [(0, false, [true, true, true, false, false, false, false], bo_134_0, 0), (62, false, [true, true, true, false, false, false, false], bo_134_62, 79), (69, false, [true, true, true, false, false, false, false], bo_134_69, 79), (79, true, [true, true, true, false, true, true, true], bo_134_79, 0), (115, false, [true, true, true, false, true, false, true], bo_134_115, 0), (119, false, [true, true, true, false, true, false, true], bo_134_119, 120), (120, true, [true, true, true, false, true, false, true], bo_134_120, 0), (168, false, [true, true, true, false, false, true, true], bo_134_168, 0), (172, false, [true, true, true, false, true, true, true], bo_134_172, 0), (178, false, [true, true, true, false, true, true, false], bo_134_178, 263), (223, false, [true, true, true, false, true, true, false], bo_134_223, 263), (263, true, [false, true, true, false, false, true, false], bo_134_263, 0), (290, false, [false, true, true, false, false, false, false], bo_134_290, 0), (332, false, [false, true, true, false, false, false, false], bo_134_332, 0), (359, false, [false, false, false, false, false, false, false], bo_134_359, 0)]
theorem ck_134 : z_chks 134 bk_134 [[723, 723, 1000, 723, 948, 723, 972], [], [], [713, 723, 948], [], [], [723, 1000, 723, 948, 723, 948], [], [], [723, 948, 723, 723, 948, 723, 972], [723, 948, 723, 972], [], [], [], []] = true := z_chks_cons cb_134_0 (z_chks_cons cb_134_62 (z_chks_cons cb_134_69 (z_chks_cons cb_134_79 (z_chks_cons cb_134_115 (z_chks_cons cb_134_119 (z_chks_cons cb_134_120 (z_chks_cons cb_134_168 (z_chks_cons cb_134_172 (z_chks_cons cb_134_178 (z_chks_cons cb_134_223 (z_chks_cons cb_134_263 (z_chks_cons cb_134_290 (z_chks_cons cb_134_332 (z_chks_cons cb_134_359 (z_chks_nil)))))))))))))))
theorem bf_134_0 : z_fd bk_134 0 = some (false, [true, true, true, false, false, false, false], bo_134_0, 0) := rfl
theorem bf_134_62 : z_fd bk_134 62 = some (false, [true, true, true, false, false, false, false], bo_134_62, 79) := rfl
theorem bf_134_69 : z_fd bk_134 69 = some (false, [true, true, true, false, false, false, false], bo_134_69, 79) := rfl
theorem bf_134_79 : z_fd bk_134 79 = some (true, [true, true, true, false, true, true, true], bo_134_79, 0) := rfl
theorem bf_134_115 : z_fd bk_134 115 = some (false, [true, true, true, false, true, false, true], bo_134_115, 0) := rfl
theorem bf_134_119 : z_fd bk_134 119 = some (false, [true, true, true, false, true, false, true], bo_134_119, 120) := rfl
theorem bf_134_120 : z_fd bk_134 120 = some (true, [true, true, true, false, true, false, true], bo_134_120, 0) := rfl
theorem bf_134_168 : z_fd bk_134 168 = some (false, [true, true, true, false, false, true, true], bo_134_168, 0) := rfl
theorem bf_134_172 : z_fd bk_134 172 = some (false, [true, true, true, false, true, true, true], bo_134_172, 0) := rfl
theorem bf_134_178 : z_fd bk_134 178 = some (false, [true, true, true, false, true, true, false], bo_134_178, 263) := rfl
theorem bf_134_223 : z_fd bk_134 223 = some (false, [true, true, true, false, true, true, false], bo_134_223, 263) := rfl
theorem bf_134_263 : z_fd bk_134 263 = some (true, [false, true, true, false, false, true, false], bo_134_263, 0) := rfl
theorem bf_134_290 : z_fd bk_134 290 = some (false, [false, true, true, false, false, false, false], bo_134_290, 0) := rfl
theorem bf_134_332 : z_fd bk_134 332 = some (false, [false, true, true, false, false, false, false], bo_134_332, 0) := rfl
theorem bf_134_359 : z_fd bk_134 359 = some (false, [false, false, false, false, false, false, false], bo_134_359, 0) := rfl
theorem cl_134 : z_mL 134 = 7 := by decide +kernel
theorem cz_134 : plainFor (z_my 134) = true ∧ ((z_rm 134).cells = 0 ∧ (z_rm 134).slots = 0) := by decide +kernel
-- 135 Model_goOn
def bo_135_0 : List ZO := [(.aload_n 1, 1, 0, 0), (.aload_n 0, 0, 0, 0), (.getfield 37, 7, 12, 2), (.invokestatic 199, 102, 2, 0), (.iconst 0, 0, 0, 0), (.istore_n 2, 2, 0, 0), (.iconst 0, 0, 0, 0), (.istore_n 3, 3, 0, 0)]
theorem cb_135_0 : z_chk 135 bo_135_0 0 12 [723, 989] = true := by decide +kernel
def bo_135_12 : List ZO := [(.iload_n 3, 3, 0, 0), (.aload_n 0, 0, 0, 0), (.getfield 99, 7, 2, 0), (.if_icmp .ge 52, 69, 0, 0), (.aload_n 0, 0, 0, 0), (.getfield 13, 7, 3, 2), (.iload_n 3, 3, 0, 0), (.iaload, 0, 0, 0), (.ifCond .eq 37, 63, 0, 0), (.aload_n 0, 0, 0, 0), (.iload_n 3, 3, 0, 0), (.aload_n 0, 0, 0, 0), (.getfield 37, 7, 12, 2), (.bipush 77, 77, 0, 0), (.iaload, 0, 0, 0), (.invokevirtual 203, 133, 3, 8), (.ifCond .eq 22, 63, 0, 0), (.aload_n 0, 0, 0, 0), (.aload_n 1, 1, 0, 0), (.iload_n 3, 3, 0, 0), (.invokevirtual 206, 134, 3, 8), (.ifCond .ne 7, 57, 0, 0), (.iload_n 2, 2, 0, 0), (.ifCond .eq 7, 61, 0, 0), (.iconst 1, 1, 0, 0), (.goto 4, 62, 0, 0)]
theorem cb_135_12 : z_chk 135 bo_135_12 12 0 [713, 714, 723, 992, 996] = true := by decide +kernel
def bo_135_57 : List ZO := [(.iconst 1, 1, 0, 0), (.goto 4, 62, 0, 0)]
theorem cb_135_57 : z_chk 135 bo_135_57 57 0 [] = true := by decide +kernel
def bo_135_61 : List ZO := [(.iconst 0, 0, 0, 0), (.istore_n 2, 2, 0, 0), (.iinc 3 1, 1, 3, 0), (.goto (-54), 12, 0, 0)]
theorem cb_135_61 : z_chk 135 bo_135_61 61 0 [] = true := by decide +kernel
def bo_135_62 : List ZO := [(.istore_n 2, 2, 0, 0), (.iinc 3 1, 1, 3, 0), (.goto (-54), 12, 0, 0)]
theorem cb_135_62 : z_chk 135 bo_135_62 62 0 [] = true := by decide +kernel
def bo_135_63 : List ZO := [(.iinc 3 1, 1, 3, 0), (.goto (-54), 12, 0, 0)]
theorem cb_135_63 : z_chk 135 bo_135_63 63 0 [] = true := by decide +kernel
def bo_135_69 : List ZO := [(.aload_n 1, 1, 0, 0), (.bipush 76, 76, 0, 0), (.dup2, 0, 0, 0), (.iaload, 0, 0, 0), (.iload_n 2, 2, 0, 0), (.ifCond .eq 7, 82, 0, 0), (.iconst 1, 1, 0, 0), (.goto 4, 83, 0, 0)]
theorem cb_135_69 : z_chk 135 bo_135_69 69 0 [] = true := by decide +kernel
def bo_135_82 : List ZO := [(.iconst 0, 0, 0, 0), (.iadd, 0, 0, 0), (.iastore, 0, 0, 0), (.aload_n 1, 1, 0, 0), (.bipush 77, 77, 0, 0), (.dup2, 0, 0, 0), (.iaload, 0, 0, 0), (.iconst 1, 1, 0, 0), (.iadd, 0, 0, 0), (.iastore, 0, 0, 0), (.return_, 0, 0, 0)]
theorem cb_135_82 : z_chk 135 bo_135_82 82 0 [] = true := by decide +kernel
def bo_135_83 : List ZO := [(.iadd, 0, 0, 0), (.iastore, 0, 0, 0), (.aload_n 1, 1, 0, 0), (.bipush 77, 77, 0, 0), (.dup2, 0, 0, 0), (.iaload, 0, 0, 0), (.iconst 1, 1, 0, 0), (.iadd, 0, 0, 0), (.iastore, 0, 0, 0), (.return_, 0, 0, 0)]
theorem cb_135_83 : z_chk 135 bo_135_83 83 0 [] = true := by decide +kernel
def bk_135 : List (Nat × ZE) := [(0, false, [true, true, false, false], bo_135_0, 12), (12, true, [true, true, true, true], bo_135_12, 0), (57, false, [true, true, false, true], bo_135_57, 0), (61, false, [true, true, false, true], bo_135_61, 0), (62, false, [true, true, false, true], bo_135_62, 0), (63, false, [true, true, true, true], bo_135_63, 0), (69, false, [false, true, true, false], bo_135_69, 0), (82, false, [false, true, false, false], bo_135_82, 0), (83, false, [false, true, false, false], bo_135_83, 0)]
theorem ck_135 : z_chks 135 bk_135 [[723, 989], [713, 714, 723, 992, 996], [], [], [], [], [], [], []] = true := z_chks_cons cb_135_0 (z_chks_cons cb_135_12 (z_chks_cons cb_135_57 (z_chks_cons cb_135_61 (z_chks_cons cb_135_62 (z_chks_cons cb_135_63 (z_chks_cons cb_135_69 (z_chks_cons cb_135_82 (z_chks_cons cb_135_83 (z_chks_nil)))))))))
theorem bf_135_0 : z_fd bk_135 0 = some (false, [true, true, false, false], bo_135_0, 12) := rfl
theorem bf_135_12 : z_fd bk_135 12 = some (true, [true, true, true, true], bo_135_12, 0) := rfl
theorem bf_135_57 : z_fd bk_135 57 = some (false, [true, true, false, true], bo_135_57, 0) := rfl
theorem bf_135_61 : z_fd bk_135 61 = some (false, [true, true, false, true], bo_135_61, 0) := rfl
theorem bf_135_62 : z_fd bk_135 62 = some (false, [true, true, false, true], bo_135_62, 0) := rfl
theorem bf_135_63 : z_fd bk_135 63 = some (false, [true, true, true, true], bo_135_63, 0) := rfl
theorem bf_135_69 : z_fd bk_135 69 = some (false, [false, true, true, false], bo_135_69, 0) := rfl
theorem bf_135_82 : z_fd bk_135 82 = some (false, [false, true, false, false], bo_135_82, 0) := rfl
theorem bf_135_83 : z_fd bk_135 83 = some (false, [false, true, false, false], bo_135_83, 0) := rfl
theorem cl_135 : z_mL 135 = 4 := by decide +kernel
theorem cz_135 : plainFor (z_my 135) = true ∧ ((z_rm 135).cells = 0 ∧ (z_rm 135).slots = 0) := by decide +kernel
-- 136 Model_tryRounds
def bo_136_0 : List ZO := [(.iconst 0, 0, 0, 0), (.istore_n 2, 2, 0, 0)]
def bo_136_2 : List ZO := [(.iload_n 2, 2, 0, 0), (.iload_n 1, 1, 0, 0), (.if_icmp .ge 17, 21, 0, 0), (.aload_n 0, 0, 0, 0), (.aload_n 0, 0, 0, 0), (.getfield 34, 7, 11, 2), (.invokevirtual 209, 135, 2, 8), (.iinc 2 1, 1, 2, 0), (.goto (-16), 2, 0, 0)]
def bo_136_21 : List ZO := [(.return_, 0, 0, 0)]
def bk_136 : List (Nat × ZE) := [(0, false, [true, true, false], bo_136_0, 2), (2, true, [true, true, true], bo_136_2, 0), (21, false, [false, false, false], bo_136_21, 0)]
theorem ck_136 : z_chks 136 bk_136 [[], [722, 985], []] = true := by decide +kernel
theorem bf_136_0 : z_fd bk_136 0 = some (false, [true, true, false], bo_136_0, 2) := rfl
theorem bf_136_2 : z_fd bk_136 2 = some (true, [true, true, true], bo_136_2, 0) := rfl
theorem bf_136_21 : z_fd bk_136 21 = some (false, [false, false, false], bo_136_21, 0) := rfl
theorem cl_136 : z_mL 136 = 3 := by decide +kernel
theorem cz_136 : plainFor (z_my 136) = true ∧ ((z_rm 136).cells = 0 ∧ (z_rm 136).slots = 0) := by decide +kernel
-- 137 Model_endOf
def bo_137_0 : List ZO := [(.iload_n 2, 2, 0, 0), (.istore_n 3, 3, 0, 0), (.iconst 0, 0, 0, 0), (.istore 4, 4, 0, 0)]
def bo_137_5 : List ZO := [(.iload 4, 4, 0, 0), (.aload_n 0, 0, 0, 0), (.getfield 99, 7, 2, 0), (.if_icmp .ge 34, 45, 0, 0), (.aload_n 0, 0, 0, 0), (.getfield 13, 7, 3, 2), (.iload_n 3, 3, 0, 0), (.iaload, 0, 0, 0), (.ifCond .eq 25, 45, 0, 0), (.aload_n 1, 1, 0, 0), (.iconst 0, 0, 0, 0), (.iload_n 3, 3, 0, 0), (.iadd, 0, 0, 0), (.iaload, 0, 0, 0), (.bipush (-9), 9, 0, 1), (.if_icmp .eq 15, 45, 0, 0), (.aload_n 1, 1, 0, 0), (.iconst 0, 0, 0, 0), (.iload_n 3, 3, 0, 0), (.iadd, 0, 0, 0), (.iaload, 0, 0, 0), (.istore_n 3, 3, 0, 0), (.iinc 4 1, 1, 4, 0), (.goto (-37), 5, 0, 0)]
def bo_137_45 : List ZO := [(.aload_n 0, 0, 0, 0), (.getfield 13, 7, 3, 2), (.iload_n 3, 3, 0, 0), (.iaload, 0, 0, 0), (.ifCond .ne 18, 69, 0, 0), (.aload_n 0, 0, 0, 0), (.getfield 92, 7, 23, 0), (.iload_n 3, 3, 0, 0), (.invokestatic 168, 104, 2, 0), (.ifCond .eq 7, 69, 0, 0), (.iload_n 3, 3, 0, 0), (.goto 5, 71, 0, 0)]
def bo_137_69 : List ZO := [(.bipush (-9), 9, 0, 1), (.ireturn, 0, 0, 0)]
def bo_137_71 : List ZO := [(.ireturn, 0, 0, 0)]
def bk_137 : List (Nat × ZE) := [(0, false, [true, true, true, false, false], bo_137_0, 5), (5, true, [true, true, false, true, true], bo_137_5, 0), (45, false, [true, false, false, true, false], bo_137_45, 0), (69, false, [false, false, false, false, false], bo_137_69, 0), (71, false, [false, false, false, false, false], bo_137_71, 0)]
theorem ck_137 : z_chks 137 bk_137 [[], [713, 714], [714, 734, 905], [], []] = true := by decide +kernel
theorem bf_137_0 : z_fd bk_137 0 = some (false, [true, true, true, false, false], bo_137_0, 5) := rfl
theorem bf_137_5 : z_fd bk_137 5 = some (true, [true, true, false, true, true], bo_137_5, 0) := rfl
theorem bf_137_45 : z_fd bk_137 45 = some (false, [true, false, false, true, false], bo_137_45, 0) := rfl
theorem bf_137_69 : z_fd bk_137 69 = some (false, [false, false, false, false, false], bo_137_69, 0) := rfl
theorem bf_137_71 : z_fd bk_137 71 = some (false, [false, false, false, false, false], bo_137_71, 0) := rfl
theorem cl_137 : z_mL 137 = 5 := by decide +kernel
theorem cz_137 : plainFor (z_my 137) = true ∧ ((z_rm 137).cells = 0 ∧ (z_rm 137).slots = 0) := by decide +kernel
-- 138 Model_reached
def bo_138_0 : List ZO := [(.iconst 0, 0, 0, 0), (.istore_n 2, 2, 0, 0), (.iconst 0, 0, 0, 0), (.istore_n 3, 3, 0, 0)]
def bo_138_4 : List ZO := [(.iload_n 3, 3, 0, 0), (.aload_n 0, 0, 0, 0), (.getfield 99, 7, 2, 0), (.if_icmp .ge 30, 39, 0, 0), (.iload_n 2, 2, 0, 0), (.aload_n 0, 0, 0, 0), (.aload_n 1, 1, 0, 0), (.iload_n 3, 3, 0, 0), (.invokevirtual 213, 137, 3, 8), (.bipush (-9), 9, 0, 1), (.if_icmp .eq 9, 30, 0, 0), (.iconst 1, 1, 0, 0), (.iload_n 3, 3, 0, 0), (.ishl, 0, 0, 0), (.goto 4, 31, 0, 0)]
def bo_138_30 : List ZO := [(.iconst 0, 0, 0, 0), (.ior, 0, 0, 0), (.istore_n 2, 2, 0, 0), (.iinc 3 1, 1, 3, 0), (.goto (-32), 4, 0, 0)]
def bo_138_31 : List ZO := [(.ior, 0, 0, 0), (.istore_n 2, 2, 0, 0), (.iinc 3 1, 1, 3, 0), (.goto (-32), 4, 0, 0)]
def bo_138_39 : List ZO := [(.iload_n 2, 2, 0, 0), (.ireturn, 0, 0, 0)]
def bk_138 : List (Nat × ZE) := [(0, false, [true, true, false, false], bo_138_0, 4), (4, true, [true, true, true, true], bo_138_4, 0), (30, false, [true, true, false, true], bo_138_30, 0), (31, false, [true, true, false, true], bo_138_31, 0), (39, false, [false, false, true, false], bo_138_39, 0)]
theorem ck_138 : z_chks 138 bk_138 [[], [713, 901], [], [], []] = true := by decide +kernel
theorem bf_138_0 : z_fd bk_138 0 = some (false, [true, true, false, false], bo_138_0, 4) := rfl
theorem bf_138_4 : z_fd bk_138 4 = some (true, [true, true, true, true], bo_138_4, 0) := rfl
theorem bf_138_30 : z_fd bk_138 30 = some (false, [true, true, false, true], bo_138_30, 0) := rfl
theorem bf_138_31 : z_fd bk_138 31 = some (false, [true, true, false, true], bo_138_31, 0) := rfl
theorem bf_138_39 : z_fd bk_138 39 = some (false, [false, false, true, false], bo_138_39, 0) := rfl
theorem cl_138 : z_mL 138 = 4 := by decide +kernel
theorem cz_138 : plainFor (z_my 138) = true ∧ ((z_rm 138).cells = 0 ∧ (z_rm 138).slots = 0) := by decide +kernel
-- 139 Model_loadOf
def bo_139_0 : List ZO := [(.iconst 0, 0, 0, 0), (.istore_n 3, 3, 0, 0), (.iconst 0, 0, 0, 0), (.istore 4, 4, 0, 0)]
def bo_139_5 : List ZO := [(.iload 4, 4, 0, 0), (.aload_n 0, 0, 0, 0), (.getfield 99, 7, 2, 0), (.if_icmp .ge 34, 45, 0, 0), (.iload_n 3, 3, 0, 0), (.iload 4, 4, 0, 0), (.iload_n 2, 2, 0, 0), (.if_icmp .eq 18, 36, 0, 0), (.aload_n 0, 0, 0, 0), (.aload_n 1, 1, 0, 0), (.iload 4, 4, 0, 0), (.invokevirtual 213, 137, 3, 8), (.iload_n 2, 2, 0, 0), (.if_icmp .ne 7, 36, 0, 0), (.iconst 1, 1, 0, 0), (.goto 4, 37, 0, 0)]
def bo_139_36 : List ZO := [(.iconst 0, 0, 0, 0), (.iadd, 0, 0, 0), (.istore_n 3, 3, 0, 0), (.iinc 4 1, 1, 4, 0), (.goto (-37), 5, 0, 0)]
def bo_139_37 : List ZO := [(.iadd, 0, 0, 0), (.istore_n 3, 3, 0, 0), (.iinc 4 1, 1, 4, 0), (.goto (-37), 5, 0, 0)]
def bo_139_45 : List ZO := [(.iload_n 3, 3, 0, 0), (.ireturn, 0, 0, 0)]
def bk_139 : List (Nat × ZE) := [(0, false, [true, true, true, false, false], bo_139_0, 5), (5, true, [true, true, true, true, true], bo_139_5, 0), (36, false, [true, true, true, false, true], bo_139_36, 0), (37, false, [true, true, true, false, true], bo_139_37, 0), (45, false, [false, false, false, true, false], bo_139_45, 0)]
theorem ck_139 : z_chks 139 bk_139 [[], [713, 901], [], [], []] = true := by decide +kernel
theorem bf_139_0 : z_fd bk_139 0 = some (false, [true, true, true, false, false], bo_139_0, 5) := rfl
theorem bf_139_5 : z_fd bk_139 5 = some (true, [true, true, true, true, true], bo_139_5, 0) := rfl
theorem bf_139_36 : z_fd bk_139 36 = some (false, [true, true, true, false, true], bo_139_36, 0) := rfl
theorem bf_139_37 : z_fd bk_139 37 = some (false, [true, true, true, false, true], bo_139_37, 0) := rfl
theorem bf_139_45 : z_fd bk_139 45 = some (false, [false, false, false, true, false], bo_139_45, 0) := rfl
theorem cl_139 : z_mL 139 = 5 := by decide +kernel
theorem cz_139 : plainFor (z_my 139) = true ∧ ((z_rm 139).cells = 0 ∧ (z_rm 139).slots = 0) := by decide +kernel
-- 140 Model_those
def bo_140_0 : List ZO := [(.iconst 0, 0, 0, 0), (.istore_n 2, 2, 0, 0), (.iconst 0, 0, 0, 0), (.istore_n 3, 3, 0, 0)]
def bo_140_4 : List ZO := [(.iload_n 3, 3, 0, 0), (.aload_n 0, 0, 0, 0), (.getfield 99, 7, 2, 0), (.if_icmp .ge 29, 38, 0, 0), (.iload_n 2, 2, 0, 0), (.aload_n 0, 0, 0, 0), (.getfield 13, 7, 3, 2), (.iload_n 3, 3, 0, 0), (.iaload, 0, 0, 0), (.iload_n 1, 1, 0, 0), (.if_icmp .ne 9, 29, 0, 0), (.iconst 1, 1, 0, 0), (.iload_n 3, 3, 0, 0), (.ishl, 0, 0, 0), (.goto 4, 30, 0, 0)]
def bo_140_29 : List ZO := [(.iconst 0, 0, 0, 0), (.ior, 0, 0, 0), (.istore_n 2, 2, 0, 0), (.iinc 3 1, 1, 3, 0), (.goto (-31), 4, 0, 0)]
def bo_140_30 : List ZO := [(.ior, 0, 0, 0), (.istore_n 2, 2, 0, 0), (.iinc 3 1, 1, 3, 0), (.goto (-31), 4, 0, 0)]
def bo_140_38 : List ZO := [(.iload_n 2, 2, 0, 0), (.ireturn, 0, 0, 0)]
def bk_140 : List (Nat × ZE) := [(0, false, [true, true, false, false], bo_140_0, 4), (4, true, [true, true, true, true], bo_140_4, 0), (29, false, [true, true, false, true], bo_140_29, 0), (30, false, [true, true, false, true], bo_140_30, 0), (38, false, [false, false, true, false], bo_140_38, 0)]
theorem ck_140 : z_chks 140 bk_140 [[], [713, 714], [], [], []] = true := by decide +kernel
theorem bf_140_0 : z_fd bk_140 0 = some (false, [true, true, false, false], bo_140_0, 4) := rfl
theorem bf_140_4 : z_fd bk_140 4 = some (true, [true, true, true, true], bo_140_4, 0) := rfl
theorem bf_140_29 : z_fd bk_140 29 = some (false, [true, true, false, true], bo_140_29, 0) := rfl
theorem bf_140_30 : z_fd bk_140 30 = some (false, [true, true, false, true], bo_140_30, 0) := rfl
theorem bf_140_38 : z_fd bk_140 38 = some (false, [false, false, true, false], bo_140_38, 0) := rfl
theorem cl_140 : z_mL 140 = 4 := by decide +kernel
theorem cz_140 : plainFor (z_my 140) = true ∧ ((z_rm 140).cells = 0 ∧ (z_rm 140).slots = 0) := by decide +kernel
-- 141 Model_downs
def bo_141_0 : List ZO := [(.iconst 0, 0, 0, 0), (.istore_n 1, 1, 0, 0), (.iconst 0, 0, 0, 0), (.istore_n 2, 2, 0, 0)]
def bo_141_4 : List ZO := [(.iload_n 2, 2, 0, 0), (.aload_n 0, 0, 0, 0), (.getfield 110, 7, 6, 0), (.if_icmp .ge 23, 32, 0, 0), (.iload_n 1, 1, 0, 0), (.aload_n 0, 0, 0, 0), (.getfield 31, 7, 10, 2), (.bipush 58, 58, 0, 0), (.iload_n 2, 2, 0, 0), (.iadd, 0, 0, 0), (.iaload, 0, 0, 0), (.iload_n 2, 2, 0, 0), (.ishl, 0, 0, 0), (.ior, 0, 0, 0), (.istore_n 1, 1, 0, 0), (.iinc 2 1, 1, 2, 0), (.goto (-25), 4, 0, 0)]
def bo_141_32 : List ZO := [(.iload_n 1, 1, 0, 0), (.ireturn, 0, 0, 0)]
def bk_141 : List (Nat × ZE) := [(0, false, [true, false, false], bo_141_0, 4), (4, true, [true, true, true], bo_141_4, 0), (32, false, [false, true, false], bo_141_32, 0)]
theorem ck_141 : z_chks 141 bk_141 [[], [717, 721], []] = true := by decide +kernel
theorem bf_141_0 : z_fd bk_141 0 = some (false, [true, false, false], bo_141_0, 4) := rfl
theorem bf_141_4 : z_fd bk_141 4 = some (true, [true, true, true], bo_141_4, 0) := rfl
theorem bf_141_32 : z_fd bk_141 32 = some (false, [false, true, false], bo_141_32, 0) := rfl
theorem cl_141 : z_mL 141 = 3 := by decide +kernel
theorem cz_141 : plainFor (z_my 141) = true ∧ ((z_rm 141).cells = 0 ∧ (z_rm 141).slots = 0) := by decide +kernel
-- 142 Model_about
def bo_142_0 : List ZO := [(.iload_n 1, 1, 0, 0), (.tableswitch 138 0 11 #[63, 68, 73, 79, 85, 93, 101, 109, 118, 123, 128, 133], 1, 0, 11)]
theorem cb_142_0 : z_chk 142 bo_142_0 0 0 [] = true := by decide +kernel
def bo_142_64 : List ZO := [(.aload_n 0, 0, 0, 0), (.getfield 99, 7, 2, 0), (.ireturn, 0, 0, 0)]
theorem cb_142_64 : z_chk 142 bo_142_64 64 0 [713] = true := by decide +kernel
def bo_142_69 : List ZO := [(.aload_n 0, 0, 0, 0), (.getfield 110, 7, 6, 0), (.ireturn, 0, 0, 0)]
theorem cb_142_69 : z_chk 142 bo_142_69 69 0 [717] = true := by decide +kernel
def bo_142_74 : List ZO := [(.aload_n 0, 0, 0, 0), (.iconst 0, 0, 0, 0), (.invokevirtual 216, 140, 2, 8), (.ireturn, 0, 0, 0)]
theorem cb_142_74 : z_chk 142 bo_142_74 74 0 [893] = true := by decide +kernel
def bo_142_80 : List ZO := [(.aload_n 0, 0, 0, 0), (.iconst 2, 2, 0, 0), (.invokevirtual 216, 140, 2, 8), (.ireturn, 0, 0, 0)]
theorem cb_142_80 : z_chk 142 bo_142_80 80 0 [893] = true := by decide +kernel
def bo_142_86 : List ZO := [(.aload_n 0, 0, 0, 0), (.getfield 31, 7, 10, 2), (.bipush 75, 75, 0, 0), (.iaload, 0, 0, 0), (.ireturn, 0, 0, 0)]
theorem cb_142_86 : z_chk 142 bo_142_86 86 0 [721] = true := by decide +kernel
def bo_142_94 : List ZO := [(.aload_n 0, 0, 0, 0), (.getfield 31, 7, 10, 2), (.bipush 76, 76, 0, 0), (.iaload, 0, 0, 0), (.ireturn, 0, 0, 0)]
theorem cb_142_94 : z_chk 142 bo_142_94 94 0 [721] = true := by decide +kernel
def bo_142_102 : List ZO := [(.aload_n 0, 0, 0, 0), (.getfield 31, 7, 10, 2), (.bipush 77, 77, 0, 0), (.iaload, 0, 0, 0), (.ireturn, 0, 0, 0)]
theorem cb_142_102 : z_chk 142 bo_142_102 102 0 [721] = true := by decide +kernel
def bo_142_110 : List ZO := [(.aload_n 0, 0, 0, 0), (.aload_n 0, 0, 0, 0), (.getfield 31, 7, 10, 2), (.invokevirtual 220, 138, 2, 8), (.ireturn, 0, 0, 0)]
theorem cb_142_110 : z_chk 142 bo_142_110 110 0 [721, 897] = true := by decide +kernel
def bo_142_119 : List ZO := [(.aload_n 0, 0, 0, 0), (.invokevirtual 224, 141, 1, 8), (.ireturn, 0, 0, 0)]
theorem cb_142_119 : z_chk 142 bo_142_119 119 0 [908] = true := by decide +kernel
def bo_142_124 : List ZO := [(.aload_n 0, 0, 0, 0), (.getfield 165, 7, 14, 0), (.ireturn, 0, 0, 0)]
theorem cb_142_124 : z_chk 142 bo_142_124 124 0 [725] = true := by decide +kernel
def bo_142_129 : List ZO := [(.aload_n 0, 0, 0, 0), (.getfield 227, 7, 21, 0), (.ireturn, 0, 0, 0)]
theorem cb_142_129 : z_chk 142 bo_142_129 129 0 [732] = true := by decide +kernel
def bo_142_134 : List ZO := [(.aload_n 0, 0, 0, 0), (.getfield 115, 7, 1, 0), (.ireturn, 0, 0, 0)]
theorem cb_142_134 : z_chk 142 bo_142_134 134 0 [712] = true := by decide +kernel
def bo_142_139 : List ZO := [(.bipush (-2), 2, 0, 1), (.ireturn, 0, 0, 0)]
theorem cb_142_139 : z_chk 142 bo_142_139 139 0 [] = true := by decide +kernel
def bk_142 : List (Nat × ZE) := [(0, false, [true, true], bo_142_0, 0), (64, false, [true, false], bo_142_64, 0), (69, false, [true, false], bo_142_69, 0), (74, false, [true, false], bo_142_74, 0), (80, false, [true, false], bo_142_80, 0), (86, false, [true, false], bo_142_86, 0), (94, false, [true, false], bo_142_94, 0), (102, false, [true, false], bo_142_102, 0), (110, false, [true, false], bo_142_110, 0), (119, false, [true, false], bo_142_119, 0), (124, false, [true, false], bo_142_124, 0), (129, false, [true, false], bo_142_129, 0), (134, false, [true, false], bo_142_134, 0), (139, false, [false, false], bo_142_139, 0)]
theorem ck_142 : z_chks 142 bk_142 [[], [713], [717], [893], [893], [721], [721], [721], [721, 897], [908], [725], [732], [712], []] = true := z_chks_cons cb_142_0 (z_chks_cons cb_142_64 (z_chks_cons cb_142_69 (z_chks_cons cb_142_74 (z_chks_cons cb_142_80 (z_chks_cons cb_142_86 (z_chks_cons cb_142_94 (z_chks_cons cb_142_102 (z_chks_cons cb_142_110 (z_chks_cons cb_142_119 (z_chks_cons cb_142_124 (z_chks_cons cb_142_129 (z_chks_cons cb_142_134 (z_chks_cons cb_142_139 (z_chks_nil))))))))))))))
theorem bf_142_0 : z_fd bk_142 0 = some (false, [true, true], bo_142_0, 0) := rfl
theorem bf_142_64 : z_fd bk_142 64 = some (false, [true, false], bo_142_64, 0) := rfl
theorem bf_142_69 : z_fd bk_142 69 = some (false, [true, false], bo_142_69, 0) := rfl
theorem bf_142_74 : z_fd bk_142 74 = some (false, [true, false], bo_142_74, 0) := rfl
theorem bf_142_80 : z_fd bk_142 80 = some (false, [true, false], bo_142_80, 0) := rfl
theorem bf_142_86 : z_fd bk_142 86 = some (false, [true, false], bo_142_86, 0) := rfl
theorem bf_142_94 : z_fd bk_142 94 = some (false, [true, false], bo_142_94, 0) := rfl
theorem bf_142_102 : z_fd bk_142 102 = some (false, [true, false], bo_142_102, 0) := rfl
theorem bf_142_110 : z_fd bk_142 110 = some (false, [true, false], bo_142_110, 0) := rfl
theorem bf_142_119 : z_fd bk_142 119 = some (false, [true, false], bo_142_119, 0) := rfl
theorem bf_142_124 : z_fd bk_142 124 = some (false, [true, false], bo_142_124, 0) := rfl
theorem bf_142_129 : z_fd bk_142 129 = some (false, [true, false], bo_142_129, 0) := rfl
theorem bf_142_134 : z_fd bk_142 134 = some (false, [true, false], bo_142_134, 0) := rfl
theorem bf_142_139 : z_fd bk_142 139 = some (false, [false, false], bo_142_139, 0) := rfl
theorem cl_142 : z_mL 142 = 2 := by decide +kernel
theorem cz_142 : plainFor (z_my 142) = true ∧ ((z_rm 142).cells = 0 ∧ (z_rm 142).slots = 0) := by decide +kernel
-- 143 Model_tell
def bo_143_0 : List ZO := [(.aload_n 0, 0, 0, 0), (.getfield 13, 7, 3, 2), (.iload_n 2, 2, 0, 0), (.iaload, 0, 0, 0), (.ifCond .ne 7, 13, 0, 0), (.iconst 1, 1, 0, 0), (.goto 4, 14, 0, 0)]
theorem cb_143_0 : z_chk 143 bo_143_0 0 0 [714] = true := by decide +kernel
def bo_143_13 : List ZO := [(.iconst 0, 0, 0, 0), (.istore 4, 4, 0, 0), (.iload 4, 4, 0, 0), (.ifCond .ne 17, 35, 0, 0), (.aload_n 1, 1, 0, 0), (.iconst 0, 0, 0, 0), (.iload_n 2, 2, 0, 0), (.iadd, 0, 0, 0), (.iaload, 0, 0, 0), (.bipush (-9), 9, 0, 1), (.if_icmp .eq 7, 35, 0, 0), (.iconst 1, 1, 0, 0), (.goto 4, 36, 0, 0)]
theorem cb_143_13 : z_chk 143 bo_143_13 13 0 [] = true := by decide +kernel
def bo_143_14 : List ZO := [(.istore 4, 4, 0, 0), (.iload 4, 4, 0, 0), (.ifCond .ne 17, 35, 0, 0), (.aload_n 1, 1, 0, 0), (.iconst 0, 0, 0, 0), (.iload_n 2, 2, 0, 0), (.iadd, 0, 0, 0), (.iaload, 0, 0, 0), (.bipush (-9), 9, 0, 1), (.if_icmp .eq 7, 35, 0, 0), (.iconst 1, 1, 0, 0), (.goto 4, 36, 0, 0)]
theorem cb_143_14 : z_chk 143 bo_143_14 14 0 [] = true := by decide +kernel
def bo_143_35 : List ZO := [(.iconst 0, 0, 0, 0), (.istore 5, 5, 0, 0)]
theorem cb_143_35 : z_chk 143 bo_143_35 35 38 [] = true := by decide +kernel
def bo_143_36 : List ZO := [(.istore 5, 5, 0, 0)]
theorem cb_143_36 : z_chk 143 bo_143_36 36 38 [] = true := by decide +kernel
def bo_143_38 : List ZO := [(.iload_n 3, 3, 0, 0), (.tableswitch 210 0 9 #[53, 60, 81, 102, 118, 135, 152, 169, 186, 193], 39, 0, 9)]
theorem cb_143_38 : z_chk 143 bo_143_38 38 0 [] = true := by decide +kernel
def bo_143_92 : List ZO := [(.aload_n 0, 0, 0, 0), (.getfield 13, 7, 3, 2), (.iload_n 2, 2, 0, 0), (.iaload, 0, 0, 0), (.ireturn, 0, 0, 0)]
theorem cb_143_92 : z_chk 143 bo_143_92 92 0 [714] = true := by decide +kernel
def bo_143_99 : List ZO := [(.iload 4, 4, 0, 0), (.ifCond .eq 12, 113, 0, 0), (.aload_n 1, 1, 0, 0), (.bipush 67, 67, 0, 0), (.iload_n 2, 2, 0, 0), (.iadd, 0, 0, 0), (.iaload, 0, 0, 0), (.goto 9, 119, 0, 0)]
theorem cb_143_99 : z_chk 143 bo_143_99 99 0 [] = true := by decide +kernel
def bo_143_113 : List ZO := [(.aload_n 0, 0, 0, 0), (.getfield 16, 7, 4, 2), (.iload_n 2, 2, 0, 0), (.iaload, 0, 0, 0), (.ireturn, 0, 0, 0)]
theorem cb_143_113 : z_chk 143 bo_143_113 113 0 [715] = true := by decide +kernel
def bo_143_119 : List ZO := [(.ireturn, 0, 0, 0)]
theorem cb_143_119 : z_chk 143 bo_143_119 119 0 [] = true := by decide +kernel
def bo_143_120 : List ZO := [(.aload_n 0, 0, 0, 0), (.getfield 13, 7, 3, 2), (.iload_n 2, 2, 0, 0), (.iaload, 0, 0, 0), (.iconst 2, 2, 0, 0), (.if_icmp .ne 12, 139, 0, 0), (.aload_n 0, 0, 0, 0), (.getfield 19, 7, 5, 2), (.iload_n 2, 2, 0, 0), (.iaload, 0, 0, 0), (.goto 4, 140, 0, 0)]
theorem cb_143_120 : z_chk 143 bo_143_120 120 0 [714, 716] = true := by decide +kernel
def bo_143_139 : List ZO := [(.iconst 0, 0, 0, 0), (.ireturn, 0, 0, 0)]
theorem cb_143_139 : z_chk 143 bo_143_139 139 0 [] = true := by decide +kernel
def bo_143_140 : List ZO := [(.ireturn, 0, 0, 0)]
theorem cb_143_140 : z_chk 143 bo_143_140 140 0 [] = true := by decide +kernel
def bo_143_141 : List ZO := [(.iload 5, 5, 0, 0), (.ifCond .eq 11, 154, 0, 0), (.aload_n 1, 1, 0, 0), (.iconst 0, 0, 0, 0), (.iload_n 2, 2, 0, 0), (.iadd, 0, 0, 0), (.iaload, 0, 0, 0), (.goto 5, 156, 0, 0)]
theorem cb_143_141 : z_chk 143 bo_143_141 141 0 [] = true := by decide +kernel
def bo_143_154 : List ZO := [(.bipush (-9), 9, 0, 1), (.ireturn, 0, 0, 0)]
theorem cb_143_154 : z_chk 143 bo_143_154 154 0 [] = true := by decide +kernel
def bo_143_156 : List ZO := [(.ireturn, 0, 0, 0)]
theorem cb_143_156 : z_chk 143 bo_143_156 156 0 [] = true := by decide +kernel
def bo_143_157 : List ZO := [(.iload 5, 5, 0, 0), (.ifCond .eq 12, 171, 0, 0), (.aload_n 1, 1, 0, 0), (.bipush 8, 8, 0, 0), (.iload_n 2, 2, 0, 0), (.iadd, 0, 0, 0), (.iaload, 0, 0, 0), (.goto 5, 173, 0, 0)]
theorem cb_143_157 : z_chk 143 bo_143_157 157 0 [] = true := by decide +kernel
def bo_143_171 : List ZO := [(.bipush (-9), 9, 0, 1), (.ireturn, 0, 0, 0)]
theorem cb_143_171 : z_chk 143 bo_143_171 171 0 [] = true := by decide +kernel
def bo_143_173 : List ZO := [(.ireturn, 0, 0, 0)]
theorem cb_143_173 : z_chk 143 bo_143_173 173 0 [] = true := by decide +kernel
def bo_143_174 : List ZO := [(.iload 5, 5, 0, 0), (.ifCond .eq 12, 188, 0, 0), (.aload_n 1, 1, 0, 0), (.bipush 16, 16, 0, 0), (.iload_n 2, 2, 0, 0), (.iadd, 0, 0, 0), (.iaload, 0, 0, 0), (.goto 5, 190, 0, 0)]
theorem cb_143_174 : z_chk 143 bo_143_174 174 0 [] = true := by decide +kernel
def bo_143_188 : List ZO := [(.bipush (-9), 9, 0, 1), (.ireturn, 0, 0, 0)]
theorem cb_143_188 : z_chk 143 bo_143_188 188 0 [] = true := by decide +kernel
def bo_143_190 : List ZO := [(.ireturn, 0, 0, 0)]
theorem cb_143_190 : z_chk 143 bo_143_190 190 0 [] = true := by decide +kernel
def bo_143_191 : List ZO := [(.iload 4, 4, 0, 0), (.ifCond .eq 8, 201, 0, 0), (.bipush (-9), 9, 0, 1), (.goto 9, 207, 0, 0)]
theorem cb_143_191 : z_chk 143 bo_143_191 191 0 [] = true := by decide +kernel
def bo_143_201 : List ZO := [(.aload_n 1, 1, 0, 0), (.bipush 24, 24, 0, 0), (.iload_n 2, 2, 0, 0), (.iadd, 0, 0, 0), (.iaload, 0, 0, 0), (.ireturn, 0, 0, 0)]
theorem cb_143_201 : z_chk 143 bo_143_201 201 0 [] = true := by decide +kernel
def bo_143_207 : List ZO := [(.ireturn, 0, 0, 0)]
theorem cb_143_207 : z_chk 143 bo_143_207 207 0 [] = true := by decide +kernel
def bo_143_208 : List ZO := [(.iload 4, 4, 0, 0), (.ifCond .eq 8, 218, 0, 0), (.bipush (-9), 9, 0, 1), (.goto 9, 224, 0, 0)]
theorem cb_143_208 : z_chk 143 bo_143_208 208 0 [] = true := by decide +kernel
def bo_143_218 : List ZO := [(.aload_n 1, 1, 0, 0), (.bipush 32, 32, 0, 0), (.iload_n 2, 2, 0, 0), (.iadd, 0, 0, 0), (.iaload, 0, 0, 0), (.ireturn, 0, 0, 0)]
theorem cb_143_218 : z_chk 143 bo_143_218 218 0 [] = true := by decide +kernel
def bo_143_224 : List ZO := [(.ireturn, 0, 0, 0)]
theorem cb_143_224 : z_chk 143 bo_143_224 224 0 [] = true := by decide +kernel
def bo_143_225 : List ZO := [(.aload_n 0, 0, 0, 0), (.aload_n 1, 1, 0, 0), (.iload_n 2, 2, 0, 0), (.invokevirtual 213, 137, 3, 8), (.ireturn, 0, 0, 0)]
theorem cb_143_225 : z_chk 143 bo_143_225 225 0 [901] = true := by decide +kernel
def bo_143_232 : List ZO := [(.iload 4, 4, 0, 0), (.ifCond .eq 12, 246, 0, 0), (.aload_n 0, 0, 0, 0), (.aload_n 1, 1, 0, 0), (.iload_n 2, 2, 0, 0), (.invokevirtual 230, 139, 3, 8), (.goto 5, 248, 0, 0)]
theorem cb_143_232 : z_chk 143 bo_143_232 232 0 [924] = true := by decide +kernel
def bo_143_246 : List ZO := [(.bipush (-9), 9, 0, 1), (.ireturn, 0, 0, 0)]
theorem cb_143_246 : z_chk 143 bo_143_246 246 0 [] = true := by decide +kernel
def bo_143_248 : List ZO := [(.ireturn, 0, 0, 0)]
theorem cb_143_248 : z_chk 143 bo_143_248 248 0 [] = true := by decide +kernel
def bo_143_249 : List ZO := [(.bipush (-2), 2, 0, 1), (.ireturn, 0, 0, 0)]
theorem cb_143_249 : z_chk 143 bo_143_249 249 0 [] = true := by decide +kernel
def bk_143 : List (Nat × ZE) := [(0, false, [true, true, true, true, false, false], bo_143_0, 0), (13, false, [true, true, true, true, false, false], bo_143_13, 0), (14, false, [true, true, true, true, false, false], bo_143_14, 0), (35, false, [true, true, true, true, true, false], bo_143_35, 38), (36, false, [true, true, true, true, true, false], bo_143_36, 38), (38, true, [true, true, true, true, true, true], bo_143_38, 0), (92, false, [true, false, true, false, false, false], bo_143_92, 0), (99, false, [true, true, true, false, true, false], bo_143_99, 0), (113, false, [true, false, true, false, false, false], bo_143_113, 0), (119, false, [false, false, false, false, false, false], bo_143_119, 0), (120, false, [true, false, true, false, false, false], bo_143_120, 0), (139, false, [false, false, false, false, false, false], bo_143_139, 0), (140, false, [false, false, false, false, false, false], bo_143_140, 0), (141, false, [false, true, true, false, false, true], bo_143_141, 0), (154, false, [false, false, false, false, false, false], bo_143_154, 0), (156, false, [false, false, false, false, false, false], bo_143_156, 0), (157, false, [false, true, true, false, false, true], bo_143_157, 0), (171, false, [false, false, false, false, false, false], bo_143_171, 0), (173, false, [false, false, false, false, false, false], bo_143_173, 0), (174, false, [false, true, true, false, false, true], bo_143_174, 0), (188, false, [false, false, false, false, false, false], bo_143_188, 0), (190, false, [false, false, false, false, false, false], bo_143_190, 0), (191, false, [false, true, true, false, true, false], bo_143_191, 0), (201, false, [false, true, true, false, false, false], bo_143_201, 0), (207, false, [false, false, false, false, false, false], bo_143_207, 0), (208, false, [false, true, true, false, true, false], bo_143_208, 0), (218, false, [false, true, true, false, false, false], bo_143_218, 0), (224, false, [false, false, false, false, false, false], bo_143_224, 0), (225, false, [true, true, true, false, false, false], bo_143_225, 0), (232, false, [true, true, true, false, true, false], bo_143_232, 0), (246, false, [false, false, false, false, false, false], bo_143_246, 0), (248, false, [false, false, false, false, false, false], bo_143_248, 0), (249, false, [false, false, false, false, false, false], bo_143_249, 0)]
theorem ck_143 : z_chks 143 bk_143 [[714], [], [], [], [], [], [714], [], [715], [], [714, 716], [], [], [], [], [], [], [], [], [], [], [], [], [], [], [], [], [], [901], [924], [], [], []] = true := z_chks_cons cb_143_0 (z_chks_cons cb_143_13 (z_chks_cons cb_143_14 (z_chks_cons cb_143_35 (z_chks_cons cb_143_36 (z_chks_cons cb_143_38 (z_chks_cons cb_143_92 (z_chks_cons cb_143_99 (z_chks_cons cb_143_113 (z_chks_cons cb_143_119 (z_chks_cons cb_143_120 (z_chks_cons cb_143_139 (z_chks_cons cb_143_140 (z_chks_cons cb_143_141 (z_chks_cons cb_143_154 (z_chks_cons cb_143_156 (z_chks_cons cb_143_157 (z_chks_cons cb_143_171 (z_chks_cons cb_143_173 (z_chks_cons cb_143_174 (z_chks_cons cb_143_188 (z_chks_cons cb_143_190 (z_chks_cons cb_143_191 (z_chks_cons cb_143_201 (z_chks_cons cb_143_207 (z_chks_cons cb_143_208 (z_chks_cons cb_143_218 (z_chks_cons cb_143_224 (z_chks_cons cb_143_225 (z_chks_cons cb_143_232 (z_chks_cons cb_143_246 (z_chks_cons cb_143_248 (z_chks_cons cb_143_249 (z_chks_nil)))))))))))))))))))))))))))))))))
theorem bf_143_0 : z_fd bk_143 0 = some (false, [true, true, true, true, false, false], bo_143_0, 0) := rfl
theorem bf_143_13 : z_fd bk_143 13 = some (false, [true, true, true, true, false, false], bo_143_13, 0) := rfl
theorem bf_143_14 : z_fd bk_143 14 = some (false, [true, true, true, true, false, false], bo_143_14, 0) := rfl
theorem bf_143_35 : z_fd bk_143 35 = some (false, [true, true, true, true, true, false], bo_143_35, 38) := rfl
theorem bf_143_36 : z_fd bk_143 36 = some (false, [true, true, true, true, true, false], bo_143_36, 38) := rfl
theorem bf_143_38 : z_fd bk_143 38 = some (true, [true, true, true, true, true, true], bo_143_38, 0) := rfl
theorem bf_143_92 : z_fd bk_143 92 = some (false, [true, false, true, false, false, false], bo_143_92, 0) := rfl
theorem bf_143_99 : z_fd bk_143 99 = some (false, [true, true, true, false, true, false], bo_143_99, 0) := rfl
theorem bf_143_113 : z_fd bk_143 113 = some (false, [true, false, true, false, false, false], bo_143_113, 0) := rfl
theorem bf_143_119 : z_fd bk_143 119 = some (false, [false, false, false, false, false, false], bo_143_119, 0) := rfl
theorem bf_143_120 : z_fd bk_143 120 = some (false, [true, false, true, false, false, false], bo_143_120, 0) := rfl
theorem bf_143_139 : z_fd bk_143 139 = some (false, [false, false, false, false, false, false], bo_143_139, 0) := rfl
theorem bf_143_140 : z_fd bk_143 140 = some (false, [false, false, false, false, false, false], bo_143_140, 0) := rfl
theorem bf_143_141 : z_fd bk_143 141 = some (false, [false, true, true, false, false, true], bo_143_141, 0) := rfl
theorem bf_143_154 : z_fd bk_143 154 = some (false, [false, false, false, false, false, false], bo_143_154, 0) := rfl
theorem bf_143_156 : z_fd bk_143 156 = some (false, [false, false, false, false, false, false], bo_143_156, 0) := rfl
theorem bf_143_157 : z_fd bk_143 157 = some (false, [false, true, true, false, false, true], bo_143_157, 0) := rfl
theorem bf_143_171 : z_fd bk_143 171 = some (false, [false, false, false, false, false, false], bo_143_171, 0) := rfl
theorem bf_143_173 : z_fd bk_143 173 = some (false, [false, false, false, false, false, false], bo_143_173, 0) := rfl
theorem bf_143_174 : z_fd bk_143 174 = some (false, [false, true, true, false, false, true], bo_143_174, 0) := rfl
theorem bf_143_188 : z_fd bk_143 188 = some (false, [false, false, false, false, false, false], bo_143_188, 0) := rfl
theorem bf_143_190 : z_fd bk_143 190 = some (false, [false, false, false, false, false, false], bo_143_190, 0) := rfl
theorem bf_143_191 : z_fd bk_143 191 = some (false, [false, true, true, false, true, false], bo_143_191, 0) := rfl
theorem bf_143_201 : z_fd bk_143 201 = some (false, [false, true, true, false, false, false], bo_143_201, 0) := rfl
theorem bf_143_207 : z_fd bk_143 207 = some (false, [false, false, false, false, false, false], bo_143_207, 0) := rfl
theorem bf_143_208 : z_fd bk_143 208 = some (false, [false, true, true, false, true, false], bo_143_208, 0) := rfl
theorem bf_143_218 : z_fd bk_143 218 = some (false, [false, true, true, false, false, false], bo_143_218, 0) := rfl
theorem bf_143_224 : z_fd bk_143 224 = some (false, [false, false, false, false, false, false], bo_143_224, 0) := rfl
theorem bf_143_225 : z_fd bk_143 225 = some (false, [true, true, true, false, false, false], bo_143_225, 0) := rfl
theorem bf_143_232 : z_fd bk_143 232 = some (false, [true, true, true, false, true, false], bo_143_232, 0) := rfl
theorem bf_143_246 : z_fd bk_143 246 = some (false, [false, false, false, false, false, false], bo_143_246, 0) := rfl
theorem bf_143_248 : z_fd bk_143 248 = some (false, [false, false, false, false, false, false], bo_143_248, 0) := rfl
theorem bf_143_249 : z_fd bk_143 249 = some (false, [false, false, false, false, false, false], bo_143_249, 0) := rfl
theorem cl_143 : z_mL 143 = 6 := by decide +kernel
theorem cz_143 : plainFor (z_my 143) = true ∧ ((z_rm 143).cells = 0 ∧ (z_rm 143).slots = 0) := by decide +kernel
-- 144 Model_node
def bo_144_0 : List ZO := [(.aload_n 0, 0, 0, 0), (.iload_n 1, 1, 0, 0), (.invokevirtual 106, 109, 2, 8), (.ifCond .eq 16, 21, 0, 0), (.aload_n 0, 0, 0, 0), (.aload_n 0, 0, 0, 0), (.getfield 31, 7, 10, 2), (.iload_n 1, 1, 0, 0), (.iload_n 2, 2, 0, 0), (.invokevirtual 233, 143, 4, 8), (.goto 4, 22, 0, 0)]
def bo_144_21 : List ZO := [(.iconst (-1), 1, 0, 1), (.ireturn, 0, 0, 0)]
def bo_144_22 : List ZO := [(.ireturn, 0, 0, 0)]
def bk_144 : List (Nat × ZE) := [(0, false, [true, true, true], bo_144_0, 0), (21, false, [false, false, false], bo_144_21, 0), (22, false, [false, false, false], bo_144_22, 0)]
theorem ck_144 : z_chks 144 bk_144 [[916, 721, 920], [], []] = true := by decide +kernel
theorem bf_144_0 : z_fd bk_144 0 = some (false, [true, true, true], bo_144_0, 0) := rfl
theorem bf_144_21 : z_fd bk_144 21 = some (false, [false, false, false], bo_144_21, 0) := rfl
theorem bf_144_22 : z_fd bk_144 22 = some (false, [false, false, false], bo_144_22, 0) := rfl
theorem cl_144 : z_mL 144 = 3 := by decide +kernel
theorem cz_144 : plainFor (z_my 144) = true ∧ ((z_rm 144).cells = 0 ∧ (z_rm 144).slots = 0) := by decide +kernel
-- 145 Model_link
def bo_145_0 : List ZO := [(.aload_n 0, 0, 0, 0), (.iload_n 1, 1, 0, 0), (.invokevirtual 236, 111, 2, 8), (.ifCond .ne 5, 10, 0, 0), (.iconst (-1), 1, 0, 1), (.ireturn, 0, 0, 0)]
theorem cb_145_0 : z_chk 145 bo_145_0 0 0 [932] = true := by decide +kernel
def bo_145_10 : List ZO := [(.iload_n 2, 2, 0, 0), (.tableswitch 102 0 6 #[41, 48, 55, 65, 75, 82, 92], 11, 0, 6)]
theorem cb_145_10 : z_chk 145 bo_145_10 10 0 [] = true := by decide +kernel
def bo_145_52 : List ZO := [(.aload_n 0, 0, 0, 0), (.getfield 22, 7, 7, 2), (.iload_n 1, 1, 0, 0), (.iaload, 0, 0, 0), (.ireturn, 0, 0, 0)]
theorem cb_145_52 : z_chk 145 bo_145_52 52 0 [718] = true := by decide +kernel
def bo_145_59 : List ZO := [(.aload_n 0, 0, 0, 0), (.getfield 25, 7, 8, 2), (.iload_n 1, 1, 0, 0), (.iaload, 0, 0, 0), (.ireturn, 0, 0, 0)]
theorem cb_145_59 : z_chk 145 bo_145_59 59 0 [719] = true := by decide +kernel
def bo_145_66 : List ZO := [(.aload_n 0, 0, 0, 0), (.getfield 31, 7, 10, 2), (.bipush 40, 40, 0, 0), (.iload_n 1, 1, 0, 0), (.iadd, 0, 0, 0), (.iaload, 0, 0, 0), (.ireturn, 0, 0, 0)]
theorem cb_145_66 : z_chk 145 bo_145_66 66 0 [721] = true := by decide +kernel
def bo_145_76 : List ZO := [(.aload_n 0, 0, 0, 0), (.getfield 31, 7, 10, 2), (.bipush 49, 49, 0, 0), (.iload_n 1, 1, 0, 0), (.iadd, 0, 0, 0), (.iaload, 0, 0, 0), (.ireturn, 0, 0, 0)]
theorem cb_145_76 : z_chk 145 bo_145_76 76 0 [721] = true := by decide +kernel
def bo_145_86 : List ZO := [(.aload_n 0, 0, 0, 0), (.getfield 28, 7, 9, 2), (.iload_n 1, 1, 0, 0), (.iaload, 0, 0, 0), (.ireturn, 0, 0, 0)]
theorem cb_145_86 : z_chk 145 bo_145_86 86 0 [720] = true := by decide +kernel
def bo_145_93 : List ZO := [(.aload_n 0, 0, 0, 0), (.aload_n 0, 0, 0, 0), (.getfield 31, 7, 10, 2), (.iload_n 1, 1, 0, 0), (.invokevirtual 183, 125, 3, 8), (.ireturn, 0, 0, 0)]
theorem cb_145_93 : z_chk 145 bo_145_93 93 0 [721, 936] = true := by decide +kernel
def bo_145_103 : List ZO := [(.aload_n 0, 0, 0, 0), (.getfield 31, 7, 10, 2), (.bipush 58, 58, 0, 0), (.iload_n 1, 1, 0, 0), (.iadd, 0, 0, 0), (.iaload, 0, 0, 0), (.ireturn, 0, 0, 0)]
theorem cb_145_103 : z_chk 145 bo_145_103 103 0 [721] = true := by decide +kernel
def bo_145_113 : List ZO := [(.bipush (-2), 2, 0, 1), (.ireturn, 0, 0, 0)]
theorem cb_145_113 : z_chk 145 bo_145_113 113 0 [] = true := by decide +kernel
def bk_145 : List (Nat × ZE) := [(0, false, [true, true, true], bo_145_0, 0), (10, false, [true, true, true], bo_145_10, 0), (52, false, [true, true, false], bo_145_52, 0), (59, false, [true, true, false], bo_145_59, 0), (66, false, [true, true, false], bo_145_66, 0), (76, false, [true, true, false], bo_145_76, 0), (86, false, [true, true, false], bo_145_86, 0), (93, false, [true, true, false], bo_145_93, 0), (103, false, [true, true, false], bo_145_103, 0), (113, false, [false, false, false], bo_145_113, 0)]
theorem ck_145 : z_chks 145 bk_145 [[932], [], [718], [719], [721], [721], [720], [721, 936], [721], []] = true := z_chks_cons cb_145_0 (z_chks_cons cb_145_10 (z_chks_cons cb_145_52 (z_chks_cons cb_145_59 (z_chks_cons cb_145_66 (z_chks_cons cb_145_76 (z_chks_cons cb_145_86 (z_chks_cons cb_145_93 (z_chks_cons cb_145_103 (z_chks_cons cb_145_113 (z_chks_nil))))))))))
theorem bf_145_0 : z_fd bk_145 0 = some (false, [true, true, true], bo_145_0, 0) := rfl
theorem bf_145_10 : z_fd bk_145 10 = some (false, [true, true, true], bo_145_10, 0) := rfl
theorem bf_145_52 : z_fd bk_145 52 = some (false, [true, true, false], bo_145_52, 0) := rfl
theorem bf_145_59 : z_fd bk_145 59 = some (false, [true, true, false], bo_145_59, 0) := rfl
theorem bf_145_66 : z_fd bk_145 66 = some (false, [true, true, false], bo_145_66, 0) := rfl
theorem bf_145_76 : z_fd bk_145 76 = some (false, [true, true, false], bo_145_76, 0) := rfl
theorem bf_145_86 : z_fd bk_145 86 = some (false, [true, true, false], bo_145_86, 0) := rfl
theorem bf_145_93 : z_fd bk_145 93 = some (false, [true, true, false], bo_145_93, 0) := rfl
theorem bf_145_103 : z_fd bk_145 103 = some (false, [true, true, false], bo_145_103, 0) := rfl
theorem bf_145_113 : z_fd bk_145 113 = some (false, [false, false, false], bo_145_113, 0) := rfl
theorem cl_145 : z_mL 145 = 3 := by decide +kernel
theorem cz_145 : plainFor (z_my 145) = true ∧ ((z_rm 145).cells = 0 ∧ (z_rm 145).slots = 0) := by decide +kernel
-- 146 Model_noTwo
def bo_146_0 : List ZO := [(.aload_n 0, 0, 0, 0), (.iload_n 1, 1, 0, 0), (.invokevirtual 106, 109, 2, 8), (.ifCond .eq 11, 16, 0, 0), (.aload_n 0, 0, 0, 0), (.iload_n 2, 2, 0, 0), (.invokevirtual 106, 109, 2, 8), (.ifCond .ne 5, 18, 0, 0), (.iconst (-1), 1, 0, 1), (.ireturn, 0, 0, 0)]
def bo_146_16 : List ZO := [(.iconst (-1), 1, 0, 1), (.ireturn, 0, 0, 0)]
def bo_146_18 : List ZO := [(.iload_n 1, 1, 0, 0), (.iload_n 2, 2, 0, 0), (.if_icmp .eq 12, 32, 0, 0), (.aload_n 0, 0, 0, 0), (.getfield 13, 7, 3, 2), (.iload_n 2, 2, 0, 0), (.iaload, 0, 0, 0), (.ifCond .ne 8, 37, 0, 0), (.bipush (-2), 2, 0, 1), (.goto 4, 38, 0, 0)]
def bo_146_32 : List ZO := [(.bipush (-2), 2, 0, 1), (.goto 4, 38, 0, 0)]
def bo_146_37 : List ZO := [(.iconst 0, 0, 0, 0), (.ireturn, 0, 0, 0)]
def bo_146_38 : List ZO := [(.ireturn, 0, 0, 0)]
def bk_146 : List (Nat × ZE) := [(0, false, [true, true, true], bo_146_0, 0), (16, false, [false, false, false], bo_146_16, 0), (18, false, [true, true, true], bo_146_18, 0), (32, false, [false, false, false], bo_146_32, 0), (37, false, [false, false, false], bo_146_37, 0), (38, false, [false, false, false], bo_146_38, 0)]
theorem ck_146 : z_chks 146 bk_146 [[916, 916], [], [714], [], [], []] = true := by decide +kernel
theorem bf_146_0 : z_fd bk_146 0 = some (false, [true, true, true], bo_146_0, 0) := rfl
theorem bf_146_16 : z_fd bk_146 16 = some (false, [false, false, false], bo_146_16, 0) := rfl
theorem bf_146_18 : z_fd bk_146 18 = some (false, [true, true, true], bo_146_18, 0) := rfl
theorem bf_146_32 : z_fd bk_146 32 = some (false, [false, false, false], bo_146_32, 0) := rfl
theorem bf_146_37 : z_fd bk_146 37 = some (false, [false, false, false], bo_146_37, 0) := rfl
theorem bf_146_38 : z_fd bk_146 38 = some (false, [false, false, false], bo_146_38, 0) := rfl
theorem cl_146 : z_mL 146 = 3 := by decide +kernel
theorem cz_146 : plainFor (z_my 146) = true ∧ ((z_rm 146).cells = 0 ∧ (z_rm 146).slots = 0) := by decide +kernel
-- 147 Model_price
def bo_147_0 : List ZO := [(.aload_n 0, 0, 0, 0), (.iload_n 1, 1, 0, 0), (.iload_n 2, 2, 0, 0), (.invokevirtual 239, 146, 3, 8), (.istore_n 3, 3, 0, 0), (.iload_n 3, 3, 0, 0), (.ifCond .eq 7, 15, 0, 0), (.iload_n 3, 3, 0, 0), (.goto 13, 25, 0, 0)]
def bo_147_15 : List ZO := [(.aload_n 0, 0, 0, 0), (.aload_n 0, 0, 0, 0), (.getfield 31, 7, 10, 2), (.iload_n 1, 1, 0, 0), (.iload_n 2, 2, 0, 0), (.invokevirtual 189, 130, 4, 8), (.ireturn, 0, 0, 0)]
def bo_147_25 : List ZO := [(.ireturn, 0, 0, 0)]
def bk_147 : List (Nat × ZE) := [(0, false, [true, true, true, false], bo_147_0, 0), (15, false, [true, true, true, false], bo_147_15, 0), (25, false, [false, false, false, false], bo_147_25, 0)]
theorem ck_147 : z_chks 147 bk_147 [[944], [721, 948], []] = true := by decide +kernel
theorem bf_147_0 : z_fd bk_147 0 = some (false, [true, true, true, false], bo_147_0, 0) := rfl
theorem bf_147_15 : z_fd bk_147 15 = some (false, [true, true, true, false], bo_147_15, 0) := rfl
theorem bf_147_25 : z_fd bk_147 25 = some (false, [false, false, false, false], bo_147_25, 0) := rfl
theorem cl_147 : z_mL 147 = 4 := by decide +kernel
theorem cz_147 : plainFor (z_my 147) = true ∧ ((z_rm 147).cells = 0 ∧ (z_rm 147).slots = 0) := by decide +kernel
-- 148 Model_safe
def bo_148_0 : List ZO := [(.aload_n 0, 0, 0, 0), (.iload_n 1, 1, 0, 0), (.iload_n 2, 2, 0, 0), (.invokevirtual 239, 146, 3, 8), (.istore_n 3, 3, 0, 0), (.iload_n 3, 3, 0, 0), (.ifCond .eq 5, 13, 0, 0), (.iload_n 3, 3, 0, 0), (.ireturn, 0, 0, 0)]
def bo_148_13 : List ZO := [(.aload_n 0, 0, 0, 0), (.aload_n 0, 0, 0, 0), (.getfield 31, 7, 10, 2), (.iload_n 1, 1, 0, 0), (.iload_n 2, 2, 0, 0), (.invokevirtual 189, 130, 4, 8), (.bipush (-9), 9, 0, 1), (.if_icmp .ne 8, 33, 0, 0), (.bipush (-9), 9, 0, 1), (.goto 21, 51, 0, 0)]
def bo_148_33 : List ZO := [(.aload_n 0, 0, 0, 0), (.aload_n 0, 0, 0, 0), (.getfield 31, 7, 10, 2), (.iload_n 1, 1, 0, 0), (.iload_n 2, 2, 0, 0), (.invokevirtual 192, 131, 4, 8), (.ifCond .eq 7, 50, 0, 0), (.iconst 1, 1, 0, 0), (.goto 4, 51, 0, 0)]
def bo_148_50 : List ZO := [(.iconst 0, 0, 0, 0), (.ireturn, 0, 0, 0)]
def bo_148_51 : List ZO := [(.ireturn, 0, 0, 0)]
def bk_148 : List (Nat × ZE) := [(0, false, [true, true, true, false], bo_148_0, 0), (13, false, [true, true, true, false], bo_148_13, 0), (33, false, [true, true, true, false], bo_148_33, 0), (50, false, [false, false, false, false], bo_148_50, 0), (51, false, [false, false, false, false], bo_148_51, 0)]
theorem ck_148 : z_chks 148 bk_148 [[944], [721, 948], [721, 968], [], []] = true := by decide +kernel
theorem bf_148_0 : z_fd bk_148 0 = some (false, [true, true, true, false], bo_148_0, 0) := rfl
theorem bf_148_13 : z_fd bk_148 13 = some (false, [true, true, true, false], bo_148_13, 0) := rfl
theorem bf_148_33 : z_fd bk_148 33 = some (false, [true, true, true, false], bo_148_33, 0) := rfl
theorem bf_148_50 : z_fd bk_148 50 = some (false, [false, false, false, false], bo_148_50, 0) := rfl
theorem bf_148_51 : z_fd bk_148 51 = some (false, [false, false, false, false], bo_148_51, 0) := rfl
theorem cl_148 : z_mL 148 = 4 := by decide +kernel
theorem cz_148 : plainFor (z_my 148) = true ∧ ((z_rm 148).cells = 0 ∧ (z_rm 148).slots = 0) := by decide +kernel
-- 149 Model_note
def bo_149_0 : List ZO := [(.iconst 0, 0, 0, 0), (.istore_n 1, 1, 0, 0)]
def bo_149_2 : List ZO := [(.iload_n 1, 1, 0, 0), (.bipush 78, 78, 0, 0), (.if_icmp .ge 29, 34, 0, 0), (.aload_n 0, 0, 0, 0), (.getfield 40, 7, 13, 2), (.bipush 78, 78, 0, 0), (.aload_n 0, 0, 0, 0), (.getfield 243, 7, 15, 0), (.imul, 0, 0, 0), (.iload_n 1, 1, 0, 0), (.iadd, 0, 0, 0), (.aload_n 0, 0, 0, 0), (.getfield 31, 7, 10, 2), (.iload_n 1, 1, 0, 0), (.iaload, 0, 0, 0), (.iastore, 0, 0, 0), (.iinc 1 1, 1, 1, 0), (.goto (-29), 2, 0, 0)]
def bo_149_34 : List ZO := [(.aload_n 0, 0, 0, 0), (.aload_n 0, 0, 0, 0), (.getfield 243, 7, 15, 0), (.iconst 1, 1, 0, 0), (.iadd, 0, 0, 0), (.bipush 14, 14, 0, 0), (.irem, 0, 0, 0), (.putfield 243, 7, 15, 0), (.aload_n 0, 0, 0, 0), (.aload_n 0, 0, 0, 0), (.getfield 165, 7, 14, 0), (.bipush 14, 14, 0, 0), (.if_icmp .ge 12, 66, 0, 0), (.aload_n 0, 0, 0, 0), (.getfield 165, 7, 14, 0), (.iconst 1, 1, 0, 0), (.iadd, 0, 0, 0), (.goto 5, 68, 0, 0)]
def bo_149_66 : List ZO := [(.bipush 14, 14, 0, 0), (.putfield 165, 7, 14, 0), (.return_, 0, 0, 0)]
def bo_149_68 : List ZO := [(.putfield 165, 7, 14, 0), (.return_, 0, 0, 0)]
def bk_149 : List (Nat × ZE) := [(0, false, [true, false], bo_149_0, 2), (2, true, [true, true], bo_149_2, 0), (34, false, [true, false], bo_149_34, 0), (66, false, [false, false], bo_149_66, 0), (68, false, [false, false], bo_149_68, 0)]
theorem ck_149 : z_chks 149 bk_149 [[], [724, 726, 721], [726, 726, 725, 725], [725], [725]] = true := by decide +kernel
theorem bf_149_0 : z_fd bk_149 0 = some (false, [true, false], bo_149_0, 2) := rfl
theorem bf_149_2 : z_fd bk_149 2 = some (true, [true, true], bo_149_2, 0) := rfl
theorem bf_149_34 : z_fd bk_149 34 = some (false, [true, false], bo_149_34, 0) := rfl
theorem bf_149_66 : z_fd bk_149 66 = some (false, [false, false], bo_149_66, 0) := rfl
theorem bf_149_68 : z_fd bk_149 68 = some (false, [false, false], bo_149_68, 0) := rfl
theorem cl_149 : z_mL 149 = 2 := by decide +kernel
theorem cz_149 : plainFor (z_my 149) = true ∧ ((z_rm 149).cells = 0 ∧ (z_rm 149).slots = 0) := by decide +kernel
-- 150 Model_round
def bo_150_0 : List ZO := [(.iload_n 1, 1, 0, 0), (.i2l, 0, 0, 0), (.lconst 1, 1, 0, 0), (.ldc2_w 246, 99, 0, 0), (.invokestatic 102, 103, 3, 0), (.ifCond .ne 6, 15, 0, 0), (.bipush (-2), 2, 0, 1), (.ireturn, 0, 0, 0)]
def bo_150_15 : List ZO := [(.aload_n 0, 0, 0, 0), (.invokevirtual 248, 149, 1, 8), (.iconst 0, 0, 0, 0), (.istore_n 2, 2, 0, 0)]
def bo_150_21 : List ZO := [(.iload_n 2, 2, 0, 0), (.iload_n 1, 1, 0, 0), (.if_icmp .ge 17, 40, 0, 0), (.aload_n 0, 0, 0, 0), (.aload_n 0, 0, 0, 0), (.getfield 31, 7, 10, 2), (.invokevirtual 209, 135, 2, 8), (.iinc 2 1, 1, 2, 0), (.goto (-16), 21, 0, 0)]
def bo_150_40 : List ZO := [(.aload_n 0, 0, 0, 0), (.aload_n 0, 0, 0, 0), (.getfield 31, 7, 10, 2), (.invokevirtual 220, 138, 2, 8), (.invokestatic 251, 105, 1, 0), (.ireturn, 0, 0, 0)]
def bk_150 : List (Nat × ZE) := [(0, false, [true, true, false], bo_150_0, 0), (15, false, [true, true, false], bo_150_15, 21), (21, true, [true, true, true], bo_150_21, 0), (40, false, [true, false, false], bo_150_40, 0)]
theorem ck_150 : z_chks 150 bk_150 [[980, 837], [981], [721, 985], [721, 897, 1004]] = true := by decide +kernel
theorem bf_150_0 : z_fd bk_150 0 = some (false, [true, true, false], bo_150_0, 0) := rfl
theorem bf_150_15 : z_fd bk_150 15 = some (false, [true, true, false], bo_150_15, 21) := rfl
theorem bf_150_21 : z_fd bk_150 21 = some (true, [true, true, true], bo_150_21, 0) := rfl
theorem bf_150_40 : z_fd bk_150 40 = some (false, [true, false, false], bo_150_40, 0) := rfl
theorem cl_150 : z_mL 150 = 3 := by decide +kernel
theorem cz_150 : plainFor (z_my 150) = true ∧ ((z_rm 150).cells = 0 ∧ (z_rm 150).slots = 0) := by decide +kernel
-- 151 Model_turn
def bo_151_0 : List ZO := [(.aload_n 0, 0, 0, 0), (.iload_n 1, 1, 0, 0), (.invokevirtual 236, 111, 2, 8), (.ifCond .ne 5, 10, 0, 0), (.iconst (-1), 1, 0, 1), (.ireturn, 0, 0, 0)]
def bo_151_10 : List ZO := [(.aload_n 0, 0, 0, 0), (.invokevirtual 248, 149, 1, 8), (.aload_n 0, 0, 0, 0), (.getfield 31, 7, 10, 2), (.bipush 58, 58, 0, 0), (.iload_n 1, 1, 0, 0), (.iadd, 0, 0, 0), (.iconst 1, 1, 0, 0), (.aload_n 0, 0, 0, 0), (.getfield 31, 7, 10, 2), (.bipush 58, 58, 0, 0), (.iload_n 1, 1, 0, 0), (.iadd, 0, 0, 0), (.iaload, 0, 0, 0), (.isub, 0, 0, 0), (.iastore, 0, 0, 0), (.aload_n 0, 0, 0, 0), (.getfield 31, 7, 10, 2), (.bipush 58, 58, 0, 0), (.iload_n 1, 1, 0, 0), (.iadd, 0, 0, 0), (.iaload, 0, 0, 0), (.ireturn, 0, 0, 0)]
def bk_151 : List (Nat × ZE) := [(0, false, [true, true], bo_151_0, 0), (10, false, [true, true], bo_151_10, 0)]
theorem ck_151 : z_chks 151 bk_151 [[932], [981, 721, 721, 721]] = true := by decide +kernel
theorem bf_151_0 : z_fd bk_151 0 = some (false, [true, true], bo_151_0, 0) := rfl
theorem bf_151_10 : z_fd bk_151 10 = some (false, [true, true], bo_151_10, 0) := rfl
theorem cl_151 : z_mL 151 = 2 := by decide +kernel
theorem cz_151 : plainFor (z_my 151) = true ∧ ((z_rm 151).cells = 0 ∧ (z_rm 151).slots = 0) := by decide +kernel
-- 152 Model_lose
def bo_152_0 : List ZO := [(.aload_n 0, 0, 0, 0), (.iload_n 1, 1, 0, 0), (.invokevirtual 236, 111, 2, 8), (.ifCond .ne 5, 10, 0, 0), (.iconst (-1), 1, 0, 1), (.ireturn, 0, 0, 0)]
def bo_152_10 : List ZO := [(.iload_n 3, 3, 0, 0), (.i2l, 0, 0, 0), (.lconst 0, 0, 0, 0), (.ldc2_w 141, 9, 0, 0), (.invokestatic 102, 103, 3, 0), (.ifCond .ne 6, 25, 0, 0), (.bipush (-2), 2, 0, 1), (.ireturn, 0, 0, 0)]
def bo_152_25 : List ZO := [(.aload_n 0, 0, 0, 0), (.invokevirtual 248, 149, 1, 8), (.aload_n 0, 0, 0, 0), (.getfield 31, 7, 10, 2), (.iload_n 2, 2, 0, 0), (.ifCond .eq 8, 42, 0, 0), (.bipush 49, 49, 0, 0), (.goto 5, 44, 0, 0)]
def bo_152_42 : List ZO := [(.bipush 40, 40, 0, 0), (.iload_n 1, 1, 0, 0), (.iadd, 0, 0, 0), (.iload_n 3, 3, 0, 0), (.iastore, 0, 0, 0), (.aload_n 0, 0, 0, 0), (.aload_n 0, 0, 0, 0), (.getfield 31, 7, 10, 2), (.iload_n 1, 1, 0, 0), (.invokevirtual 183, 125, 3, 8), (.ireturn, 0, 0, 0)]
def bo_152_44 : List ZO := [(.iload_n 1, 1, 0, 0), (.iadd, 0, 0, 0), (.iload_n 3, 3, 0, 0), (.iastore, 0, 0, 0), (.aload_n 0, 0, 0, 0), (.aload_n 0, 0, 0, 0), (.getfield 31, 7, 10, 2), (.iload_n 1, 1, 0, 0), (.invokevirtual 183, 125, 3, 8), (.ireturn, 0, 0, 0)]
def bk_152 : List (Nat × ZE) := [(0, false, [true, true, true, true], bo_152_0, 0), (10, false, [true, true, true, true], bo_152_10, 0), (25, false, [true, true, true, true], bo_152_25, 0), (42, false, [true, true, false, true], bo_152_42, 0), (44, false, [true, true, false, true], bo_152_44, 0)]
theorem ck_152 : z_chks 152 bk_152 [[932], [872, 837], [981, 721], [721, 936], [721, 936]] = true := by decide +kernel
theorem bf_152_0 : z_fd bk_152 0 = some (false, [true, true, true, true], bo_152_0, 0) := rfl
theorem bf_152_10 : z_fd bk_152 10 = some (false, [true, true, true, true], bo_152_10, 0) := rfl
theorem bf_152_25 : z_fd bk_152 25 = some (false, [true, true, true, true], bo_152_25, 0) := rfl
theorem bf_152_42 : z_fd bk_152 42 = some (false, [true, true, false, true], bo_152_42, 0) := rfl
theorem bf_152_44 : z_fd bk_152 44 = some (false, [true, true, false, true], bo_152_44, 0) := rfl
theorem cl_152 : z_mL 152 = 4 := by decide +kernel
theorem cz_152 : plainFor (z_my 152) = true ∧ ((z_rm 152).cells = 0 ∧ (z_rm 152).slots = 0) := by decide +kernel
-- 153 Model_offset
def bo_153_0 : List ZO := [(.aload_n 0, 0, 0, 0), (.iload_n 1, 1, 0, 0), (.invokevirtual 254, 110, 2, 8), (.ifCond .ne 5, 10, 0, 0), (.iconst (-1), 1, 0, 1), (.ireturn, 0, 0, 0)]
def bo_153_10 : List ZO := [(.iload_n 2, 2, 0, 0), (.i2l, 0, 0, 0), (.lconst 0, 0, 0, 0), (.ldc2_w 141, 9, 0, 0), (.invokestatic 102, 103, 3, 0), (.ifCond .ne 6, 25, 0, 0), (.bipush (-2), 2, 0, 1), (.ireturn, 0, 0, 0)]
def bo_153_25 : List ZO := [(.aload_n 0, 0, 0, 0), (.invokevirtual 248, 149, 1, 8), (.aload_n 0, 0, 0, 0), (.getfield 31, 7, 10, 2), (.bipush 67, 67, 0, 0), (.iload_n 1, 1, 0, 0), (.iadd, 0, 0, 0), (.iaload, 0, 0, 0), (.istore_n 3, 3, 0, 0), (.aload_n 0, 0, 0, 0), (.getfield 31, 7, 10, 2), (.bipush 67, 67, 0, 0), (.iload_n 1, 1, 0, 0), (.iadd, 0, 0, 0), (.iload_n 2, 2, 0, 0), (.iastore, 0, 0, 0), (.iload_n 3, 3, 0, 0), (.ireturn, 0, 0, 0)]
def bk_153 : List (Nat × ZE) := [(0, false, [true, true, true, false], bo_153_0, 0), (10, false, [true, true, true, false], bo_153_10, 0), (25, false, [true, true, true, false], bo_153_25, 0)]
theorem ck_153 : z_chks 153 bk_153 [[1019], [872, 837], [981, 721, 721]] = true := by decide +kernel
theorem bf_153_0 : z_fd bk_153 0 = some (false, [true, true, true, false], bo_153_0, 0) := rfl
theorem bf_153_10 : z_fd bk_153 10 = some (false, [true, true, true, false], bo_153_10, 0) := rfl
theorem bf_153_25 : z_fd bk_153 25 = some (false, [true, true, true, false], bo_153_25, 0) := rfl
theorem cl_153 : z_mL 153 = 4 := by decide +kernel
theorem cz_153 : plainFor (z_my 153) = true ∧ ((z_rm 153).cells = 0 ∧ (z_rm 153).slots = 0) := by decide +kernel
-- 154 Model_margin
def bo_154_0 : List ZO := [(.iload_n 1, 1, 0, 0), (.i2l, 0, 0, 0), (.lconst 0, 0, 0, 0), (.ldc2_w 141, 9, 0, 0), (.invokestatic 102, 103, 3, 0), (.ifCond .ne 6, 15, 0, 0), (.bipush (-2), 2, 0, 1), (.ireturn, 0, 0, 0)]
def bo_154_15 : List ZO := [(.aload_n 0, 0, 0, 0), (.invokevirtual 248, 149, 1, 8), (.aload_n 0, 0, 0, 0), (.getfield 31, 7, 10, 2), (.bipush 75, 75, 0, 0), (.iaload, 0, 0, 0), (.istore_n 2, 2, 0, 0), (.aload_n 0, 0, 0, 0), (.getfield 31, 7, 10, 2), (.bipush 75, 75, 0, 0), (.iload_n 1, 1, 0, 0), (.iastore, 0, 0, 0), (.iload_n 2, 2, 0, 0), (.ireturn, 0, 0, 0)]
def bk_154 : List (Nat × ZE) := [(0, false, [true, true, false], bo_154_0, 0), (15, false, [true, true, false], bo_154_15, 0)]
theorem ck_154 : z_chks 154 bk_154 [[872, 837], [981, 721, 721]] = true := by decide +kernel
theorem bf_154_0 : z_fd bk_154 0 = some (false, [true, true, false], bo_154_0, 0) := rfl
theorem bf_154_15 : z_fd bk_154 15 = some (false, [true, true, false], bo_154_15, 0) := rfl
theorem cl_154 : z_mL 154 = 3 := by decide +kernel
theorem cz_154 : plainFor (z_my 154) = true ∧ ((z_rm 154).cells = 0 ∧ (z_rm 154).slots = 0) := by decide +kernel
-- 155 Model_undo
def bo_155_0 : List ZO := [(.aload_n 0, 0, 0, 0), (.getfield 165, 7, 14, 0), (.ifCond .ne 6, 10, 0, 0), (.bipush (-3), 3, 0, 1), (.ireturn, 0, 0, 0)]
def bo_155_10 : List ZO := [(.aload_n 0, 0, 0, 0), (.dup, 0, 0, 0), (.getfield 165, 7, 14, 0), (.iconst 1, 1, 0, 0), (.isub, 0, 0, 0), (.putfield 165, 7, 14, 0), (.aload_n 0, 0, 0, 0), (.aload_n 0, 0, 0, 0), (.getfield 243, 7, 15, 0), (.bipush 14, 14, 0, 0), (.iadd, 0, 0, 0), (.iconst 1, 1, 0, 0), (.isub, 0, 0, 0), (.bipush 14, 14, 0, 0), (.irem, 0, 0, 0), (.putfield 243, 7, 15, 0), (.iconst 0, 0, 0, 0), (.istore_n 1, 1, 0, 0)]
def bo_155_38 : List ZO := [(.iload_n 1, 1, 0, 0), (.bipush 78, 78, 0, 0), (.if_icmp .ge 29, 70, 0, 0), (.aload_n 0, 0, 0, 0), (.getfield 31, 7, 10, 2), (.iload_n 1, 1, 0, 0), (.aload_n 0, 0, 0, 0), (.getfield 40, 7, 13, 2), (.bipush 78, 78, 0, 0), (.aload_n 0, 0, 0, 0), (.getfield 243, 7, 15, 0), (.imul, 0, 0, 0), (.iload_n 1, 1, 0, 0), (.iadd, 0, 0, 0), (.iaload, 0, 0, 0), (.iastore, 0, 0, 0), (.iinc 1 1, 1, 1, 0), (.goto (-29), 38, 0, 0)]
def bo_155_70 : List ZO := [(.aload_n 0, 0, 0, 0), (.getfield 165, 7, 14, 0), (.ireturn, 0, 0, 0)]
def bk_155 : List (Nat × ZE) := [(0, false, [true, false], bo_155_0, 0), (10, false, [true, false], bo_155_10, 38), (38, true, [true, true], bo_155_38, 0), (70, false, [true, false], bo_155_70, 0)]
theorem ck_155 : z_chks 155 bk_155 [[725], [725, 725, 726, 726], [721, 724, 726], [725]] = true := by decide +kernel
theorem bf_155_0 : z_fd bk_155 0 = some (false, [true, false], bo_155_0, 0) := rfl
theorem bf_155_10 : z_fd bk_155 10 = some (false, [true, false], bo_155_10, 38) := rfl
theorem bf_155_38 : z_fd bk_155 38 = some (true, [true, true], bo_155_38, 0) := rfl
theorem bf_155_70 : z_fd bk_155 70 = some (false, [true, false], bo_155_70, 0) := rfl
theorem cl_155 : z_mL 155 = 2 := by decide +kernel
theorem cz_155 : plainFor (z_my 155) = true ∧ ((z_rm 155).cells = 0 ∧ (z_rm 155).slots = 0) := by decide +kernel
-- 156 Model_ahead
def bo_156_0 : List ZO := [(.aload_n 0, 0, 0, 0), (.iload_n 2, 2, 0, 0), (.invokevirtual 106, 109, 2, 8), (.ifCond .ne 5, 10, 0, 0), (.iconst (-1), 1, 0, 1), (.ireturn, 0, 0, 0)]
def bo_156_10 : List ZO := [(.iload_n 1, 1, 0, 0), (.i2l, 0, 0, 0), (.lconst 0, 0, 0, 0), (.ldc2_w 246, 99, 0, 0), (.invokestatic 102, 103, 3, 0), (.ifCond .eq 17, 36, 0, 0), (.iload_n 3, 3, 0, 0), (.i2l, 0, 0, 0), (.ldc2_w 257, 3, 0, 0), (.ldc2_w 141, 9, 0, 0), (.invokestatic 102, 103, 3, 0), (.ifCond .ne 6, 39, 0, 0), (.bipush (-2), 2, 0, 1), (.ireturn, 0, 0, 0)]
def bo_156_36 : List ZO := [(.bipush (-2), 2, 0, 1), (.ireturn, 0, 0, 0)]
def bo_156_39 : List ZO := [(.aload_n 0, 0, 0, 0), (.getfield 31, 7, 10, 2), (.aload_n 0, 0, 0, 0), (.getfield 34, 7, 11, 2), (.invokestatic 199, 102, 2, 0), (.aload_n 0, 0, 0, 0), (.iload_n 1, 1, 0, 0), (.invokevirtual 259, 136, 2, 8), (.aload_n 0, 0, 0, 0), (.aload_n 0, 0, 0, 0), (.getfield 34, 7, 11, 2), (.iload_n 2, 2, 0, 0), (.iload_n 3, 3, 0, 0), (.invokevirtual 233, 143, 4, 8), (.ireturn, 0, 0, 0)]
def bk_156 : List (Nat × ZE) := [(0, false, [true, true, true, true], bo_156_0, 0), (10, false, [true, true, true, true], bo_156_10, 0), (36, false, [false, false, false, false], bo_156_36, 0), (39, false, [true, true, true, true], bo_156_39, 0)]
theorem ck_156 : z_chks 156 bk_156 [[916], [980, 837, 1035, 872, 837], [], [721, 722, 989, 1036, 722, 920]] = true := by decide +kernel
theorem bf_156_0 : z_fd bk_156 0 = some (false, [true, true, true, true], bo_156_0, 0) := rfl
theorem bf_156_10 : z_fd bk_156 10 = some (false, [true, true, true, true], bo_156_10, 0) := rfl
theorem bf_156_36 : z_fd bk_156 36 = some (false, [false, false, false, false], bo_156_36, 0) := rfl
theorem bf_156_39 : z_fd bk_156 39 = some (false, [true, true, true, true], bo_156_39, 0) := rfl
theorem cl_156 : z_mL 156 = 4 := by decide +kernel
theorem cz_156 : plainFor (z_my 156) = true ∧ ((z_rm 156).cells = 0 ∧ (z_rm 156).slots = 0) := by decide +kernel
-- 157 Model_still
def bo_157_0 : List ZO := [(.aload_n 0, 0, 0, 0), (.getfield 31, 7, 10, 2), (.aload_n 0, 0, 0, 0), (.getfield 34, 7, 11, 2), (.invokestatic 199, 102, 2, 0), (.iconst 0, 0, 0, 0), (.istore_n 1, 1, 0, 0)]
theorem cb_157_0 : z_chk 157 bo_157_0 0 13 [721, 722, 989] = true := by decide +kernel
def bo_157_13 : List ZO := [(.iload_n 1, 1, 0, 0), (.bipush 50, 50, 0, 0), (.if_icmp .ge 52, 68, 0, 0), (.iconst 0, 0, 0, 0), (.istore_n 2, 2, 0, 0)]
theorem cb_157_13 : z_chk 157 bo_157_13 13 21 [] = true := by decide +kernel
def bo_157_21 : List ZO := [(.iload_n 2, 2, 0, 0), (.aload_n 0, 0, 0, 0), (.getfield 99, 7, 2, 0), (.if_icmp .ge 28, 54, 0, 0), (.aload_n 0, 0, 0, 0), (.getfield 59, 7, 24, 2), (.bipush 8, 8, 0, 0), (.iload_n 1, 1, 0, 0), (.imul, 0, 0, 0), (.iload_n 2, 2, 0, 0), (.iadd, 0, 0, 0), (.aload_n 0, 0, 0, 0), (.getfield 34, 7, 11, 2), (.iconst 0, 0, 0, 0), (.iload_n 2, 2, 0, 0), (.iadd, 0, 0, 0), (.iaload, 0, 0, 0), (.iastore, 0, 0, 0), (.iinc 2 1, 1, 2, 0), (.goto (-30), 21, 0, 0)]
theorem cb_157_21 : z_chk 157 bo_157_21 21 0 [713, 735, 722] = true := by decide +kernel
def bo_157_54 : List ZO := [(.aload_n 0, 0, 0, 0), (.aload_n 0, 0, 0, 0), (.getfield 34, 7, 11, 2), (.invokevirtual 209, 135, 2, 8), (.iinc 1 1, 1, 1, 0), (.goto (-52), 13, 0, 0)]
theorem cb_157_54 : z_chk 157 bo_157_54 54 0 [722, 985] = true := by decide +kernel
def bo_157_68 : List ZO := [(.iconst 0, 0, 0, 0), (.istore_n 1, 1, 0, 0), (.iconst 1, 1, 0, 0), (.istore_n 2, 2, 0, 0)]
theorem cb_157_68 : z_chk 157 bo_157_68 68 72 [] = true := by decide +kernel
def bo_157_72 : List ZO := [(.iload_n 2, 2, 0, 0), (.bipush 50, 50, 0, 0), (.if_icmp .ge 91, 166, 0, 0), (.iconst 1, 1, 0, 0), (.istore_n 3, 3, 0, 0), (.iconst 0, 0, 0, 0), (.istore 4, 4, 0, 0)]
theorem cb_157_72 : z_chk 157 bo_157_72 72 83 [] = true := by decide +kernel
def bo_157_83 : List ZO := [(.iload 4, 4, 0, 0), (.aload_n 0, 0, 0, 0), (.getfield 99, 7, 2, 0), (.if_icmp .ge 48, 137, 0, 0), (.iload_n 3, 3, 0, 0), (.ifCond .eq 36, 129, 0, 0), (.aload_n 0, 0, 0, 0), (.getfield 59, 7, 24, 2), (.bipush 8, 8, 0, 0), (.iload_n 2, 2, 0, 0), (.imul, 0, 0, 0), (.iload 4, 4, 0, 0), (.iadd, 0, 0, 0), (.iaload, 0, 0, 0), (.aload_n 0, 0, 0, 0), (.getfield 59, 7, 24, 2), (.bipush 8, 8, 0, 0), (.iload_n 2, 2, 0, 0), (.iconst 1, 1, 0, 0), (.isub, 0, 0, 0), (.imul, 0, 0, 0), (.iload 4, 4, 0, 0), (.iadd, 0, 0, 0), (.iaload, 0, 0, 0), (.if_icmp .ne 7, 129, 0, 0), (.iconst 1, 1, 0, 0), (.goto 4, 130, 0, 0)]
theorem cb_157_83 : z_chk 157 bo_157_83 83 0 [713, 735, 735] = true := by decide +kernel
def bo_157_129 : List ZO := [(.iconst 0, 0, 0, 0), (.istore_n 3, 3, 0, 0), (.iinc 4 1, 1, 4, 0), (.goto (-51), 83, 0, 0)]
theorem cb_157_129 : z_chk 157 bo_157_129 129 0 [] = true := by decide +kernel
def bo_157_130 : List ZO := [(.istore_n 3, 3, 0, 0), (.iinc 4 1, 1, 4, 0), (.goto (-51), 83, 0, 0)]
theorem cb_157_130 : z_chk 157 bo_157_130 130 0 [] = true := by decide +kernel
def bo_157_137 : List ZO := [(.iload_n 3, 3, 0, 0), (.ifCond .eq 9, 147, 0, 0), (.iload_n 1, 1, 0, 0), (.iconst 1, 1, 0, 0), (.iadd, 0, 0, 0), (.goto 4, 148, 0, 0)]
theorem cb_157_137 : z_chk 157 bo_157_137 137 0 [] = true := by decide +kernel
def bo_157_147 : List ZO := [(.iconst 0, 0, 0, 0), (.istore_n 1, 1, 0, 0), (.iload_n 1, 1, 0, 0), (.bipush 9, 9, 0, 0), (.if_icmp .ne 8, 160, 0, 0), (.iload_n 2, 2, 0, 0), (.bipush 9, 9, 0, 0), (.isub, 0, 0, 0), (.ireturn, 0, 0, 0)]
theorem cb_157_147 : z_chk 157 bo_157_147 147 0 [] = true := by decide +kernel
def bo_157_148 : List ZO := [(.istore_n 1, 1, 0, 0), (.iload_n 1, 1, 0, 0), (.bipush 9, 9, 0, 0), (.if_icmp .ne 8, 160, 0, 0), (.iload_n 2, 2, 0, 0), (.bipush 9, 9, 0, 0), (.isub, 0, 0, 0), (.ireturn, 0, 0, 0)]
theorem cb_157_148 : z_chk 157 bo_157_148 148 0 [] = true := by decide +kernel
def bo_157_160 : List ZO := [(.iinc 2 1, 1, 2, 0), (.goto (-91), 72, 0, 0)]
theorem cb_157_160 : z_chk 157 bo_157_160 160 0 [] = true := by decide +kernel
def bo_157_166 : List ZO := [(.bipush (-9), 9, 0, 1), (.ireturn, 0, 0, 0)]
theorem cb_157_166 : z_chk 157 bo_157_166 166 0 [] = true := by decide +kernel
def bk_157 : List (Nat × ZE) := [(0, false, [true, false, false, false, false], bo_157_0, 13), (13, true, [true, true, false, false, false], bo_157_13, 21), (21, true, [true, true, true, false, false], bo_157_21, 0), (54, false, [true, true, false, false, false], bo_157_54, 0), (68, false, [true, false, false, false, false], bo_157_68, 72), (72, true, [true, true, true, false, false], bo_157_72, 83), (83, true, [true, true, true, true, true], bo_157_83, 0), (129, false, [true, true, true, false, true], bo_157_129, 0), (130, false, [true, true, true, false, true], bo_157_130, 0), (137, false, [true, true, true, true, false], bo_157_137, 0), (147, false, [true, false, true, false, false], bo_157_147, 0), (148, false, [true, false, true, false, false], bo_157_148, 0), (160, false, [true, true, true, false, false], bo_157_160, 0), (166, false, [false, false, false, false, false], bo_157_166, 0)]
theorem ck_157 : z_chks 157 bk_157 [[721, 722, 989], [], [713, 735, 722], [722, 985], [], [], [713, 735, 735], [], [], [], [], [], [], []] = true := z_chks_cons cb_157_0 (z_chks_cons cb_157_13 (z_chks_cons cb_157_21 (z_chks_cons cb_157_54 (z_chks_cons cb_157_68 (z_chks_cons cb_157_72 (z_chks_cons cb_157_83 (z_chks_cons cb_157_129 (z_chks_cons cb_157_130 (z_chks_cons cb_157_137 (z_chks_cons cb_157_147 (z_chks_cons cb_157_148 (z_chks_cons cb_157_160 (z_chks_cons cb_157_166 (z_chks_nil))))))))))))))
theorem bf_157_0 : z_fd bk_157 0 = some (false, [true, false, false, false, false], bo_157_0, 13) := rfl
theorem bf_157_13 : z_fd bk_157 13 = some (true, [true, true, false, false, false], bo_157_13, 21) := rfl
theorem bf_157_21 : z_fd bk_157 21 = some (true, [true, true, true, false, false], bo_157_21, 0) := rfl
theorem bf_157_54 : z_fd bk_157 54 = some (false, [true, true, false, false, false], bo_157_54, 0) := rfl
theorem bf_157_68 : z_fd bk_157 68 = some (false, [true, false, false, false, false], bo_157_68, 72) := rfl
theorem bf_157_72 : z_fd bk_157 72 = some (true, [true, true, true, false, false], bo_157_72, 83) := rfl
theorem bf_157_83 : z_fd bk_157 83 = some (true, [true, true, true, true, true], bo_157_83, 0) := rfl
theorem bf_157_129 : z_fd bk_157 129 = some (false, [true, true, true, false, true], bo_157_129, 0) := rfl
theorem bf_157_130 : z_fd bk_157 130 = some (false, [true, true, true, false, true], bo_157_130, 0) := rfl
theorem bf_157_137 : z_fd bk_157 137 = some (false, [true, true, true, true, false], bo_157_137, 0) := rfl
theorem bf_157_147 : z_fd bk_157 147 = some (false, [true, false, true, false, false], bo_157_147, 0) := rfl
theorem bf_157_148 : z_fd bk_157 148 = some (false, [true, false, true, false, false], bo_157_148, 0) := rfl
theorem bf_157_160 : z_fd bk_157 160 = some (false, [true, true, true, false, false], bo_157_160, 0) := rfl
theorem bf_157_166 : z_fd bk_157 166 = some (false, [false, false, false, false, false], bo_157_166, 0) := rfl
theorem cl_157 : z_mL 157 = 5 := by decide +kernel
theorem cz_157 : plainFor (z_my 157) = true ∧ ((z_rm 157).cells = 0 ∧ (z_rm 157).slots = 0) := by decide +kernel
-- 158 Model_word
def bo_158_0 : List ZO := [(.aload_n 0, 0, 0, 0), (.iload_n 1, 1, 0, 0), (.invokevirtual 106, 109, 2, 8), (.ifCond .ne 5, 10, 0, 0), (.iconst (-1), 1, 0, 1), (.ireturn, 0, 0, 0)]
theorem cb_158_0 : z_chk 158 bo_158_0 0 0 [916] = true := by decide +kernel
def bo_158_10 : List ZO := [(.aload_n 0, 0, 0, 0), (.getfield 31, 7, 10, 2), (.aload_n 0, 0, 0, 0), (.getfield 34, 7, 11, 2), (.invokestatic 199, 102, 2, 0), (.iload_n 1, 1, 0, 0), (.istore_n 2, 2, 0, 0), (.iconst 0, 0, 0, 0), (.istore_n 3, 3, 0, 0)]
theorem cb_158_10 : z_chk 158 bo_158_10 10 25 [721, 722, 989] = true := by decide +kernel
def bo_158_25 : List ZO := [(.iload_n 3, 3, 0, 0), (.bipush 60, 60, 0, 0), (.if_icmp .ge 71, 99, 0, 0), (.aload_n 0, 0, 0, 0), (.getfield 13, 7, 3, 2), (.iload_n 2, 2, 0, 0), (.iaload, 0, 0, 0), (.ifCond .eq 62, 99, 0, 0), (.aload_n 0, 0, 0, 0), (.iload_n 2, 2, 0, 0), (.aload_n 0, 0, 0, 0), (.getfield 34, 7, 11, 2), (.bipush 77, 77, 0, 0), (.iaload, 0, 0, 0), (.invokevirtual 203, 133, 3, 8), (.istore 4, 4, 0, 0), (.aload_n 0, 0, 0, 0), (.aload_n 0, 0, 0, 0), (.getfield 34, 7, 11, 2), (.invokevirtual 209, 135, 2, 8), (.iinc 3 1, 1, 3, 0), (.iload 4, 4, 0, 0), (.ifCond .eq 27, 94, 0, 0), (.aload_n 0, 0, 0, 0), (.getfield 34, 7, 11, 2), (.iconst 0, 0, 0, 0), (.iload_n 2, 2, 0, 0), (.iadd, 0, 0, 0), (.iaload, 0, 0, 0), (.bipush (-9), 9, 0, 1), (.if_icmp .eq 14, 94, 0, 0), (.aload_n 0, 0, 0, 0), (.getfield 34, 7, 11, 2), (.iconst 0, 0, 0, 0), (.iload_n 2, 2, 0, 0), (.iadd, 0, 0, 0), (.iaload, 0, 0, 0), (.goto 4, 95, 0, 0)]
theorem cb_158_25 : z_chk 158 bo_158_25 25 0 [714, 722, 992, 722, 985, 722, 722] = true := by decide +kernel
def bo_158_94 : List ZO := [(.iload_n 2, 2, 0, 0), (.istore_n 2, 2, 0, 0), (.goto (-71), 25, 0, 0)]
theorem cb_158_94 : z_chk 158 bo_158_94 94 0 [] = true := by decide +kernel
def bo_158_95 : List ZO := [(.istore_n 2, 2, 0, 0), (.goto (-71), 25, 0, 0)]
theorem cb_158_95 : z_chk 158 bo_158_95 95 0 [] = true := by decide +kernel
def bo_158_99 : List ZO := [(.aload_n 0, 0, 0, 0), (.getfield 13, 7, 3, 2), (.iload_n 2, 2, 0, 0), (.iaload, 0, 0, 0), (.ifCond .ne 7, 112, 0, 0), (.iload_n 3, 3, 0, 0), (.goto 5, 114, 0, 0)]
theorem cb_158_99 : z_chk 158 bo_158_99 99 0 [714] = true := by decide +kernel
def bo_158_112 : List ZO := [(.bipush (-9), 9, 0, 1), (.ireturn, 0, 0, 0)]
theorem cb_158_112 : z_chk 158 bo_158_112 112 0 [] = true := by decide +kernel
def bo_158_114 : List ZO := [(.ireturn, 0, 0, 0)]
theorem cb_158_114 : z_chk 158 bo_158_114 114 0 [] = true := by decide +kernel
def bk_158 : List (Nat × ZE) := [(0, false, [true, true, false, false, false], bo_158_0, 0), (10, false, [true, true, false, false, false], bo_158_10, 25), (25, true, [true, false, true, true, false], bo_158_25, 0), (94, false, [true, false, true, true, false], bo_158_94, 0), (95, false, [true, false, false, true, false], bo_158_95, 0), (99, false, [true, false, true, true, false], bo_158_99, 0), (112, false, [false, false, false, false, false], bo_158_112, 0), (114, false, [false, false, false, false, false], bo_158_114, 0)]
theorem ck_158 : z_chks 158 bk_158 [[916], [721, 722, 989], [714, 722, 992, 722, 985, 722, 722], [], [], [714], [], []] = true := z_chks_cons cb_158_0 (z_chks_cons cb_158_10 (z_chks_cons cb_158_25 (z_chks_cons cb_158_94 (z_chks_cons cb_158_95 (z_chks_cons cb_158_99 (z_chks_cons cb_158_112 (z_chks_cons cb_158_114 (z_chks_nil))))))))
theorem bf_158_0 : z_fd bk_158 0 = some (false, [true, true, false, false, false], bo_158_0, 0) := rfl
theorem bf_158_10 : z_fd bk_158 10 = some (false, [true, true, false, false, false], bo_158_10, 25) := rfl
theorem bf_158_25 : z_fd bk_158 25 = some (true, [true, false, true, true, false], bo_158_25, 0) := rfl
theorem bf_158_94 : z_fd bk_158 94 = some (false, [true, false, true, true, false], bo_158_94, 0) := rfl
theorem bf_158_95 : z_fd bk_158 95 = some (false, [true, false, false, true, false], bo_158_95, 0) := rfl
theorem bf_158_99 : z_fd bk_158 99 = some (false, [true, false, true, true, false], bo_158_99, 0) := rfl
theorem bf_158_112 : z_fd bk_158 112 = some (false, [false, false, false, false, false], bo_158_112, 0) := rfl
theorem bf_158_114 : z_fd bk_158 114 = some (false, [false, false, false, false, false], bo_158_114, 0) := rfl
theorem cl_158 : z_mL 158 = 5 := by decide +kernel
theorem cz_158 : plainFor (z_my 158) = true ∧ ((z_rm 158).cells = 0 ∧ (z_rm 158).slots = 0) := by decide +kernel
-- 159 Model_spread
def bo_159_0 : List ZO := [(.iconst 0, 0, 0, 0), (.istore_n 1, 1, 0, 0), (.bipush (-9), 9, 0, 1), (.istore_n 2, 2, 0, 0), (.iconst 0, 0, 0, 0), (.istore_n 3, 3, 0, 0)]
theorem cb_159_0 : z_chk 159 bo_159_0 0 7 [] = true := by decide +kernel
def bo_159_7 : List ZO := [(.iload_n 3, 3, 0, 0), (.aload_n 0, 0, 0, 0), (.getfield 99, 7, 2, 0), (.if_icmp .ge 61, 73, 0, 0), (.aload_n 0, 0, 0, 0), (.getfield 13, 7, 3, 2), (.iload_n 3, 3, 0, 0), (.iaload, 0, 0, 0), (.ifCond .ne 46, 67, 0, 0), (.aload_n 0, 0, 0, 0), (.aload_n 0, 0, 0, 0), (.getfield 34, 7, 11, 2), (.iload_n 3, 3, 0, 0), (.invokevirtual 230, 139, 3, 8), (.istore 4, 4, 0, 0), (.iload 4, 4, 0, 0), (.iload_n 1, 1, 0, 0), (.if_icmp .le 8, 46, 0, 0), (.iload 4, 4, 0, 0), (.goto 4, 47, 0, 0)]
theorem cb_159_7 : z_chk 159 bo_159_7 7 0 [713, 714, 722, 924] = true := by decide +kernel
def bo_159_46 : List ZO := [(.iload_n 1, 1, 0, 0), (.istore_n 1, 1, 0, 0), (.iload_n 2, 2, 0, 0), (.bipush (-9), 9, 0, 1), (.if_icmp .eq 9, 60, 0, 0), (.iload 4, 4, 0, 0), (.iload_n 2, 2, 0, 0), (.if_icmp .ge 8, 65, 0, 0), (.iload 4, 4, 0, 0), (.goto 4, 66, 0, 0)]
theorem cb_159_46 : z_chk 159 bo_159_46 46 0 [] = true := by decide +kernel
def bo_159_47 : List ZO := [(.istore_n 1, 1, 0, 0), (.iload_n 2, 2, 0, 0), (.bipush (-9), 9, 0, 1), (.if_icmp .eq 9, 60, 0, 0), (.iload 4, 4, 0, 0), (.iload_n 2, 2, 0, 0), (.if_icmp .ge 8, 65, 0, 0), (.iload 4, 4, 0, 0), (.goto 4, 66, 0, 0)]
theorem cb_159_47 : z_chk 159 bo_159_47 47 0 [] = true := by decide +kernel
def bo_159_60 : List ZO := [(.iload 4, 4, 0, 0), (.goto 4, 66, 0, 0)]
theorem cb_159_60 : z_chk 159 bo_159_60 60 0 [] = true := by decide +kernel
def bo_159_65 : List ZO := [(.iload_n 2, 2, 0, 0), (.istore_n 2, 2, 0, 0), (.iinc 3 1, 1, 3, 0), (.goto (-63), 7, 0, 0)]
theorem cb_159_65 : z_chk 159 bo_159_65 65 0 [] = true := by decide +kernel
def bo_159_66 : List ZO := [(.istore_n 2, 2, 0, 0), (.iinc 3 1, 1, 3, 0), (.goto (-63), 7, 0, 0)]
theorem cb_159_66 : z_chk 159 bo_159_66 66 0 [] = true := by decide +kernel
def bo_159_67 : List ZO := [(.iinc 3 1, 1, 3, 0), (.goto (-63), 7, 0, 0)]
theorem cb_159_67 : z_chk 159 bo_159_67 67 0 [] = true := by decide +kernel
def bo_159_73 : List ZO := [(.iload_n 1, 1, 0, 0), (.iload_n 2, 2, 0, 0), (.isub, 0, 0, 0), (.ireturn, 0, 0, 0)]
theorem cb_159_73 : z_chk 159 bo_159_73 73 0 [] = true := by decide +kernel
def bk_159 : List (Nat × ZE) := [(0, false, [true, false, false, false, false], bo_159_0, 7), (7, true, [true, true, true, true, false], bo_159_7, 0), (46, false, [true, true, true, true, true], bo_159_46, 0), (47, false, [true, false, true, true, true], bo_159_47, 0), (60, false, [true, true, false, true, true], bo_159_60, 0), (65, false, [true, true, true, true, false], bo_159_65, 0), (66, false, [true, true, false, true, false], bo_159_66, 0), (67, false, [true, true, true, true, false], bo_159_67, 0), (73, false, [false, true, true, false, false], bo_159_73, 0)]
theorem ck_159 : z_chks 159 bk_159 [[], [713, 714, 722, 924], [], [], [], [], [], [], []] = true := z_chks_cons cb_159_0 (z_chks_cons cb_159_7 (z_chks_cons cb_159_46 (z_chks_cons cb_159_47 (z_chks_cons cb_159_60 (z_chks_cons cb_159_65 (z_chks_cons cb_159_66 (z_chks_cons cb_159_67 (z_chks_cons cb_159_73 (z_chks_nil)))))))))
theorem bf_159_0 : z_fd bk_159 0 = some (false, [true, false, false, false, false], bo_159_0, 7) := rfl
theorem bf_159_7 : z_fd bk_159 7 = some (true, [true, true, true, true, false], bo_159_7, 0) := rfl
theorem bf_159_46 : z_fd bk_159 46 = some (false, [true, true, true, true, true], bo_159_46, 0) := rfl
theorem bf_159_47 : z_fd bk_159 47 = some (false, [true, false, true, true, true], bo_159_47, 0) := rfl
theorem bf_159_60 : z_fd bk_159 60 = some (false, [true, true, false, true, true], bo_159_60, 0) := rfl
theorem bf_159_65 : z_fd bk_159 65 = some (false, [true, true, true, true, false], bo_159_65, 0) := rfl
theorem bf_159_66 : z_fd bk_159 66 = some (false, [true, true, false, true, false], bo_159_66, 0) := rfl
theorem bf_159_67 : z_fd bk_159 67 = some (false, [true, true, true, true, false], bo_159_67, 0) := rfl
theorem bf_159_73 : z_fd bk_159 73 = some (false, [false, true, true, false, false], bo_159_73, 0) := rfl
theorem cl_159 : z_mL 159 = 5 := by decide +kernel
theorem cz_159 : plainFor (z_my 159) = true ∧ ((z_rm 159).cells = 0 ∧ (z_rm 159).slots = 0) := by decide +kernel
-- 160 Model_even
def bo_160_0 : List ZO := [(.aload_n 0, 0, 0, 0), (.iload_n 1, 1, 0, 0), (.invokevirtual 254, 110, 2, 8), (.ifCond .ne 5, 10, 0, 0), (.iconst (-1), 1, 0, 1), (.ireturn, 0, 0, 0)]
def bo_160_10 : List ZO := [(.bipush (-9), 9, 0, 1), (.istore_n 2, 2, 0, 0), (.iconst 0, 0, 0, 0), (.istore_n 3, 3, 0, 0), (.iconst 0, 0, 0, 0), (.istore 4, 4, 0, 0)]
def bo_160_18 : List ZO := [(.iload 4, 4, 0, 0), (.bipush 10, 10, 0, 0), (.if_icmp .ge 61, 83, 0, 0), (.aload_n 0, 0, 0, 0), (.getfield 31, 7, 10, 2), (.aload_n 0, 0, 0, 0), (.getfield 34, 7, 11, 2), (.invokestatic 199, 102, 2, 0), (.aload_n 0, 0, 0, 0), (.getfield 34, 7, 11, 2), (.bipush 67, 67, 0, 0), (.iload_n 1, 1, 0, 0), (.iadd, 0, 0, 0), (.iload 4, 4, 0, 0), (.iastore, 0, 0, 0), (.aload_n 0, 0, 0, 0), (.bipush 20, 20, 0, 0), (.invokevirtual 259, 136, 2, 8), (.aload_n 0, 0, 0, 0), (.invokevirtual 263, 159, 1, 8), (.istore 5, 5, 0, 0), (.iload_n 2, 2, 0, 0), (.bipush (-9), 9, 0, 1), (.if_icmp .eq 9, 71, 0, 0), (.iload 5, 5, 0, 0), (.iload_n 3, 3, 0, 0), (.if_icmp .ge 9, 77, 0, 0), (.iload 4, 4, 0, 0), (.istore_n 2, 2, 0, 0), (.iload 5, 5, 0, 0), (.istore_n 3, 3, 0, 0), (.iinc 4 1, 1, 4, 0), (.goto (-62), 18, 0, 0)]
def bo_160_71 : List ZO := [(.iload 4, 4, 0, 0), (.istore_n 2, 2, 0, 0), (.iload 5, 5, 0, 0), (.istore_n 3, 3, 0, 0), (.iinc 4 1, 1, 4, 0), (.goto (-62), 18, 0, 0)]
def bo_160_77 : List ZO := [(.iinc 4 1, 1, 4, 0), (.goto (-62), 18, 0, 0)]
def bo_160_83 : List ZO := [(.iload_n 2, 2, 0, 0), (.ireturn, 0, 0, 0)]
def bk_160 : List (Nat × ZE) := [(0, false, [true, true, false, false, false, false], bo_160_0, 0), (10, false, [true, true, false, false, false, false], bo_160_10, 18), (18, true, [true, true, true, true, true, false], bo_160_18, 0), (71, false, [true, true, false, false, true, true], bo_160_71, 0), (77, false, [true, true, true, true, true, false], bo_160_77, 0), (83, false, [false, false, true, false, false, false], bo_160_83, 0)]
theorem ck_160 : z_chks 160 bk_160 [[1019], [], [721, 722, 989, 722, 1036, 1052], [], [], []] = true := by decide +kernel
theorem bf_160_0 : z_fd bk_160 0 = some (false, [true, true, false, false, false, false], bo_160_0, 0) := rfl
theorem bf_160_10 : z_fd bk_160 10 = some (false, [true, true, false, false, false, false], bo_160_10, 18) := rfl
theorem bf_160_18 : z_fd bk_160 18 = some (true, [true, true, true, true, true, false], bo_160_18, 0) := rfl
theorem bf_160_71 : z_fd bk_160 71 = some (false, [true, true, false, false, true, true], bo_160_71, 0) := rfl
theorem bf_160_77 : z_fd bk_160 77 = some (false, [true, true, true, true, true, false], bo_160_77, 0) := rfl
theorem bf_160_83 : z_fd bk_160 83 = some (false, [false, false, true, false, false, false], bo_160_83, 0) := rfl
theorem cl_160 : z_mL 160 = 6 := by decide +kernel
theorem cz_160 : plainFor (z_my 160) = true ∧ ((z_rm 160).cells = 0 ∧ (z_rm 160).slots = 0) := by decide +kernel
-- 161 Model_judged
def bo_161_0 : List ZO := [(.iload 4, 4, 0, 0), (.ifCond .ne 12, 14, 0, 0), (.iload 5, 5, 0, 0), (.ifCond .ne 7, 14, 0, 0), (.iconst 1, 1, 0, 0), (.goto 4, 15, 0, 0)]
theorem cb_161_0 : z_chk 161 bo_161_0 0 0 [] = true := by decide +kernel
def bo_161_14 : List ZO := [(.iconst 0, 0, 0, 0), (.istore 6, 6, 0, 0)]
theorem cb_161_14 : z_chk 161 bo_161_14 14 17 [] = true := by decide +kernel
def bo_161_15 : List ZO := [(.istore 6, 6, 0, 0)]
theorem cb_161_15 : z_chk 161 bo_161_15 15 17 [] = true := by decide +kernel
def bo_161_17 : List ZO := [(.iload_n 1, 1, 0, 0), (.tableswitch 301 1 7 #[42, 70, 111, 138, 194, 242, 274], 18, 1, 7)]
theorem cb_161_17 : z_chk 161 bo_161_17 17 0 [] = true := by decide +kernel
def bo_161_60 : List ZO := [(.bipush 10, 10, 0, 0), (.iload_n 2, 2, 0, 0), (.imul, 0, 0, 0), (.iload_n 3, 3, 0, 0), (.iadd, 0, 0, 0), (.ifCond .eq 8, 74, 0, 0), (.iload 6, 6, 0, 0), (.ifCond .ne 5, 76, 0, 0), (.iconst 0, 0, 0, 0), (.ireturn, 1, 0, 0)]
theorem cb_161_60 : z_chk 161 bo_161_60 60 0 [] = true := by decide +kernel
def bo_161_74 : List ZO := [(.iconst 0, 0, 0, 0), (.ireturn, 1, 0, 0)]
theorem cb_161_74 : z_chk 161 bo_161_74 74 0 [] = true := by decide +kernel
def bo_161_76 : List ZO := [(.aload_n 0, 0, 0, 0), (.bipush 10, 10, 0, 0), (.iload_n 2, 2, 0, 0), (.imul, 0, 0, 0), (.iload_n 3, 3, 0, 0), (.iadd, 0, 0, 0), (.invokevirtual 259, 136, 2, 8), (.iconst 1, 1, 0, 0), (.ireturn, 1, 0, 0)]
theorem cb_161_76 : z_chk 161 bo_161_76 76 0 [1036] = true := by decide +kernel
def bo_161_88 : List ZO := [(.aload_n 0, 0, 0, 0), (.iload_n 2, 2, 0, 0), (.invokevirtual 236, 111, 2, 8), (.ifCond .eq 12, 105, 0, 0), (.iload_n 3, 3, 0, 0), (.ifCond .ne 8, 105, 0, 0), (.iload 6, 6, 0, 0), (.ifCond .ne 5, 107, 0, 0), (.iconst 0, 0, 0, 0), (.ireturn, 1, 0, 0)]
theorem cb_161_88 : z_chk 161 bo_161_88 88 0 [932] = true := by decide +kernel
def bo_161_105 : List ZO := [(.iconst 0, 0, 0, 0), (.ireturn, 1, 0, 0)]
theorem cb_161_105 : z_chk 161 bo_161_105 105 0 [] = true := by decide +kernel
def bo_161_107 : List ZO := [(.aload_n 0, 0, 0, 0), (.getfield 34, 7, 11, 2), (.bipush 58, 58, 0, 0), (.iload_n 2, 2, 0, 0), (.iadd, 0, 0, 0), (.iconst 1, 1, 0, 0), (.aload_n 0, 0, 0, 0), (.getfield 34, 7, 11, 2), (.bipush 58, 58, 0, 0), (.iload_n 2, 2, 0, 0), (.iadd, 0, 0, 0), (.iaload, 0, 0, 0), (.isub, 0, 0, 0), (.iastore, 0, 0, 0), (.iconst 1, 1, 0, 0), (.ireturn, 1, 0, 0)]
theorem cb_161_107 : z_chk 161 bo_161_107 107 0 [722, 722] = true := by decide +kernel
def bo_161_129 : List ZO := [(.aload_n 0, 0, 0, 0), (.iload_n 2, 2, 0, 0), (.invokevirtual 254, 110, 2, 8), (.ifCond .eq 8, 142, 0, 0), (.iload 6, 6, 0, 0), (.ifCond .ne 5, 144, 0, 0), (.iconst 0, 0, 0, 0), (.ireturn, 1, 0, 0)]
theorem cb_161_129 : z_chk 161 bo_161_129 129 0 [1019] = true := by decide +kernel
def bo_161_142 : List ZO := [(.iconst 0, 0, 0, 0), (.ireturn, 1, 0, 0)]
theorem cb_161_142 : z_chk 161 bo_161_142 142 0 [] = true := by decide +kernel
def bo_161_144 : List ZO := [(.aload_n 0, 0, 0, 0), (.getfield 34, 7, 11, 2), (.bipush 67, 67, 0, 0), (.iload_n 2, 2, 0, 0), (.iadd, 0, 0, 0), (.iload_n 3, 3, 0, 0), (.iastore, 0, 0, 0), (.iconst 1, 1, 0, 0), (.ireturn, 1, 0, 0)]
theorem cb_161_144 : z_chk 161 bo_161_144 144 0 [722] = true := by decide +kernel
def bo_161_156 : List ZO := [(.aload_n 0, 0, 0, 0), (.iload_n 2, 2, 0, 0), (.invokevirtual 106, 109, 2, 8), (.ifCond .eq 49, 210, 0, 0), (.iload_n 3, 3, 0, 0), (.iconst 2, 2, 0, 0), (.if_icmp .ge 44, 210, 0, 0), (.iload 6, 6, 0, 0), (.ifCond .eq 39, 210, 0, 0), (.aload_n 0, 0, 0, 0), (.aload_n 0, 0, 0, 0), (.getfield 34, 7, 11, 2), (.iload_n 2, 2, 0, 0), (.invokevirtual 213, 137, 3, 8), (.bipush (-9), 9, 0, 1), (.if_icmp .eq 7, 192, 0, 0), (.iconst 1, 1, 0, 0), (.goto 4, 193, 0, 0)]
theorem cb_161_156 : z_chk 161 bo_161_156 156 0 [916, 722, 901] = true := by decide +kernel
def bo_161_192 : List ZO := [(.iconst 0, 0, 0, 0), (.iload_n 3, 3, 0, 0), (.iconst 1, 1, 0, 0), (.if_icmp .ne 7, 202, 0, 0), (.iconst 1, 1, 0, 0), (.goto 4, 203, 0, 0)]
theorem cb_161_192 : z_chk 161 bo_161_192 192 0 [] = true := by decide +kernel
def bo_161_193 : List ZO := [(.iload_n 3, 3, 0, 0), (.iconst 1, 1, 0, 0), (.if_icmp .ne 7, 202, 0, 0), (.iconst 1, 1, 0, 0), (.goto 4, 203, 0, 0)]
theorem cb_161_193 : z_chk 161 bo_161_193 193 0 [] = true := by decide +kernel
def bo_161_202 : List ZO := [(.iconst 0, 0, 0, 0), (.if_icmp .ne 7, 210, 0, 0), (.iconst 1, 1, 0, 0), (.goto 4, 211, 0, 0)]
theorem cb_161_202 : z_chk 161 bo_161_202 202 0 [] = true := by decide +kernel
def bo_161_203 : List ZO := [(.if_icmp .ne 7, 210, 0, 0), (.iconst 1, 1, 0, 0), (.goto 4, 211, 0, 0)]
theorem cb_161_203 : z_chk 161 bo_161_203 203 0 [] = true := by decide +kernel
def bo_161_210 : List ZO := [(.iconst 0, 0, 0, 0), (.ireturn, 1, 0, 0)]
theorem cb_161_210 : z_chk 161 bo_161_210 210 0 [] = true := by decide +kernel
def bo_161_211 : List ZO := [(.ireturn, 1, 0, 0)]
theorem cb_161_211 : z_chk 161 bo_161_211 211 0 [] = true := by decide +kernel
def bo_161_212 : List ZO := [(.aload_n 0, 0, 0, 0), (.iload_n 2, 2, 0, 0), (.invokevirtual 106, 109, 2, 8), (.ifCond .eq 41, 258, 0, 0), (.aload_n 0, 0, 0, 0), (.iload_n 3, 3, 0, 0), (.invokevirtual 106, 109, 2, 8), (.ifCond .eq 33, 258, 0, 0), (.iload 6, 6, 0, 0), (.ifCond .eq 28, 258, 0, 0), (.aload_n 0, 0, 0, 0), (.getfield 13, 7, 3, 2), (.iload_n 2, 2, 0, 0), (.iaload, 0, 0, 0), (.ifCond .eq 19, 258, 0, 0), (.aload_n 0, 0, 0, 0), (.getfield 34, 7, 11, 2), (.iconst 0, 0, 0, 0), (.iload_n 2, 2, 0, 0), (.iadd, 0, 0, 0), (.iaload, 0, 0, 0), (.iload_n 3, 3, 0, 0), (.if_icmp .ne 7, 258, 0, 0), (.iconst 1, 1, 0, 0), (.goto 4, 259, 0, 0)]
theorem cb_161_212 : z_chk 161 bo_161_212 212 0 [916, 916, 714, 722] = true := by decide +kernel
def bo_161_258 : List ZO := [(.iconst 0, 0, 0, 0), (.ireturn, 1, 0, 0)]
theorem cb_161_258 : z_chk 161 bo_161_258 258 0 [] = true := by decide +kernel
def bo_161_259 : List ZO := [(.ireturn, 1, 0, 0)]
theorem cb_161_259 : z_chk 161 bo_161_259 259 0 [] = true := by decide +kernel
def bo_161_260 : List ZO := [(.aload_n 0, 0, 0, 0), (.iload_n 2, 2, 0, 0), (.invokevirtual 254, 110, 2, 8), (.ifCond .eq 25, 290, 0, 0), (.iload 6, 6, 0, 0), (.ifCond .eq 20, 290, 0, 0), (.aload_n 0, 0, 0, 0), (.aload_n 0, 0, 0, 0), (.getfield 34, 7, 11, 2), (.iload_n 2, 2, 0, 0), (.invokevirtual 230, 139, 3, 8), (.iload_n 3, 3, 0, 0), (.if_icmp .ne 7, 290, 0, 0), (.iconst 1, 1, 0, 0), (.goto 4, 291, 0, 0)]
theorem cb_161_260 : z_chk 161 bo_161_260 260 0 [1019, 722, 924] = true := by decide +kernel
def bo_161_290 : List ZO := [(.iconst 0, 0, 0, 0), (.ireturn, 1, 0, 0)]
theorem cb_161_290 : z_chk 161 bo_161_290 290 0 [] = true := by decide +kernel
def bo_161_291 : List ZO := [(.ireturn, 1, 0, 0)]
theorem cb_161_291 : z_chk 161 bo_161_291 291 0 [] = true := by decide +kernel
def bo_161_292 : List ZO := [(.iload 6, 6, 0, 0), (.ifCond .eq 23, 317, 0, 0), (.aload_n 0, 0, 0, 0), (.getfield 34, 7, 11, 2), (.bipush 76, 76, 0, 0), (.iaload, 0, 0, 0), (.bipush 10, 10, 0, 0), (.iload_n 2, 2, 0, 0), (.imul, 0, 0, 0), (.iload_n 3, 3, 0, 0), (.iadd, 0, 0, 0), (.if_icmp .ne 7, 317, 0, 0), (.iconst 1, 1, 0, 0), (.goto 4, 318, 0, 0)]
theorem cb_161_292 : z_chk 161 bo_161_292 292 0 [722] = true := by decide +kernel
def bo_161_317 : List ZO := [(.iconst 0, 0, 0, 0), (.ireturn, 1, 0, 0)]
theorem cb_161_317 : z_chk 161 bo_161_317 317 0 [] = true := by decide +kernel
def bo_161_318 : List ZO := [(.ireturn, 1, 0, 0)]
theorem cb_161_318 : z_chk 161 bo_161_318 318 0 [] = true := by decide +kernel
def bo_161_319 : List ZO := [(.iconst 0, 0, 0, 0), (.ireturn, 1, 0, 0)]
theorem cb_161_319 : z_chk 161 bo_161_319 319 0 [] = true := by decide +kernel
def bk_161 : List (Nat × ZE) := [(0, false, [true, true, true, true, true, true, false], bo_161_0, 0), (14, false, [true, true, true, true, false, false, false], bo_161_14, 17), (15, false, [true, true, true, true, false, false, false], bo_161_15, 17), (17, true, [true, true, true, true, false, false, true], bo_161_17, 0), (60, false, [true, false, true, true, false, false, true], bo_161_60, 0), (74, false, [false, false, false, false, false, false, false], bo_161_74, 0), (76, false, [true, false, true, true, false, false, false], bo_161_76, 0), (88, false, [true, false, true, true, false, false, true], bo_161_88, 0), (105, false, [false, false, false, false, false, false, false], bo_161_105, 0), (107, false, [true, false, true, false, false, false, false], bo_161_107, 0), (129, false, [true, false, true, true, false, false, true], bo_161_129, 0), (142, false, [false, false, false, false, false, false, false], bo_161_142, 0), (144, false, [true, false, true, true, false, false, false], bo_161_144, 0), (156, false, [true, false, true, true, false, false, true], bo_161_156, 0), (192, false, [false, false, false, true, false, false, false], bo_161_192, 0), (193, false, [false, false, false, true, false, false, false], bo_161_193, 0), (202, false, [false, false, false, false, false, false, false], bo_161_202, 0), (203, false, [false, false, false, false, false, false, false], bo_161_203, 0), (210, false, [false, false, false, false, false, false, false], bo_161_210, 0), (211, false, [false, false, false, false, false, false, false], bo_161_211, 0), (212, false, [true, false, true, true, false, false, true], bo_161_212, 0), (258, false, [false, false, false, false, false, false, false], bo_161_258, 0), (259, false, [false, false, false, false, false, false, false], bo_161_259, 0), (260, false, [true, false, true, true, false, false, true], bo_161_260, 0), (290, false, [false, false, false, false, false, false, false], bo_161_290, 0), (291, false, [false, false, false, false, false, false, false], bo_161_291, 0), (292, false, [true, false, true, true, false, false, true], bo_161_292, 0), (317, false, [false, false, false, false, false, false, false], bo_161_317, 0), (318, false, [false, false, false, false, false, false, false], bo_161_318, 0), (319, false, [false, false, false, false, false, false, false], bo_161_319, 0)]
theorem ck_161 : z_chks 161 bk_161 [[], [], [], [], [], [], [1036], [932], [], [722, 722], [1019], [], [722], [916, 722, 901], [], [], [], [], [], [], [916, 916, 714, 722], [], [], [1019, 722, 924], [], [], [722], [], [], []] = true := z_chks_cons cb_161_0 (z_chks_cons cb_161_14 (z_chks_cons cb_161_15 (z_chks_cons cb_161_17 (z_chks_cons cb_161_60 (z_chks_cons cb_161_74 (z_chks_cons cb_161_76 (z_chks_cons cb_161_88 (z_chks_cons cb_161_105 (z_chks_cons cb_161_107 (z_chks_cons cb_161_129 (z_chks_cons cb_161_142 (z_chks_cons cb_161_144 (z_chks_cons cb_161_156 (z_chks_cons cb_161_192 (z_chks_cons cb_161_193 (z_chks_cons cb_161_202 (z_chks_cons cb_161_203 (z_chks_cons cb_161_210 (z_chks_cons cb_161_211 (z_chks_cons cb_161_212 (z_chks_cons cb_161_258 (z_chks_cons cb_161_259 (z_chks_cons cb_161_260 (z_chks_cons cb_161_290 (z_chks_cons cb_161_291 (z_chks_cons cb_161_292 (z_chks_cons cb_161_317 (z_chks_cons cb_161_318 (z_chks_cons cb_161_319 (z_chks_nil))))))))))))))))))))))))))))))
theorem bf_161_0 : z_fd bk_161 0 = some (false, [true, true, true, true, true, true, false], bo_161_0, 0) := rfl
theorem bf_161_14 : z_fd bk_161 14 = some (false, [true, true, true, true, false, false, false], bo_161_14, 17) := rfl
theorem bf_161_15 : z_fd bk_161 15 = some (false, [true, true, true, true, false, false, false], bo_161_15, 17) := rfl
theorem bf_161_17 : z_fd bk_161 17 = some (true, [true, true, true, true, false, false, true], bo_161_17, 0) := rfl
theorem bf_161_60 : z_fd bk_161 60 = some (false, [true, false, true, true, false, false, true], bo_161_60, 0) := rfl
theorem bf_161_74 : z_fd bk_161 74 = some (false, [false, false, false, false, false, false, false], bo_161_74, 0) := rfl
theorem bf_161_76 : z_fd bk_161 76 = some (false, [true, false, true, true, false, false, false], bo_161_76, 0) := rfl
theorem bf_161_88 : z_fd bk_161 88 = some (false, [true, false, true, true, false, false, true], bo_161_88, 0) := rfl
theorem bf_161_105 : z_fd bk_161 105 = some (false, [false, false, false, false, false, false, false], bo_161_105, 0) := rfl
theorem bf_161_107 : z_fd bk_161 107 = some (false, [true, false, true, false, false, false, false], bo_161_107, 0) := rfl
theorem bf_161_129 : z_fd bk_161 129 = some (false, [true, false, true, true, false, false, true], bo_161_129, 0) := rfl
theorem bf_161_142 : z_fd bk_161 142 = some (false, [false, false, false, false, false, false, false], bo_161_142, 0) := rfl
theorem bf_161_144 : z_fd bk_161 144 = some (false, [true, false, true, true, false, false, false], bo_161_144, 0) := rfl
theorem bf_161_156 : z_fd bk_161 156 = some (false, [true, false, true, true, false, false, true], bo_161_156, 0) := rfl
theorem bf_161_192 : z_fd bk_161 192 = some (false, [false, false, false, true, false, false, false], bo_161_192, 0) := rfl
theorem bf_161_193 : z_fd bk_161 193 = some (false, [false, false, false, true, false, false, false], bo_161_193, 0) := rfl
theorem bf_161_202 : z_fd bk_161 202 = some (false, [false, false, false, false, false, false, false], bo_161_202, 0) := rfl
theorem bf_161_203 : z_fd bk_161 203 = some (false, [false, false, false, false, false, false, false], bo_161_203, 0) := rfl
theorem bf_161_210 : z_fd bk_161 210 = some (false, [false, false, false, false, false, false, false], bo_161_210, 0) := rfl
theorem bf_161_211 : z_fd bk_161 211 = some (false, [false, false, false, false, false, false, false], bo_161_211, 0) := rfl
theorem bf_161_212 : z_fd bk_161 212 = some (false, [true, false, true, true, false, false, true], bo_161_212, 0) := rfl
theorem bf_161_258 : z_fd bk_161 258 = some (false, [false, false, false, false, false, false, false], bo_161_258, 0) := rfl
theorem bf_161_259 : z_fd bk_161 259 = some (false, [false, false, false, false, false, false, false], bo_161_259, 0) := rfl
theorem bf_161_260 : z_fd bk_161 260 = some (false, [true, false, true, true, false, false, true], bo_161_260, 0) := rfl
theorem bf_161_290 : z_fd bk_161 290 = some (false, [false, false, false, false, false, false, false], bo_161_290, 0) := rfl
theorem bf_161_291 : z_fd bk_161 291 = some (false, [false, false, false, false, false, false, false], bo_161_291, 0) := rfl
theorem bf_161_292 : z_fd bk_161 292 = some (false, [true, false, true, true, false, false, true], bo_161_292, 0) := rfl
theorem bf_161_317 : z_fd bk_161 317 = some (false, [false, false, false, false, false, false, false], bo_161_317, 0) := rfl
theorem bf_161_318 : z_fd bk_161 318 = some (false, [false, false, false, false, false, false, false], bo_161_318, 0) := rfl
theorem bf_161_319 : z_fd bk_161 319 = some (false, [false, false, false, false, false, false, false], bo_161_319, 0) := rfl
theorem cl_161 : z_mL 161 = 7 := by decide +kernel
theorem cz_161 : plainFor (z_my 161) = true ∧ ((z_rm 161).cells = 0 ∧ (z_rm 161).slots = 0) := by decide +kernel
-- 162 Model_hundredThousands
def bo_162_0 : List ZO := [(.lconst 1, 1, 0, 0), (.lstore_n 1, 1, 0, 0), (.iconst 0, 0, 0, 0), (.istore_n 3, 3, 0, 0)]
def bo_162_4 : List ZO := [(.iload_n 3, 3, 0, 0), (.iload_n 0, 0, 0, 0), (.if_icmp .ge 15, 21, 0, 0), (.lload_n 1, 1, 0, 0), (.ldc2_w 266, 100000, 0, 0), (.lmul, 0, 0, 0), (.lstore_n 1, 1, 0, 0), (.iinc 3 1, 1, 3, 0), (.goto (-14), 4, 0, 0)]
def bo_162_21 : List ZO := [(.lload_n 1, 1, 0, 0), (.lreturn, 0, 0, 0)]
def bk_162 : List (Nat × ZE) := [(0, false, [true, false, false, false], bo_162_0, 4), (4, true, [true, true, false, true], bo_162_4, 0), (21, false, [false, true, false, false], bo_162_21, 0)]
theorem ck_162 : z_chks 162 bk_162 [[], [1063], []] = true := by decide +kernel
theorem bf_162_0 : z_fd bk_162 0 = some (false, [true, false, false, false], bo_162_0, 4) := rfl
theorem bf_162_4 : z_fd bk_162 4 = some (true, [true, true, false, true], bo_162_4, 0) := rfl
theorem bf_162_21 : z_fd bk_162 21 = some (false, [false, true, false, false], bo_162_21, 0) := rfl
theorem cl_162 : z_mL 162 = 4 := by decide +kernel
theorem cz_162 : plainFor (z_my 162) = true ∧ ((z_rm 162).cells = 0 ∧ (z_rm 162).slots = 0) := by decide +kernel
-- 163 Model_judge
def bo_163_0 : List ZO := [(.iload_n 1, 1, 0, 0), (.i2l, 0, 0, 0), (.lconst 1, 1, 0, 0), (.ldc2_w 257, 3, 0, 0), (.invokestatic 102, 103, 3, 0), (.ifCond .eq 17, 26, 0, 0), (.lload_n 2, 2, 0, 0), (.lconst 0, 0, 0, 0), (.iload_n 1, 1, 0, 0), (.invokestatic 268, 162, 1, 0), (.lconst 1, 1, 0, 0), (.lsub, 0, 0, 0), (.invokestatic 102, 103, 3, 0), (.ifCond .ne 6, 29, 0, 0), (.bipush (-2), 2, 0, 1), (.ireturn, 0, 0, 0)]
def bo_163_26 : List ZO := [(.bipush (-2), 2, 0, 1), (.ireturn, 0, 0, 0)]
def bo_163_29 : List ZO := [(.aload_n 0, 0, 0, 0), (.getfield 31, 7, 10, 2), (.aload_n 0, 0, 0, 0), (.getfield 34, 7, 11, 2), (.invokestatic 199, 102, 2, 0), (.iconst 0, 0, 0, 0), (.istore 4, 4, 0, 0)]
def bo_163_43 : List ZO := [(.iload 4, 4, 0, 0), (.iload_n 1, 1, 0, 0), (.if_icmp .ge 73, 119, 0, 0), (.lload_n 2, 2, 0, 0), (.iload_n 1, 1, 0, 0), (.iconst 1, 1, 0, 0), (.isub, 0, 0, 0), (.iload 4, 4, 0, 0), (.isub, 0, 0, 0), (.invokestatic 268, 162, 1, 0), (.ldiv, 0, 0, 0), (.ldc2_w 266, 100000, 0, 0), (.lrem, 0, 0, 0), (.l2i, 0, 0, 0), (.istore 5, 5, 0, 0), (.aload_n 0, 0, 0, 0), (.iload 5, 5, 0, 0), (.sipush 10000, 10000, 0, 0), (.idiv, 0, 0, 0), (.iload 5, 5, 0, 0), (.sipush 1000, 1000, 0, 0), (.idiv, 0, 0, 0), (.bipush 10, 10, 0, 0), (.irem, 0, 0, 0), (.iload 5, 5, 0, 0), (.bipush 100, 100, 0, 0), (.idiv, 0, 0, 0), (.bipush 10, 10, 0, 0), (.irem, 0, 0, 0), (.iload 5, 5, 0, 0), (.bipush 10, 10, 0, 0), (.idiv, 0, 0, 0), (.bipush 10, 10, 0, 0), (.irem, 0, 0, 0), (.iload 5, 5, 0, 0), (.bipush 10, 10, 0, 0), (.irem, 0, 0, 0), (.invokevirtual 272, 161, 6, 8), (.ifCond .ne 6, 113, 0, 0), (.iload 4, 4, 0, 0), (.ireturn, 0, 0, 0)]
def bo_163_113 : List ZO := [(.iinc 4 1, 1, 4, 0), (.goto (-73), 43, 0, 0)]
def bo_163_119 : List ZO := [(.bipush (-9), 9, 0, 1), (.ireturn, 0, 0, 0)]
def bk_163 : List (Nat × ZE) := [(0, false, [true, true, true, false, false, false], bo_163_0, 0), (26, false, [false, false, false, false, false, false], bo_163_26, 0), (29, false, [true, true, true, false, false, false], bo_163_29, 43), (43, true, [true, true, true, false, true, false], bo_163_43, 0), (113, false, [true, true, true, false, true, false], bo_163_113, 0), (119, false, [false, false, false, false, false, false], bo_163_119, 0)]
theorem ck_163 : z_chks 163 bk_163 [[1035, 837, 1060, 837], [], [721, 722, 989], [1060, 1063, 1064], [], []] = true := by decide +kernel
theorem bf_163_0 : z_fd bk_163 0 = some (false, [true, true, true, false, false, false], bo_163_0, 0) := rfl
theorem bf_163_26 : z_fd bk_163 26 = some (false, [false, false, false, false, false, false], bo_163_26, 0) := rfl
theorem bf_163_29 : z_fd bk_163 29 = some (false, [true, true, true, false, false, false], bo_163_29, 43) := rfl
theorem bf_163_43 : z_fd bk_163 43 = some (true, [true, true, true, false, true, false], bo_163_43, 0) := rfl
theorem bf_163_113 : z_fd bk_163 113 = some (false, [true, true, true, false, true, false], bo_163_113, 0) := rfl
theorem bf_163_119 : z_fd bk_163 119 = some (false, [false, false, false, false, false, false], bo_163_119, 0) := rfl
theorem cl_163 : z_mL 163 = 6 := by decide +kernel
theorem cz_163 : plainFor (z_my 163) = true ∧ ((z_rm 163).cells = 0 ∧ (z_rm 163).slots = 0) := by decide +kernel
-- 164 Model_see
def bo_164_0 : List ZO := [(.aload_n 0, 0, 0, 0), (.iload_n 1, 1, 0, 0), (.invokevirtual 106, 109, 2, 8), (.ifCond .ne 5, 10, 0, 0), (.iconst (-1), 1, 0, 1), (.ireturn, 0, 0, 0)]
def bo_164_10 : List ZO := [(.iload_n 2, 2, 0, 0), (.i2l, 0, 0, 0), (.lconst 0, 0, 0, 0), (.ldc2_w 276, 20, 0, 0), (.invokestatic 102, 103, 3, 0), (.ifCond .eq 13, 32, 0, 0), (.iload_n 3, 3, 0, 0), (.i2l, 0, 0, 0), (.lconst 0, 0, 0, 0), (.lconst 1, 1, 0, 0), (.invokestatic 102, 103, 3, 0), (.ifCond .ne 6, 35, 0, 0), (.bipush (-2), 2, 0, 1), (.ireturn, 0, 0, 0)]
def bo_164_32 : List ZO := [(.bipush (-2), 2, 0, 1), (.ireturn, 0, 0, 0)]
def bo_164_35 : List ZO := [(.aload_n 0, 0, 0, 0), (.getfield 227, 7, 21, 0), (.bipush 6, 6, 0, 0), (.if_icmp .ne 6, 47, 0, 0), (.bipush (-4), 4, 0, 1), (.ireturn, 0, 0, 0)]
def bo_164_47 : List ZO := [(.aload_n 0, 0, 0, 0), (.getfield 50, 7, 18, 2), (.aload_n 0, 0, 0, 0), (.getfield 227, 7, 21, 0), (.iload_n 1, 1, 0, 0), (.iastore, 0, 0, 0), (.aload_n 0, 0, 0, 0), (.getfield 53, 7, 19, 2), (.aload_n 0, 0, 0, 0), (.getfield 227, 7, 21, 0), (.iload_n 2, 2, 0, 0), (.iastore, 0, 0, 0), (.aload_n 0, 0, 0, 0), (.getfield 56, 7, 20, 2), (.aload_n 0, 0, 0, 0), (.getfield 227, 7, 21, 0), (.iload_n 3, 3, 0, 0), (.iastore, 0, 0, 0), (.aload_n 0, 0, 0, 0), (.dup, 0, 0, 0), (.getfield 227, 7, 21, 0), (.iconst 1, 1, 0, 0), (.iadd, 0, 0, 0), (.putfield 227, 7, 21, 0), (.aload_n 0, 0, 0, 0), (.getfield 227, 7, 21, 0), (.ireturn, 0, 0, 0)]
def bk_164 : List (Nat × ZE) := [(0, false, [true, true, true, true], bo_164_0, 0), (10, false, [true, true, true, true], bo_164_10, 0), (32, false, [false, false, false, false], bo_164_32, 0), (35, false, [true, true, true, true], bo_164_35, 0), (47, false, [true, true, true, true], bo_164_47, 0)]
theorem ck_164 : z_chks 164 bk_164 [[916], [1072, 837, 837], [], [732], [729, 732, 730, 732, 731, 732, 732, 732, 732]] = true := by decide +kernel
theorem bf_164_0 : z_fd bk_164 0 = some (false, [true, true, true, true], bo_164_0, 0) := rfl
theorem bf_164_10 : z_fd bk_164 10 = some (false, [true, true, true, true], bo_164_10, 0) := rfl
theorem bf_164_32 : z_fd bk_164 32 = some (false, [false, false, false, false], bo_164_32, 0) := rfl
theorem bf_164_35 : z_fd bk_164 35 = some (false, [true, true, true, true], bo_164_35, 0) := rfl
theorem bf_164_47 : z_fd bk_164 47 = some (false, [true, true, true, true], bo_164_47, 0) := rfl
theorem cl_164 : z_mL 164 = 4 := by decide +kernel
theorem cz_164 : plainFor (z_my 164) = true ∧ ((z_rm 164).cells = 0 ∧ (z_rm 164).slots = 0) := by decide +kernel
-- 165 Model_unsee
def bo_165_0 : List ZO := [(.aload_n 0, 0, 0, 0), (.getfield 227, 7, 21, 0), (.istore_n 1, 1, 0, 0), (.aload_n 0, 0, 0, 0), (.iconst 0, 0, 0, 0), (.putfield 227, 7, 21, 0), (.iload_n 1, 1, 0, 0), (.ireturn, 0, 0, 0)]
def bk_165 : List (Nat × ZE) := [(0, false, [true, false], bo_165_0, 0)]
theorem ck_165 : z_chks 165 bk_165 [[732, 732]] = true := by decide +kernel
theorem bf_165_0 : z_fd bk_165 0 = some (false, [true, false], bo_165_0, 0) := rfl
theorem cl_165 : z_mL 165 = 2 := by decide +kernel
theorem cz_165 : plainFor (z_my 165) = true ∧ ((z_rm 165).cells = 0 ∧ (z_rm 165).slots = 0) := by decide +kernel
-- 166 Model_isSoBy
def bo_166_0 : List ZO := [(.aload_n 0, 0, 0, 0), (.getfield 31, 7, 10, 2), (.aload_n 0, 0, 0, 0), (.getfield 34, 7, 11, 2), (.invokestatic 199, 102, 2, 0), (.aload_n 0, 0, 0, 0), (.getfield 34, 7, 11, 2), (.bipush 58, 58, 0, 0), (.iload_n 1, 1, 0, 0), (.iadd, 0, 0, 0), (.iconst 1, 1, 0, 0), (.iastore, 0, 0, 0), (.aload_n 0, 0, 0, 0), (.aload_n 0, 0, 0, 0), (.getfield 53, 7, 19, 2), (.iload_n 2, 2, 0, 0), (.iaload, 0, 0, 0), (.invokevirtual 259, 136, 2, 8), (.aload_n 0, 0, 0, 0), (.aload_n 0, 0, 0, 0), (.getfield 50, 7, 18, 2), (.iload_n 2, 2, 0, 0), (.iaload, 0, 0, 0), (.invokevirtual 106, 109, 2, 8), (.ifCond .eq 26, 67, 0, 0), (.aload_n 0, 0, 0, 0), (.aload_n 0, 0, 0, 0), (.getfield 34, 7, 11, 2), (.aload_n 0, 0, 0, 0), (.getfield 50, 7, 18, 2), (.iload_n 2, 2, 0, 0), (.iaload, 0, 0, 0), (.invokevirtual 213, 137, 3, 8), (.bipush (-9), 9, 0, 1), (.if_icmp .eq 7, 67, 0, 0), (.iconst 1, 1, 0, 0), (.goto 4, 68, 0, 0)]
theorem cb_166_0 : z_chk 166 bo_166_0 0 0 [721, 722, 989, 722, 730, 1036, 729, 916, 722, 729, 901] = true := by decide +kernel
def bo_166_67 : List ZO := [(.iconst 0, 0, 0, 0), (.istore_n 3, 3, 0, 0), (.iload_n 3, 3, 0, 0), (.aload_n 0, 0, 0, 0), (.getfield 56, 7, 20, 2), (.iload_n 2, 2, 0, 0), (.iaload, 0, 0, 0), (.iconst 1, 1, 0, 0), (.if_icmp .ne 7, 84, 0, 0), (.iconst 1, 1, 0, 0), (.goto 4, 85, 0, 0)]
theorem cb_166_67 : z_chk 166 bo_166_67 67 0 [731] = true := by decide +kernel
def bo_166_68 : List ZO := [(.istore_n 3, 3, 0, 0), (.iload_n 3, 3, 0, 0), (.aload_n 0, 0, 0, 0), (.getfield 56, 7, 20, 2), (.iload_n 2, 2, 0, 0), (.iaload, 0, 0, 0), (.iconst 1, 1, 0, 0), (.if_icmp .ne 7, 84, 0, 0), (.iconst 1, 1, 0, 0), (.goto 4, 85, 0, 0)]
theorem cb_166_68 : z_chk 166 bo_166_68 68 0 [731] = true := by decide +kernel
def bo_166_84 : List ZO := [(.iconst 0, 0, 0, 0), (.if_icmp .ne 7, 92, 0, 0), (.iconst 1, 1, 0, 0), (.goto 4, 93, 0, 0)]
theorem cb_166_84 : z_chk 166 bo_166_84 84 0 [] = true := by decide +kernel
def bo_166_85 : List ZO := [(.if_icmp .ne 7, 92, 0, 0), (.iconst 1, 1, 0, 0), (.goto 4, 93, 0, 0)]
theorem cb_166_85 : z_chk 166 bo_166_85 85 0 [] = true := by decide +kernel
def bo_166_92 : List ZO := [(.iconst 0, 0, 0, 0), (.ireturn, 1, 0, 0)]
theorem cb_166_92 : z_chk 166 bo_166_92 92 0 [] = true := by decide +kernel
def bo_166_93 : List ZO := [(.ireturn, 1, 0, 0)]
theorem cb_166_93 : z_chk 166 bo_166_93 93 0 [] = true := by decide +kernel
def bk_166 : List (Nat × ZE) := [(0, false, [true, true, true, false], bo_166_0, 0), (67, false, [true, false, true, false], bo_166_67, 0), (68, false, [true, false, true, false], bo_166_68, 0), (84, false, [false, false, false, false], bo_166_84, 0), (85, false, [false, false, false, false], bo_166_85, 0), (92, false, [false, false, false, false], bo_166_92, 0), (93, false, [false, false, false, false], bo_166_93, 0)]
theorem ck_166 : z_chks 166 bk_166 [[721, 722, 989, 722, 730, 1036, 729, 916, 722, 729, 901], [731], [731], [], [], [], []] = true := z_chks_cons cb_166_0 (z_chks_cons cb_166_67 (z_chks_cons cb_166_68 (z_chks_cons cb_166_84 (z_chks_cons cb_166_85 (z_chks_cons cb_166_92 (z_chks_cons cb_166_93 (z_chks_nil)))))))
theorem bf_166_0 : z_fd bk_166 0 = some (false, [true, true, true, false], bo_166_0, 0) := rfl
theorem bf_166_67 : z_fd bk_166 67 = some (false, [true, false, true, false], bo_166_67, 0) := rfl
theorem bf_166_68 : z_fd bk_166 68 = some (false, [true, false, true, false], bo_166_68, 0) := rfl
theorem bf_166_84 : z_fd bk_166 84 = some (false, [false, false, false, false], bo_166_84, 0) := rfl
theorem bf_166_85 : z_fd bk_166 85 = some (false, [false, false, false, false], bo_166_85, 0) := rfl
theorem bf_166_92 : z_fd bk_166 92 = some (false, [false, false, false, false], bo_166_92, 0) := rfl
theorem bf_166_93 : z_fd bk_166 93 = some (false, [false, false, false, false], bo_166_93, 0) := rfl
theorem cl_166 : z_mL 166 = 4 := by decide +kernel
theorem cz_166 : plainFor (z_my 166) = true ∧ ((z_rm 166).cells = 0 ∧ (z_rm 166).slots = 0) := by decide +kernel
-- 167 Model_which
def bo_167_0 : List ZO := [(.iconst 0, 0, 0, 0), (.istore_n 1, 1, 0, 0), (.iconst 0, 0, 0, 0), (.istore_n 2, 2, 0, 0)]
theorem cb_167_0 : z_chk 167 bo_167_0 0 4 [] = true := by decide +kernel
def bo_167_4 : List ZO := [(.iload_n 2, 2, 0, 0), (.aload_n 0, 0, 0, 0), (.getfield 110, 7, 6, 0), (.if_icmp .ge 79, 88, 0, 0), (.aload_n 0, 0, 0, 0), (.getfield 31, 7, 10, 2), (.bipush 58, 58, 0, 0), (.iload_n 2, 2, 0, 0), (.iadd, 0, 0, 0), (.iaload, 0, 0, 0), (.ifCond .ne 7, 28, 0, 0), (.iconst 1, 1, 0, 0), (.goto 4, 29, 0, 0)]
theorem cb_167_4 : z_chk 167 bo_167_4 4 0 [717, 721] = true := by decide +kernel
def bo_167_28 : List ZO := [(.iconst 0, 0, 0, 0), (.istore_n 3, 3, 0, 0), (.iconst 0, 0, 0, 0), (.istore 4, 4, 0, 0)]
theorem cb_167_28 : z_chk 167 bo_167_28 28 33 [] = true := by decide +kernel
def bo_167_29 : List ZO := [(.istore_n 3, 3, 0, 0), (.iconst 0, 0, 0, 0), (.istore 4, 4, 0, 0)]
theorem cb_167_29 : z_chk 167 bo_167_29 29 33 [] = true := by decide +kernel
def bo_167_33 : List ZO := [(.iload 4, 4, 0, 0), (.aload_n 0, 0, 0, 0), (.getfield 227, 7, 21, 0), (.if_icmp .ge 29, 68, 0, 0), (.iload_n 3, 3, 0, 0), (.ifCond .eq 17, 60, 0, 0), (.aload_n 0, 0, 0, 0), (.iload_n 2, 2, 0, 0), (.iload 4, 4, 0, 0), (.invokevirtual 278, 166, 3, 8), (.ifCond .eq 7, 60, 0, 0), (.iconst 1, 1, 0, 0), (.goto 4, 61, 0, 0)]
theorem cb_167_33 : z_chk 167 bo_167_33 33 0 [732, 1081] = true := by decide +kernel
def bo_167_60 : List ZO := [(.iconst 0, 0, 0, 0), (.istore_n 3, 3, 0, 0), (.iinc 4 1, 1, 4, 0), (.goto (-32), 33, 0, 0)]
theorem cb_167_60 : z_chk 167 bo_167_60 60 0 [] = true := by decide +kernel
def bo_167_61 : List ZO := [(.istore_n 3, 3, 0, 0), (.iinc 4 1, 1, 4, 0), (.goto (-32), 33, 0, 0)]
theorem cb_167_61 : z_chk 167 bo_167_61 61 0 [] = true := by decide +kernel
def bo_167_68 : List ZO := [(.iload_n 1, 1, 0, 0), (.iload_n 3, 3, 0, 0), (.ifCond .eq 9, 79, 0, 0), (.iconst 1, 1, 0, 0), (.iload_n 2, 2, 0, 0), (.ishl, 0, 0, 0), (.goto 4, 80, 0, 0)]
theorem cb_167_68 : z_chk 167 bo_167_68 68 0 [] = true := by decide +kernel
def bo_167_79 : List ZO := [(.iconst 0, 0, 0, 0), (.ior, 0, 0, 0), (.istore_n 1, 1, 0, 0), (.iinc 2 1, 1, 2, 0), (.goto (-81), 4, 0, 0)]
theorem cb_167_79 : z_chk 167 bo_167_79 79 0 [] = true := by decide +kernel
def bo_167_80 : List ZO := [(.ior, 0, 0, 0), (.istore_n 1, 1, 0, 0), (.iinc 2 1, 1, 2, 0), (.goto (-81), 4, 0, 0)]
theorem cb_167_80 : z_chk 167 bo_167_80 80 0 [] = true := by decide +kernel
def bo_167_88 : List ZO := [(.iload_n 1, 1, 0, 0), (.ireturn, 0, 0, 0)]
theorem cb_167_88 : z_chk 167 bo_167_88 88 0 [] = true := by decide +kernel
def bk_167 : List (Nat × ZE) := [(0, false, [true, false, false, false, false], bo_167_0, 4), (4, true, [true, true, true, false, false], bo_167_4, 0), (28, false, [true, true, true, false, false], bo_167_28, 33), (29, false, [true, true, true, false, false], bo_167_29, 33), (33, true, [true, true, true, true, true], bo_167_33, 0), (60, false, [true, true, true, false, true], bo_167_60, 0), (61, false, [true, true, true, false, true], bo_167_61, 0), (68, false, [true, true, true, true, false], bo_167_68, 0), (79, false, [true, false, true, false, false], bo_167_79, 0), (80, false, [true, false, true, false, false], bo_167_80, 0), (88, false, [false, true, false, false, false], bo_167_88, 0)]
theorem ck_167 : z_chks 167 bk_167 [[], [717, 721], [], [], [732, 1081], [], [], [], [], [], []] = true := z_chks_cons cb_167_0 (z_chks_cons cb_167_4 (z_chks_cons cb_167_28 (z_chks_cons cb_167_29 (z_chks_cons cb_167_33 (z_chks_cons cb_167_60 (z_chks_cons cb_167_61 (z_chks_cons cb_167_68 (z_chks_cons cb_167_79 (z_chks_cons cb_167_80 (z_chks_cons cb_167_88 (z_chks_nil)))))))))))
theorem bf_167_0 : z_fd bk_167 0 = some (false, [true, false, false, false, false], bo_167_0, 4) := rfl
theorem bf_167_4 : z_fd bk_167 4 = some (true, [true, true, true, false, false], bo_167_4, 0) := rfl
theorem bf_167_28 : z_fd bk_167 28 = some (false, [true, true, true, false, false], bo_167_28, 33) := rfl
theorem bf_167_29 : z_fd bk_167 29 = some (false, [true, true, true, false, false], bo_167_29, 33) := rfl
theorem bf_167_33 : z_fd bk_167 33 = some (true, [true, true, true, true, true], bo_167_33, 0) := rfl
theorem bf_167_60 : z_fd bk_167 60 = some (false, [true, true, true, false, true], bo_167_60, 0) := rfl
theorem bf_167_61 : z_fd bk_167 61 = some (false, [true, true, true, false, true], bo_167_61, 0) := rfl
theorem bf_167_68 : z_fd bk_167 68 = some (false, [true, true, true, true, false], bo_167_68, 0) := rfl
theorem bf_167_79 : z_fd bk_167 79 = some (false, [true, false, true, false, false], bo_167_79, 0) := rfl
theorem bf_167_80 : z_fd bk_167 80 = some (false, [true, false, true, false, false], bo_167_80, 0) := rfl
theorem bf_167_88 : z_fd bk_167 88 = some (false, [false, true, false, false, false], bo_167_88, 0) := rfl
theorem cl_167 : z_mL 167 = 5 := by decide +kernel
theorem cz_167 : plainFor (z_my 167) = true ∧ ((z_rm 167).cells = 0 ∧ (z_rm 167).slots = 0) := by decide +kernel
-- 168 Model_reachedBy
def bo_168_0 : List ZO := [(.aload_n 0, 0, 0, 0), (.iload_n 1, 1, 0, 0), (.putfield 92, 7, 23, 0), (.aload_n 0, 0, 0, 0), (.getfield 31, 7, 10, 2), (.aload_n 0, 0, 0, 0), (.getfield 34, 7, 11, 2), (.invokestatic 199, 102, 2, 0), (.aload_n 0, 0, 0, 0), (.bipush 20, 20, 0, 0), (.invokevirtual 259, 136, 2, 8), (.aload_n 0, 0, 0, 0), (.aload_n 0, 0, 0, 0), (.getfield 34, 7, 11, 2), (.invokevirtual 220, 138, 2, 8), (.invokestatic 251, 105, 1, 0), (.istore_n 2, 2, 0, 0), (.aload_n 0, 0, 0, 0), (.sipush 255, 255, 0, 0), (.putfield 92, 7, 23, 0), (.iload_n 2, 2, 0, 0), (.ireturn, 0, 0, 0)]
def bk_168 : List (Nat × ZE) := [(0, false, [true, true, false], bo_168_0, 0)]
theorem ck_168 : z_chks 168 bk_168 [[734, 721, 722, 989, 1036, 722, 897, 1004, 734]] = true := by decide +kernel
theorem bf_168_0 : z_fd bk_168 0 = some (false, [true, true, false], bo_168_0, 0) := rfl
theorem cl_168 : z_mL 168 = 3 := by decide +kernel
theorem cz_168 : plainFor (z_my 168) = true ∧ ((z_rm 168).cells = 0 ∧ (z_rm 168).slots = 0) := by decide +kernel
-- 169 Model_share
def bo_169_0 : List ZO := [(.aload_n 0, 0, 0, 0), (.iload_n 1, 1, 0, 0), (.invokevirtual 254, 110, 2, 8), (.ifCond .ne 5, 10, 0, 0), (.iconst (-1), 1, 0, 1), (.ireturn, 0, 0, 0)]
theorem cb_169_0 : z_chk 169 bo_169_0 0 0 [1019] = true := by decide +kernel
def bo_169_10 : List ZO := [(.aload_n 0, 0, 0, 0), (.iconst 0, 0, 0, 0), (.invokevirtual 216, 140, 2, 8), (.istore_n 3, 3, 0, 0), (.iload_n 3, 3, 0, 0), (.invokestatic 251, 105, 1, 0), (.istore 4, 4, 0, 0), (.iconst 0, 0, 0, 0), (.istore 5, 5, 0, 0)]
theorem cb_169_10 : z_chk 169 bo_169_10 10 25 [893, 1004] = true := by decide +kernel
def bo_169_25 : List ZO := [(.iload 5, 5, 0, 0), (.sipush 256, 256, 0, 0), (.if_icmp .ge 35, 65, 0, 0), (.aload_n 0, 0, 0, 0), (.getfield 62, 7, 25, 2), (.iload 5, 5, 0, 0), (.iload 5, 5, 0, 0), (.iload_n 3, 3, 0, 0), (.iconst (-1), 1, 0, 1), (.ixor, 0, 0, 0), (.iand, 0, 0, 0), (.ifCond .ne 12, 57, 0, 0), (.aload_n 0, 0, 0, 0), (.iload 5, 5, 0, 0), (.invokevirtual 281, 168, 2, 8), (.goto 4, 58, 0, 0)]
theorem cb_169_25 : z_chk 169 bo_169_25 25 0 [736, 1089] = true := by decide +kernel
def bo_169_57 : List ZO := [(.iconst 0, 0, 0, 0), (.iastore, 0, 0, 0), (.iinc 5 1, 1, 5, 0), (.goto (-37), 25, 0, 0)]
theorem cb_169_57 : z_chk 169 bo_169_57 57 0 [] = true := by decide +kernel
def bo_169_58 : List ZO := [(.iastore, 0, 0, 0), (.iinc 5 1, 1, 5, 0), (.goto (-37), 25, 0, 0)]
theorem cb_169_58 : z_chk 169 bo_169_58 58 0 [] = true := by decide +kernel
def bo_169_65 : List ZO := [(.iconst 0, 0, 0, 0), (.istore 5, 5, 0, 0), (.iconst 0, 0, 0, 0), (.istore 6, 6, 0, 0)]
theorem cb_169_65 : z_chk 169 bo_169_65 65 71 [] = true := by decide +kernel
def bo_169_71 : List ZO := [(.iload 6, 6, 0, 0), (.sipush 256, 256, 0, 0), (.if_icmp .ge 75, 151, 0, 0), (.iload 6, 6, 0, 0), (.iload_n 3, 3, 0, 0), (.iconst (-1), 1, 0, 1), (.ixor, 0, 0, 0), (.iand, 0, 0, 0), (.ifCond .ne 60, 145, 0, 0), (.iload 6, 6, 0, 0), (.iload_n 1, 1, 0, 0), (.invokestatic 168, 104, 2, 0), (.ifCond .ne 51, 145, 0, 0), (.iload 6, 6, 0, 0), (.invokestatic 251, 105, 1, 0), (.istore 7, 7, 0, 0), (.iload 5, 5, 0, 0), (.iload 7, 7, 0, 0), (.invokestatic 284, 107, 1, 0), (.iload 4, 4, 0, 0), (.iconst 1, 1, 0, 0), (.isub, 0, 0, 0), (.iload 7, 7, 0, 0), (.isub, 0, 0, 0), (.invokestatic 284, 107, 1, 0), (.imul, 0, 0, 0), (.aload_n 0, 0, 0, 0), (.getfield 62, 7, 25, 2), (.iload 6, 6, 0, 0), (.iconst 1, 1, 0, 0), (.iload_n 1, 1, 0, 0), (.ishl, 0, 0, 0), (.ior, 0, 0, 0), (.iaload, 0, 0, 0), (.aload_n 0, 0, 0, 0), (.getfield 62, 7, 25, 2), (.iload 6, 6, 0, 0), (.iaload, 0, 0, 0), (.isub, 0, 0, 0), (.imul, 0, 0, 0), (.iadd, 0, 0, 0), (.istore 5, 5, 0, 0), (.iinc 6 1, 1, 6, 0), (.goto (-77), 71, 0, 0)]
theorem cb_169_71 : z_chk 169 bo_169_71 71 0 [905, 1004, 1093, 1093, 736, 736] = true := by decide +kernel
def bo_169_145 : List ZO := [(.iinc 6 1, 1, 6, 0), (.goto (-77), 71, 0, 0)]
theorem cb_169_145 : z_chk 169 bo_169_145 145 0 [] = true := by decide +kernel
def bo_169_151 : List ZO := [(.iload 5, 5, 0, 0), (.i2l, 0, 0, 0), (.iload 4, 4, 0, 0), (.invokestatic 284, 107, 1, 0), (.i2l, 0, 0, 0), (.iload_n 2, 2, 0, 0), (.invokestatic 287, 108, 3, 0), (.ireturn, 0, 0, 0)]
theorem cb_169_151 : z_chk 169 bo_169_151 151 0 [1093, 1096] = true := by decide +kernel
def bk_169 : List (Nat × ZE) := [(0, false, [true, true, true, false, false, false, false, false], bo_169_0, 0), (10, false, [true, true, true, false, false, false, false, false], bo_169_10, 25), (25, true, [true, true, true, true, true, true, false, false], bo_169_25, 0), (57, false, [true, true, true, true, true, true, false, false], bo_169_57, 0), (58, false, [true, true, true, true, true, true, false, false], bo_169_58, 0), (65, false, [true, true, true, true, true, false, false, false], bo_169_65, 71), (71, true, [true, true, true, true, true, true, true, false], bo_169_71, 0), (145, false, [true, true, true, true, true, true, true, false], bo_169_145, 0), (151, false, [false, false, true, false, true, true, false, false], bo_169_151, 0)]
theorem ck_169 : z_chks 169 bk_169 [[1019], [893, 1004], [736, 1089], [], [], [], [905, 1004, 1093, 1093, 736, 736], [], [1093, 1096]] = true := z_chks_cons cb_169_0 (z_chks_cons cb_169_10 (z_chks_cons cb_169_25 (z_chks_cons cb_169_57 (z_chks_cons cb_169_58 (z_chks_cons cb_169_65 (z_chks_cons cb_169_71 (z_chks_cons cb_169_145 (z_chks_cons cb_169_151 (z_chks_nil)))))))))
theorem bf_169_0 : z_fd bk_169 0 = some (false, [true, true, true, false, false, false, false, false], bo_169_0, 0) := rfl
theorem bf_169_10 : z_fd bk_169 10 = some (false, [true, true, true, false, false, false, false, false], bo_169_10, 25) := rfl
theorem bf_169_25 : z_fd bk_169 25 = some (true, [true, true, true, true, true, true, false, false], bo_169_25, 0) := rfl
theorem bf_169_57 : z_fd bk_169 57 = some (false, [true, true, true, true, true, true, false, false], bo_169_57, 0) := rfl
theorem bf_169_58 : z_fd bk_169 58 = some (false, [true, true, true, true, true, true, false, false], bo_169_58, 0) := rfl
theorem bf_169_65 : z_fd bk_169 65 = some (false, [true, true, true, true, true, false, false, false], bo_169_65, 71) := rfl
theorem bf_169_71 : z_fd bk_169 71 = some (true, [true, true, true, true, true, true, true, false], bo_169_71, 0) := rfl
theorem bf_169_145 : z_fd bk_169 145 = some (false, [true, true, true, true, true, true, true, false], bo_169_145, 0) := rfl
theorem bf_169_151 : z_fd bk_169 151 = some (false, [false, false, true, false, true, true, false, false], bo_169_151, 0) := rfl
theorem cl_169 : z_mL 169 = 8 := by decide +kernel
theorem cz_169 : plainFor (z_my 169) = true ∧ ((z_rm 169).cells = 0 ∧ (z_rm 169).slots = 0) := by decide +kernel
-- 170 Model_chance
def bo_170_0 : List ZO := [(.iload_n 1, 1, 0, 0), (.i2l, 0, 0, 0), (.lconst 0, 0, 0, 0), (.ldc2_w 291, 10, 0, 0), (.invokestatic 102, 103, 3, 0), (.ifCond .ne 6, 15, 0, 0), (.bipush (-2), 2, 0, 1), (.ireturn, 0, 0, 0)]
theorem cb_170_0 : z_chk 170 bo_170_0 0 0 [1103, 837] = true := by decide +kernel
def bo_170_15 : List ZO := [(.iconst 1, 1, 0, 0), (.aload_n 0, 0, 0, 0), (.getfield 110, 7, 6, 0), (.ishl, 0, 0, 0), (.iconst 1, 1, 0, 0), (.isub, 0, 0, 0), (.aload_n 0, 0, 0, 0), (.invokevirtual 224, 141, 1, 8), (.iconst (-1), 1, 0, 1), (.ixor, 0, 0, 0), (.iand, 0, 0, 0), (.istore_n 3, 3, 0, 0), (.iload_n 3, 3, 0, 0), (.invokestatic 251, 105, 1, 0), (.istore 4, 4, 0, 0), (.lconst 0, 0, 0, 0), (.lstore 5, 5, 0, 0), (.iconst 0, 0, 0, 0), (.istore 7, 7, 0, 0)]
theorem cb_170_15 : z_chk 170 bo_170_15 15 43 [717, 908, 1004] = true := by decide +kernel
def bo_170_43 : List ZO := [(.iload 7, 7, 0, 0), (.iconst 1, 1, 0, 0), (.aload_n 0, 0, 0, 0), (.getfield 110, 7, 6, 0), (.ishl, 0, 0, 0), (.if_icmp .ge 153, 204, 0, 0), (.iload 7, 7, 0, 0), (.iload_n 3, 3, 0, 0), (.iconst (-1), 1, 0, 1), (.ixor, 0, 0, 0), (.iand, 0, 0, 0), (.ifCond .ne 138, 198, 0, 0), (.aload_n 0, 0, 0, 0), (.getfield 31, 7, 10, 2), (.aload_n 0, 0, 0, 0), (.getfield 34, 7, 11, 2), (.invokestatic 199, 102, 2, 0), (.iconst 0, 0, 0, 0), (.istore 8, 8, 0, 0)]
theorem cb_170_43 : z_chk 170 bo_170_43 43 77 [717, 721, 722, 989] = true := by decide +kernel
def bo_170_77 : List ZO := [(.iload 8, 8, 0, 0), (.aload_n 0, 0, 0, 0), (.getfield 110, 7, 6, 0), (.if_icmp .ge 43, 126, 0, 0), (.aload_n 0, 0, 0, 0), (.getfield 34, 7, 11, 2), (.bipush 58, 58, 0, 0), (.iload 8, 8, 0, 0), (.iadd, 0, 0, 0), (.iload 7, 7, 0, 0), (.iload 8, 8, 0, 0), (.invokestatic 168, 104, 2, 0), (.ifCond .eq 7, 109, 0, 0), (.iconst 1, 1, 0, 0), (.goto 13, 119, 0, 0)]
theorem cb_170_77 : z_chk 170 bo_170_77 77 0 [717, 722, 905] = true := by decide +kernel
def bo_170_109 : List ZO := [(.aload_n 0, 0, 0, 0), (.getfield 34, 7, 11, 2), (.bipush 58, 58, 0, 0), (.iload 8, 8, 0, 0), (.iadd, 0, 0, 0), (.iaload, 0, 0, 0), (.iastore, 0, 0, 0), (.iinc 8 1, 1, 8, 0), (.goto (-46), 77, 0, 0)]
theorem cb_170_109 : z_chk 170 bo_170_109 109 0 [722] = true := by decide +kernel
def bo_170_119 : List ZO := [(.iastore, 0, 0, 0), (.iinc 8 1, 1, 8, 0), (.goto (-46), 77, 0, 0)]
theorem cb_170_119 : z_chk 170 bo_170_119 119 0 [] = true := by decide +kernel
def bo_170_126 : List ZO := [(.aload_n 0, 0, 0, 0), (.bipush 20, 20, 0, 0), (.invokevirtual 259, 136, 2, 8), (.aload_n 0, 0, 0, 0), (.aload_n 0, 0, 0, 0), (.getfield 34, 7, 11, 2), (.invokevirtual 220, 138, 2, 8), (.invokestatic 251, 105, 1, 0), (.aload_n 0, 0, 0, 0), (.getfield 99, 7, 2, 0), (.if_icmp .ne 7, 154, 0, 0), (.iconst 1, 1, 0, 0), (.goto 4, 155, 0, 0)]
theorem cb_170_126 : z_chk 170 bo_170_126 126 0 [1036, 722, 897, 1004, 713] = true := by decide +kernel
def bo_170_154 : List ZO := [(.iconst 0, 0, 0, 0), (.istore 8, 8, 0, 0), (.lload 5, 5, 0, 0), (.iload 8, 8, 0, 0), (.ifCond .eq 33, 194, 0, 0), (.iload_n 1, 1, 0, 0), (.iload 7, 7, 0, 0), (.invokestatic 251, 105, 1, 0), (.invokestatic 293, 106, 2, 0), (.i2l, 0, 0, 0), (.bipush 10, 10, 0, 0), (.iload_n 1, 1, 0, 0), (.isub, 0, 0, 0), (.iload 4, 4, 0, 0), (.iload 7, 7, 0, 0), (.invokestatic 251, 105, 1, 0), (.isub, 0, 0, 0), (.invokestatic 293, 106, 2, 0), (.i2l, 0, 0, 0), (.lmul, 0, 0, 0), (.goto 4, 195, 0, 0)]
theorem cb_170_154 : z_chk 170 bo_170_154 154 0 [1004, 1104, 1004, 1104] = true := by decide +kernel
def bo_170_155 : List ZO := [(.istore 8, 8, 0, 0), (.lload 5, 5, 0, 0), (.iload 8, 8, 0, 0), (.ifCond .eq 33, 194, 0, 0), (.iload_n 1, 1, 0, 0), (.iload 7, 7, 0, 0), (.invokestatic 251, 105, 1, 0), (.invokestatic 293, 106, 2, 0), (.i2l, 0, 0, 0), (.bipush 10, 10, 0, 0), (.iload_n 1, 1, 0, 0), (.isub, 0, 0, 0), (.iload 4, 4, 0, 0), (.iload 7, 7, 0, 0), (.invokestatic 251, 105, 1, 0), (.isub, 0, 0, 0), (.invokestatic 293, 106, 2, 0), (.i2l, 0, 0, 0), (.lmul, 0, 0, 0), (.goto 4, 195, 0, 0)]
theorem cb_170_155 : z_chk 170 bo_170_155 155 0 [1004, 1104, 1004, 1104] = true := by decide +kernel
def bo_170_194 : List ZO := [(.lconst 0, 0, 0, 0), (.ladd, 0, 0, 0), (.lstore 5, 5, 0, 0), (.iinc 7 1, 1, 7, 0), (.goto (-158), 43, 0, 0)]
theorem cb_170_194 : z_chk 170 bo_170_194 194 0 [] = true := by decide +kernel
def bo_170_195 : List ZO := [(.ladd, 0, 0, 0), (.lstore 5, 5, 0, 0), (.iinc 7 1, 1, 7, 0), (.goto (-158), 43, 0, 0)]
theorem cb_170_195 : z_chk 170 bo_170_195 195 0 [] = true := by decide +kernel
def bo_170_198 : List ZO := [(.iinc 7 1, 1, 7, 0), (.goto (-158), 43, 0, 0)]
theorem cb_170_198 : z_chk 170 bo_170_198 198 0 [] = true := by decide +kernel
def bo_170_204 : List ZO := [(.lload 5, 5, 0, 0), (.bipush 10, 10, 0, 0), (.iload 4, 4, 0, 0), (.invokestatic 293, 106, 2, 0), (.i2l, 0, 0, 0), (.iload_n 2, 2, 0, 0), (.invokestatic 287, 108, 3, 0), (.ireturn, 0, 0, 0)]
theorem cb_170_204 : z_chk 170 bo_170_204 204 0 [1104, 1096] = true := by decide +kernel
def bk_170 : List (Nat × ZE) := [(0, false, [true, true, true, false, false, false, false, false, false], bo_170_0, 0), (15, false, [true, true, true, false, false, false, false, false, false], bo_170_15, 43), (43, true, [true, true, true, true, true, true, false, true, false], bo_170_43, 77), (77, true, [true, true, true, true, true, true, false, true, true], bo_170_77, 0), (109, false, [true, true, true, true, true, true, false, true, true], bo_170_109, 0), (119, false, [true, true, true, true, true, true, false, true, true], bo_170_119, 0), (126, false, [true, true, true, true, true, true, false, true, false], bo_170_126, 0), (154, false, [true, true, true, true, true, true, false, true, false], bo_170_154, 0), (155, false, [true, true, true, true, true, true, false, true, false], bo_170_155, 0), (194, false, [true, true, true, true, true, false, false, true, false], bo_170_194, 0), (195, false, [true, true, true, true, true, false, false, true, false], bo_170_195, 0), (198, false, [true, true, true, true, true, true, false, true, false], bo_170_198, 0), (204, false, [false, false, true, false, true, true, false, false, false], bo_170_204, 0)]
theorem ck_170 : z_chks 170 bk_170 [[1103, 837], [717, 908, 1004], [717, 721, 722, 989], [717, 722, 905], [722], [], [1036, 722, 897, 1004, 713], [1004, 1104, 1004, 1104], [1004, 1104, 1004, 1104], [], [], [], [1104, 1096]] = true := z_chks_cons cb_170_0 (z_chks_cons cb_170_15 (z_chks_cons cb_170_43 (z_chks_cons cb_170_77 (z_chks_cons cb_170_109 (z_chks_cons cb_170_119 (z_chks_cons cb_170_126 (z_chks_cons cb_170_154 (z_chks_cons cb_170_155 (z_chks_cons cb_170_194 (z_chks_cons cb_170_195 (z_chks_cons cb_170_198 (z_chks_cons cb_170_204 (z_chks_nil)))))))))))))
theorem bf_170_0 : z_fd bk_170 0 = some (false, [true, true, true, false, false, false, false, false, false], bo_170_0, 0) := rfl
theorem bf_170_15 : z_fd bk_170 15 = some (false, [true, true, true, false, false, false, false, false, false], bo_170_15, 43) := rfl
theorem bf_170_43 : z_fd bk_170 43 = some (true, [true, true, true, true, true, true, false, true, false], bo_170_43, 77) := rfl
theorem bf_170_77 : z_fd bk_170 77 = some (true, [true, true, true, true, true, true, false, true, true], bo_170_77, 0) := rfl
theorem bf_170_109 : z_fd bk_170 109 = some (false, [true, true, true, true, true, true, false, true, true], bo_170_109, 0) := rfl
theorem bf_170_119 : z_fd bk_170 119 = some (false, [true, true, true, true, true, true, false, true, true], bo_170_119, 0) := rfl
theorem bf_170_126 : z_fd bk_170 126 = some (false, [true, true, true, true, true, true, false, true, false], bo_170_126, 0) := rfl
theorem bf_170_154 : z_fd bk_170 154 = some (false, [true, true, true, true, true, true, false, true, false], bo_170_154, 0) := rfl
theorem bf_170_155 : z_fd bk_170 155 = some (false, [true, true, true, true, true, true, false, true, false], bo_170_155, 0) := rfl
theorem bf_170_194 : z_fd bk_170 194 = some (false, [true, true, true, true, true, false, false, true, false], bo_170_194, 0) := rfl
theorem bf_170_195 : z_fd bk_170 195 = some (false, [true, true, true, true, true, false, false, true, false], bo_170_195, 0) := rfl
theorem bf_170_198 : z_fd bk_170 198 = some (false, [true, true, true, true, true, true, false, true, false], bo_170_198, 0) := rfl
theorem bf_170_204 : z_fd bk_170 204 = some (false, [false, false, true, false, true, true, false, false, false], bo_170_204, 0) := rfl
theorem cl_170 : z_mL 170 = 9 := by decide +kernel
theorem cz_170 : plainFor (z_my 170) = true ∧ ((z_rm 170).cells = 0 ∧ (z_rm 170).slots = 0) := by decide +kernel
-- 171 Model_seed
def bo_171_0 : List ZO := [(.aload_n 0, 0, 0, 0), (.getfield 296, 7, 22, 1), (.lstore_n 3, 3, 0, 0), (.aload_n 0, 0, 0, 0), (.lload_n 1, 1, 0, 0), (.putfield 296, 7, 22, 1), (.lload_n 3, 3, 0, 0), (.lreturn, 0, 0, 0)]
def bk_171 : List (Nat × ZE) := [(0, false, [true, true, false, false, false], bo_171_0, 0)]
theorem ck_171 : z_chks 171 bk_171 [[733, 733]] = true := by decide +kernel
theorem bf_171_0 : z_fd bk_171 0 = some (false, [true, true, false, false, false], bo_171_0, 0) := rfl
theorem cl_171 : z_mL 171 = 5 := by decide +kernel
theorem cz_171 : plainFor (z_my 171) = true ∧ ((z_rm 171).cells = 0 ∧ (z_rm 171).slots = 0) := by decide +kernel
-- 172 Model_drawn
def bo_172_0 : List ZO := [(.iload_n 1, 1, 0, 0), (.i2l, 0, 0, 0), (.lconst 1, 1, 0, 0), (.ldc2_w 276, 20, 0, 0), (.invokestatic 102, 103, 3, 0), (.ifCond .ne 6, 15, 0, 0), (.bipush (-2), 2, 0, 1), (.ireturn, 0, 0, 0)]
theorem cb_172_0 : z_chk 172 bo_172_0 0 0 [1072, 837] = true := by decide +kernel
def bo_172_15 : List ZO := [(.aload_n 0, 0, 0, 0), (.getfield 31, 7, 10, 2), (.aload_n 0, 0, 0, 0), (.getfield 34, 7, 11, 2), (.invokestatic 199, 102, 2, 0), (.iconst 0, 0, 0, 0), (.istore_n 2, 2, 0, 0), (.iconst 0, 0, 0, 0), (.istore_n 3, 3, 0, 0)]
theorem cb_172_15 : z_chk 172 bo_172_15 15 30 [721, 722, 989] = true := by decide +kernel
def bo_172_30 : List ZO := [(.iload_n 3, 3, 0, 0), (.iload_n 1, 1, 0, 0), (.if_icmp .ge 123, 155, 0, 0), (.aload_n 0, 0, 0, 0), (.aload_n 0, 0, 0, 0), (.getfield 296, 7, 22, 1), (.ldc2_w 300, 6364136223846793005, 0, 0), (.lmul, 0, 0, 0), (.ldc2_w 302, 1442695040888963407, 0, 0), (.ladd, 0, 0, 0), (.putfield 296, 7, 22, 1), (.aload_n 0, 0, 0, 0), (.getfield 296, 7, 22, 1), (.bipush 33, 33, 0, 0), (.lushr, 0, 0, 0), (.l2i, 0, 0, 0), (.istore 4, 4, 0, 0), (.aload_n 0, 0, 0, 0), (.getfield 110, 7, 6, 0), (.ifCond .le 84, 149, 0, 0), (.iload 4, 4, 0, 0), (.aload_n 0, 0, 0, 0), (.getfield 110, 7, 6, 0), (.irem, 0, 0, 0), (.istore 5, 5, 0, 0), (.aload_n 0, 0, 0, 0), (.getfield 34, 7, 11, 2), (.bipush 58, 58, 0, 0), (.iload 5, 5, 0, 0), (.iadd, 0, 0, 0), (.iload 4, 4, 0, 0), (.bipush 16, 16, 0, 0), (.idiv, 0, 0, 0), (.iconst 2, 2, 0, 0), (.irem, 0, 0, 0), (.ifCond .ne 18, 111, 0, 0), (.iconst 1, 1, 0, 0), (.aload_n 0, 0, 0, 0), (.getfield 34, 7, 11, 2), (.bipush 58, 58, 0, 0), (.iload 5, 5, 0, 0), (.iadd, 0, 0, 0), (.iaload, 0, 0, 0), (.isub, 0, 0, 0), (.goto 13, 121, 0, 0)]
theorem cb_172_30 : z_chk 172 bo_172_30 30 0 [733, 1115, 1116, 733, 733, 717, 717, 722, 722] = true := by decide +kernel
def bo_172_111 : List ZO := [(.aload_n 0, 0, 0, 0), (.getfield 34, 7, 11, 2), (.bipush 58, 58, 0, 0), (.iload 5, 5, 0, 0), (.iadd, 0, 0, 0), (.iaload, 0, 0, 0), (.iastore, 0, 0, 0), (.aload_n 0, 0, 0, 0), (.aload_n 0, 0, 0, 0), (.getfield 34, 7, 11, 2), (.invokevirtual 209, 135, 2, 8), (.iload_n 2, 2, 0, 0), (.aload_n 0, 0, 0, 0), (.getfield 99, 7, 2, 0), (.aload_n 0, 0, 0, 0), (.aload_n 0, 0, 0, 0), (.getfield 34, 7, 11, 2), (.invokevirtual 220, 138, 2, 8), (.invokestatic 251, 105, 1, 0), (.isub, 0, 0, 0), (.iadd, 0, 0, 0), (.istore_n 2, 2, 0, 0), (.iinc 3 1, 1, 3, 0), (.goto (-122), 30, 0, 0)]
theorem cb_172_111 : z_chk 172 bo_172_111 111 0 [722, 722, 985, 713, 722, 897, 1004] = true := by decide +kernel
def bo_172_121 : List ZO := [(.iastore, 0, 0, 0), (.aload_n 0, 0, 0, 0), (.aload_n 0, 0, 0, 0), (.getfield 34, 7, 11, 2), (.invokevirtual 209, 135, 2, 8), (.iload_n 2, 2, 0, 0), (.aload_n 0, 0, 0, 0), (.getfield 99, 7, 2, 0), (.aload_n 0, 0, 0, 0), (.aload_n 0, 0, 0, 0), (.getfield 34, 7, 11, 2), (.invokevirtual 220, 138, 2, 8), (.invokestatic 251, 105, 1, 0), (.isub, 0, 0, 0), (.iadd, 0, 0, 0), (.istore_n 2, 2, 0, 0), (.iinc 3 1, 1, 3, 0), (.goto (-122), 30, 0, 0)]
theorem cb_172_121 : z_chk 172 bo_172_121 121 0 [722, 985, 713, 722, 897, 1004] = true := by decide +kernel
def bo_172_149 : List ZO := [(.iinc 3 1, 1, 3, 0), (.goto (-122), 30, 0, 0)]
theorem cb_172_149 : z_chk 172 bo_172_149 149 0 [] = true := by decide +kernel
def bo_172_155 : List ZO := [(.iload_n 2, 2, 0, 0), (.ireturn, 0, 0, 0)]
theorem cb_172_155 : z_chk 172 bo_172_155 155 0 [] = true := by decide +kernel
def bk_172 : List (Nat × ZE) := [(0, false, [true, true, false, false, false, false], bo_172_0, 0), (15, false, [true, true, false, false, false, false], bo_172_15, 30), (30, true, [true, true, true, true, false, false], bo_172_30, 0), (111, false, [true, true, true, true, false, true], bo_172_111, 0), (121, false, [true, true, true, true, false, false], bo_172_121, 0), (149, false, [true, true, true, true, false, false], bo_172_149, 0), (155, false, [false, false, true, false, false, false], bo_172_155, 0)]
theorem ck_172 : z_chks 172 bk_172 [[1072, 837], [721, 722, 989], [733, 1115, 1116, 733, 733, 717, 717, 722, 722], [722, 722, 985, 713, 722, 897, 1004], [722, 985, 713, 722, 897, 1004], [], []] = true := z_chks_cons cb_172_0 (z_chks_cons cb_172_15 (z_chks_cons cb_172_30 (z_chks_cons cb_172_111 (z_chks_cons cb_172_121 (z_chks_cons cb_172_149 (z_chks_cons cb_172_155 (z_chks_nil)))))))
theorem bf_172_0 : z_fd bk_172 0 = some (false, [true, true, false, false, false, false], bo_172_0, 0) := rfl
theorem bf_172_15 : z_fd bk_172 15 = some (false, [true, true, false, false, false, false], bo_172_15, 30) := rfl
theorem bf_172_30 : z_fd bk_172 30 = some (true, [true, true, true, true, false, false], bo_172_30, 0) := rfl
theorem bf_172_111 : z_fd bk_172 111 = some (false, [true, true, true, true, false, true], bo_172_111, 0) := rfl
theorem bf_172_121 : z_fd bk_172 121 = some (false, [true, true, true, true, false, false], bo_172_121, 0) := rfl
theorem bf_172_149 : z_fd bk_172 149 = some (false, [true, true, true, true, false, false], bo_172_149, 0) := rfl
theorem bf_172_155 : z_fd bk_172 155 = some (false, [false, false, true, false, false, false], bo_172_155, 0) := rfl
theorem cl_172 : z_mL 172 = 6 := by decide +kernel
theorem cz_172 : plainFor (z_my 172) = true ∧ ((z_rm 172).cells = 0 ∧ (z_rm 172).slots = 0) := by decide +kernel
-- 173 Model_keep
def bo_173_0 : List ZO := [(.iload_n 1, 1, 0, 0), (.i2l, 0, 0, 0), (.lconst 0, 0, 0, 0), (.lconst 1, 1, 0, 0), (.invokestatic 102, 103, 3, 0), (.ifCond .ne 5, 12, 0, 0), (.iconst (-1), 1, 0, 1), (.ireturn, 0, 0, 0)]
def bo_173_12 : List ZO := [(.aload_n 0, 0, 0, 0), (.getfield 46, 7, 17, 2), (.iload_n 1, 1, 0, 0), (.iconst 1, 1, 0, 0), (.bastore, 0, 0, 0), (.iconst 0, 0, 0, 0), (.istore_n 2, 2, 0, 0)]
def bo_173_21 : List ZO := [(.iload_n 2, 2, 0, 0), (.bipush 78, 78, 0, 0), (.if_icmp .ge 26, 50, 0, 0), (.aload_n 0, 0, 0, 0), (.getfield 43, 7, 16, 2), (.bipush 78, 78, 0, 0), (.iload_n 1, 1, 0, 0), (.imul, 0, 0, 0), (.iload_n 2, 2, 0, 0), (.iadd, 0, 0, 0), (.aload_n 0, 0, 0, 0), (.getfield 31, 7, 10, 2), (.iload_n 2, 2, 0, 0), (.iaload, 0, 0, 0), (.iastore, 0, 0, 0), (.iinc 2 1, 1, 2, 0), (.goto (-26), 21, 0, 0)]
def bo_173_50 : List ZO := [(.aload_n 0, 0, 0, 0), (.getfield 31, 7, 10, 2), (.bipush 77, 77, 0, 0), (.iaload, 0, 0, 0), (.ireturn, 0, 0, 0)]
def bk_173 : List (Nat × ZE) := [(0, false, [true, true, false], bo_173_0, 0), (12, false, [true, true, false], bo_173_12, 21), (21, true, [true, true, true], bo_173_21, 0), (50, false, [true, false, false], bo_173_50, 0)]
theorem ck_173 : z_chks 173 bk_173 [[837], [728], [727, 721], [721]] = true := by decide +kernel
theorem bf_173_0 : z_fd bk_173 0 = some (false, [true, true, false], bo_173_0, 0) := rfl
theorem bf_173_12 : z_fd bk_173 12 = some (false, [true, true, false], bo_173_12, 21) := rfl
theorem bf_173_21 : z_fd bk_173 21 = some (true, [true, true, true], bo_173_21, 0) := rfl
theorem bf_173_50 : z_fd bk_173 50 = some (false, [true, false, false], bo_173_50, 0) := rfl
theorem cl_173 : z_mL 173 = 3 := by decide +kernel
theorem cz_173 : plainFor (z_my 173) = true ∧ ((z_rm 173).cells = 0 ∧ (z_rm 173).slots = 0) := by decide +kernel
-- 174 Model_again
def bo_174_0 : List ZO := [(.iload_n 1, 1, 0, 0), (.i2l, 0, 0, 0), (.lconst 0, 0, 0, 0), (.lconst 1, 1, 0, 0), (.invokestatic 102, 103, 3, 0), (.ifCond .ne 5, 12, 0, 0), (.iconst (-1), 1, 0, 1), (.ireturn, 0, 0, 0)]
def bo_174_12 : List ZO := [(.aload_n 0, 0, 0, 0), (.getfield 46, 7, 17, 2), (.iload_n 1, 1, 0, 0), (.baload, 0, 0, 0), (.ifCond .ne 6, 24, 0, 0), (.bipush (-3), 3, 0, 1), (.ireturn, 0, 0, 0)]
def bo_174_24 : List ZO := [(.iconst 0, 0, 0, 0), (.istore_n 2, 2, 0, 0)]
def bo_174_26 : List ZO := [(.iload_n 2, 2, 0, 0), (.bipush 78, 78, 0, 0), (.if_icmp .ge 26, 55, 0, 0), (.aload_n 0, 0, 0, 0), (.getfield 31, 7, 10, 2), (.iload_n 2, 2, 0, 0), (.aload_n 0, 0, 0, 0), (.getfield 43, 7, 16, 2), (.bipush 78, 78, 0, 0), (.iload_n 1, 1, 0, 0), (.imul, 0, 0, 0), (.iload_n 2, 2, 0, 0), (.iadd, 0, 0, 0), (.iaload, 0, 0, 0), (.iastore, 0, 0, 0), (.iinc 2 1, 1, 2, 0), (.goto (-26), 26, 0, 0)]
def bo_174_55 : List ZO := [(.aload_n 0, 0, 0, 0), (.iconst 0, 0, 0, 0), (.putfield 165, 7, 14, 0), (.aload_n 0, 0, 0, 0), (.getfield 31, 7, 10, 2), (.bipush 77, 77, 0, 0), (.iaload, 0, 0, 0), (.ireturn, 0, 0, 0)]
def bk_174 : List (Nat × ZE) := [(0, false, [true, true, false], bo_174_0, 0), (12, false, [true, true, false], bo_174_12, 0), (24, false, [true, true, false], bo_174_24, 26), (26, true, [true, true, true], bo_174_26, 0), (55, false, [true, false, false], bo_174_55, 0)]
theorem ck_174 : z_chks 174 bk_174 [[837], [728], [], [721, 727], [725, 721]] = true := by decide +kernel
theorem bf_174_0 : z_fd bk_174 0 = some (false, [true, true, false], bo_174_0, 0) := rfl
theorem bf_174_12 : z_fd bk_174 12 = some (false, [true, true, false], bo_174_12, 0) := rfl
theorem bf_174_24 : z_fd bk_174 24 = some (false, [true, true, false], bo_174_24, 26) := rfl
theorem bf_174_26 : z_fd bk_174 26 = some (true, [true, true, true], bo_174_26, 0) := rfl
theorem bf_174_55 : z_fd bk_174 55 = some (false, [true, false, false], bo_174_55, 0) := rfl
theorem cl_174 : z_mL 174 = 3 := by decide +kernel
theorem cz_174 : plainFor (z_my 174) = true ∧ ((z_rm 174).cells = 0 ∧ (z_rm 174).slots = 0) := by decide +kernel
end
section
/-! the code of the methods in blocks (written by wip/whole/gen08.py): (instruction, what it means) *, checked against the bytes -/
-- 175 Integer_bitCount
def bo_175_0 : List ZO := [(.iload_n 0, 0, 0, 0), (.iload_n 0, 0, 0, 0), (.iconst 1, 1, 0, 0), (.iushr, 0, 0, 0), (.ldc_w 265, 1431655765, 0, 0), (.iand, 0, 0, 0), (.isub, 0, 0, 0), (.istore_n 0, 0, 0, 0), (.iload_n 0, 0, 0, 0), (.ldc_w 266, 858993459, 0, 0), (.iand, 0, 0, 0), (.iload_n 0, 0, 0, 0), (.iconst 2, 2, 0, 0), (.iushr, 0, 0, 0), (.ldc_w 266, 858993459, 0, 0), (.iand, 0, 0, 0), (.iadd, 0, 0, 0), (.istore_n 0, 0, 0, 0), (.iload_n 0, 0, 0, 0), (.iload_n 0, 0, 0, 0), (.iconst 4, 4, 0, 0), (.iushr, 0, 0, 0), (.iadd, 0, 0, 0), (.ldc_w 267, 252645135, 0, 0), (.iand, 0, 0, 0), (.istore_n 0, 0, 0, 0), (.iload_n 0, 0, 0, 0), (.iload_n 0, 0, 0, 0), (.bipush 8, 8, 0, 0), (.iushr, 0, 0, 0), (.iadd, 0, 0, 0), (.istore_n 0, 0, 0, 0), (.iload_n 0, 0, 0, 0), (.iload_n 0, 0, 0, 0), (.bipush 16, 16, 0, 0), (.iushr, 0, 0, 0), (.iadd, 0, 0, 0), (.istore_n 0, 0, 0, 0), (.iload_n 0, 0, 0, 0), (.bipush 63, 63, 0, 0), (.iand, 0, 0, 0), (.ireturn, 0, 0, 0)]
def bk_175 : List (Nat × ZE) := [(0, false, [true], bo_175_0, 0)]
theorem ck_175 : z_chks 175 bk_175 [[538, 539, 539, 540]] = true := by decide +kernel
theorem bf_175_0 : z_fd bk_175 0 = some (false, [true], bo_175_0, 0) := rfl
theorem cl_175 : z_mL 175 = 1 := by decide +kernel
theorem cz_175 : plainFor (z_my 175) = true ∧ ((z_rm 175).cells = 0 ∧ (z_rm 175).slots = 0) := by decide +kernel
-- 176 Math_abs
def bo_176_0 : List ZO := [(.lload_n 0, 0, 0, 0), (.lconst 0, 0, 0, 0), (.lcmp, 0, 0, 0), (.ifCond .ge 8, 11, 0, 0), (.lload_n 0, 0, 0, 0), (.lneg, 0, 0, 0), (.goto 4, 12, 0, 0)]
def bo_176_11 : List ZO := [(.lload_n 0, 0, 0, 0), (.lreturn, 0, 0, 0)]
def bo_176_12 : List ZO := [(.lreturn, 0, 0, 0)]
def bk_176 : List (Nat × ZE) := [(0, false, [true, false], bo_176_0, 0), (11, false, [true, false], bo_176_11, 0), (12, false, [false, false], bo_176_12, 0)]
theorem ck_176 : z_chks 176 bk_176 [[], [], []] = true := by decide +kernel
theorem bf_176_0 : z_fd bk_176 0 = some (false, [true, false], bo_176_0, 0) := rfl
theorem bf_176_11 : z_fd bk_176 11 = some (false, [true, false], bo_176_11, 0) := rfl
theorem bf_176_12 : z_fd bk_176 12 = some (false, [false, false], bo_176_12, 0) := rfl
theorem cl_176 : z_mL 176 = 2 := by decide +kernel
theorem cz_176 : plainFor (z_my 176) = true ∧ ((z_rm 176).cells = 0 ∧ (z_rm 176).slots = 0) := by decide +kernel
-- 177 Math_max
def bo_177_0 : List ZO := [(.iload_n 0, 0, 0, 0), (.iload_n 1, 1, 0, 0), (.if_icmp .lt 7, 9, 0, 0), (.iload_n 0, 0, 0, 0), (.goto 4, 10, 0, 0)]
def bo_177_9 : List ZO := [(.iload_n 1, 1, 0, 0), (.ireturn, 0, 0, 0)]
def bo_177_10 : List ZO := [(.ireturn, 0, 0, 0)]
def bk_177 : List (Nat × ZE) := [(0, false, [true, true], bo_177_0, 0), (9, false, [false, true], bo_177_9, 0), (10, false, [false, false], bo_177_10, 0)]
theorem ck_177 : z_chks 177 bk_177 [[], [], []] = true := by decide +kernel
theorem bf_177_0 : z_fd bk_177 0 = some (false, [true, true], bo_177_0, 0) := rfl
theorem bf_177_9 : z_fd bk_177 9 = some (false, [false, true], bo_177_9, 0) := rfl
theorem bf_177_10 : z_fd bk_177 10 = some (false, [false, false], bo_177_10, 0) := rfl
theorem cl_177 : z_mL 177 = 2 := by decide +kernel
theorem cz_177 : plainFor (z_my 177) = true ∧ ((z_rm 177).cells = 0 ∧ (z_rm 177).slots = 0) := by decide +kernel
-- 178 Math_min
def bo_178_0 : List ZO := [(.iload_n 0, 0, 0, 0), (.iload_n 1, 1, 0, 0), (.if_icmp .gt 7, 9, 0, 0), (.iload_n 0, 0, 0, 0), (.goto 4, 10, 0, 0)]
def bo_178_9 : List ZO := [(.iload_n 1, 1, 0, 0), (.ireturn, 0, 0, 0)]
def bo_178_10 : List ZO := [(.ireturn, 0, 0, 0)]
def bk_178 : List (Nat × ZE) := [(0, false, [true, true], bo_178_0, 0), (9, false, [false, true], bo_178_9, 0), (10, false, [false, false], bo_178_10, 0)]
theorem ck_178 : z_chks 178 bk_178 [[], [], []] = true := by decide +kernel
theorem bf_178_0 : z_fd bk_178 0 = some (false, [true, true], bo_178_0, 0) := rfl
theorem bf_178_9 : z_fd bk_178 9 = some (false, [false, true], bo_178_9, 0) := rfl
theorem bf_178_10 : z_fd bk_178 10 = some (false, [false, false], bo_178_10, 0) := rfl
theorem cl_178 : z_mL 178 = 2 := by decide +kernel
theorem cz_178 : plainFor (z_my 178) = true ∧ ((z_rm 178).cells = 0 ∧ (z_rm 178).slots = 0) := by decide +kernel
-- 179 Law_law
def bo_179_0 : List ZO := [(.new 7, 6, 8, 0), (.dup, 0, 0, 0), (.invokespecial 9, 58, 1, 7), (.astore_n 1, 1, 0, 0), (.new 10, 7, 40, 0), (.dup, 0, 0, 0), (.invokespecial 12, 100, 1, 8), (.astore_n 2, 2, 0, 0), (.iconst 0, 0, 0, 0), (.istore_n 3, 3, 0, 0)]
theorem cb_179_0 : z_chk 179 bo_179_0 0 18 [55, 57, 701, 703] = true := by decide +kernel
def bo_179_18 : List ZO := [(.iload_n 3, 3, 0, 0), (.aload_n 0, 0, 0, 0), (.arraylength, 0, 0, 0), (.iconst 4, 4, 0, 0), (.isub, 0, 0, 0), (.if_icmp .gt 993, 1016, 0, 0), (.aload_n 0, 0, 0, 0), (.iload_n 3, 3, 0, 0), (.iaload, 2, 0, 0), (.bipush 31, 31, 0, 0), (.iand, 0, 0, 0), (.tableswitch 978 0 28 #[132, 155, 168, 181, 194, 217, 250, 283, 316, 349, 372, 395, 454, 487, 510, 523, 566, 579, 602, 625, 688, 731, 744, 757, 806, 855, 909, 932, 955], 32, 0, 28)]
theorem cb_179_18 : z_chk 179 bo_179_18 18 0 [] = true := by decide +kernel
def bo_179_164 : List ZO := [(.aload_n 1, 1, 0, 0), (.aload_n 0, 0, 0, 0), (.iload_n 3, 3, 0, 0), (.iconst 1, 1, 0, 0), (.iadd, 0, 0, 0), (.iaload, 2, 0, 0), (.invokevirtual 13, 59, 2, 7), (.aload_n 2, 2, 0, 0), (.aload_n 0, 0, 0, 0), (.iload_n 3, 3, 0, 0), (.iconst 1, 1, 0, 0), (.iadd, 0, 0, 0), (.iaload, 2, 0, 0), (.invokevirtual 17, 112, 2, 8), (.if_icmp .eq 828, 1010, 0, 0), (.iconst 0, 0, 0, 0), (.ireturn, 1, 0, 0)]
theorem cb_179_164 : z_chk 179 bo_179_164 164 0 [304, 832] = true := by decide +kernel
def bo_179_187 : List ZO := [(.aload_n 1, 1, 0, 0), (.invokevirtual 18, 60, 1, 7), (.aload_n 2, 2, 0, 0), (.invokevirtual 22, 113, 1, 8), (.if_icmp .eq 815, 1010, 0, 0), (.iconst 0, 0, 0, 0), (.ireturn, 1, 0, 0)]
theorem cb_179_187 : z_chk 179 bo_179_187 187 0 [315, 840] = true := by decide +kernel
def bo_179_200 : List ZO := [(.aload_n 1, 1, 0, 0), (.invokevirtual 23, 61, 1, 7), (.aload_n 2, 2, 0, 0), (.invokevirtual 26, 123, 1, 8), (.if_icmp .eq 802, 1010, 0, 0), (.iconst 0, 0, 0, 0), (.ireturn, 1, 0, 0)]
theorem cb_179_200 : z_chk 179 bo_179_200 200 0 [319, 844] = true := by decide +kernel
def bo_179_213 : List ZO := [(.aload_n 1, 1, 0, 0), (.invokevirtual 27, 62, 1, 7), (.aload_n 2, 2, 0, 0), (.invokevirtual 30, 124, 1, 8), (.if_icmp .eq 789, 1010, 0, 0), (.iconst 0, 0, 0, 0), (.ireturn, 1, 0, 0)]
theorem cb_179_213 : z_chk 179 bo_179_213 213 0 [391, 885] = true := by decide +kernel
def bo_179_226 : List ZO := [(.aload_n 1, 1, 0, 0), (.aload_n 0, 0, 0, 0), (.iload_n 3, 3, 0, 0), (.iconst 1, 1, 0, 0), (.iadd, 0, 0, 0), (.iaload, 2, 0, 0), (.invokevirtual 31, 63, 2, 7), (.aload_n 2, 2, 0, 0), (.aload_n 0, 0, 0, 0), (.iload_n 3, 3, 0, 0), (.iconst 1, 1, 0, 0), (.iadd, 0, 0, 0), (.iaload, 2, 0, 0), (.invokevirtual 34, 142, 2, 8), (.if_icmp .eq 766, 1010, 0, 0), (.iconst 0, 0, 0, 0), (.ireturn, 1, 0, 0)]
theorem cb_179_226 : z_chk 179 bo_179_226 226 0 [411, 889] = true := by decide +kernel
def bo_179_249 : List ZO := [(.aload_n 1, 1, 0, 0), (.aload_n 0, 0, 0, 0), (.iload_n 3, 3, 0, 0), (.iconst 1, 1, 0, 0), (.iadd, 0, 0, 0), (.iaload, 2, 0, 0), (.aload_n 0, 0, 0, 0), (.iload_n 3, 3, 0, 0), (.iconst 2, 2, 0, 0), (.iadd, 0, 0, 0), (.iaload, 2, 0, 0), (.invokevirtual 35, 64, 3, 7), (.aload_n 2, 2, 0, 0), (.aload_n 0, 0, 0, 0), (.iload_n 3, 3, 0, 0), (.iconst 1, 1, 0, 0), (.iadd, 0, 0, 0), (.iaload, 2, 0, 0), (.aload_n 0, 0, 0, 0), (.iload_n 3, 3, 0, 0), (.iconst 2, 2, 0, 0), (.iadd, 0, 0, 0), (.iaload, 2, 0, 0), (.invokevirtual 39, 144, 3, 8), (.if_icmp .eq 733, 1010, 0, 0), (.iconst 0, 0, 0, 0), (.ireturn, 1, 0, 0)]
theorem cb_179_249 : z_chk 179 bo_179_249 249 0 [439, 912] = true := by decide +kernel
def bo_179_282 : List ZO := [(.aload_n 1, 1, 0, 0), (.aload_n 0, 0, 0, 0), (.iload_n 3, 3, 0, 0), (.iconst 1, 1, 0, 0), (.iadd, 0, 0, 0), (.iaload, 2, 0, 0), (.aload_n 0, 0, 0, 0), (.iload_n 3, 3, 0, 0), (.iconst 2, 2, 0, 0), (.iadd, 0, 0, 0), (.iaload, 2, 0, 0), (.invokevirtual 40, 65, 3, 7), (.aload_n 2, 2, 0, 0), (.aload_n 0, 0, 0, 0), (.iload_n 3, 3, 0, 0), (.iconst 1, 1, 0, 0), (.iadd, 0, 0, 0), (.iaload, 2, 0, 0), (.aload_n 0, 0, 0, 0), (.iload_n 3, 3, 0, 0), (.iconst 2, 2, 0, 0), (.iadd, 0, 0, 0), (.iaload, 2, 0, 0), (.invokevirtual 43, 145, 3, 8), (.if_icmp .eq 700, 1010, 0, 0), (.iconst 0, 0, 0, 0), (.ireturn, 1, 0, 0)]
theorem cb_179_282 : z_chk 179 bo_179_282 282 0 [452, 928] = true := by decide +kernel
def bo_179_315 : List ZO := [(.aload_n 1, 1, 0, 0), (.aload_n 0, 0, 0, 0), (.iload_n 3, 3, 0, 0), (.iconst 1, 1, 0, 0), (.iadd, 0, 0, 0), (.iaload, 2, 0, 0), (.aload_n 0, 0, 0, 0), (.iload_n 3, 3, 0, 0), (.iconst 2, 2, 0, 0), (.iadd, 0, 0, 0), (.iaload, 2, 0, 0), (.invokevirtual 44, 66, 3, 7), (.aload_n 2, 2, 0, 0), (.aload_n 0, 0, 0, 0), (.iload_n 3, 3, 0, 0), (.iconst 1, 1, 0, 0), (.iadd, 0, 0, 0), (.iaload, 2, 0, 0), (.aload_n 0, 0, 0, 0), (.iload_n 3, 3, 0, 0), (.iconst 2, 2, 0, 0), (.iadd, 0, 0, 0), (.iaload, 2, 0, 0), (.invokevirtual 47, 147, 3, 8), (.if_icmp .eq 667, 1010, 0, 0), (.iconst 0, 0, 0, 0), (.ireturn, 1, 0, 0)]
theorem cb_179_315 : z_chk 179 bo_179_315 315 0 [460, 940] = true := by decide +kernel
def bo_179_348 : List ZO := [(.aload_n 1, 1, 0, 0), (.aload_n 0, 0, 0, 0), (.iload_n 3, 3, 0, 0), (.iconst 1, 1, 0, 0), (.iadd, 0, 0, 0), (.iaload, 2, 0, 0), (.aload_n 0, 0, 0, 0), (.iload_n 3, 3, 0, 0), (.iconst 2, 2, 0, 0), (.iadd, 0, 0, 0), (.iaload, 2, 0, 0), (.invokevirtual 48, 67, 3, 7), (.aload_n 2, 2, 0, 0), (.aload_n 0, 0, 0, 0), (.iload_n 3, 3, 0, 0), (.iconst 1, 1, 0, 0), (.iadd, 0, 0, 0), (.iaload, 2, 0, 0), (.aload_n 0, 0, 0, 0), (.iload_n 3, 3, 0, 0), (.iconst 2, 2, 0, 0), (.iadd, 0, 0, 0), (.iaload, 2, 0, 0), (.invokevirtual 51, 148, 3, 8), (.if_icmp .eq 634, 1010, 0, 0), (.iconst 0, 0, 0, 0), (.ireturn, 1, 0, 0)]
theorem cb_179_348 : z_chk 179 bo_179_348 348 0 [481, 964] = true := by decide +kernel
def bo_179_381 : List ZO := [(.aload_n 1, 1, 0, 0), (.aload_n 0, 0, 0, 0), (.iload_n 3, 3, 0, 0), (.iconst 1, 1, 0, 0), (.iadd, 0, 0, 0), (.iaload, 2, 0, 0), (.invokevirtual 52, 68, 2, 7), (.aload_n 2, 2, 0, 0), (.aload_n 0, 0, 0, 0), (.iload_n 3, 3, 0, 0), (.iconst 1, 1, 0, 0), (.iadd, 0, 0, 0), (.iaload, 2, 0, 0), (.invokevirtual 55, 150, 2, 8), (.if_icmp .eq 611, 1010, 0, 0), (.iconst 0, 0, 0, 0), (.ireturn, 1, 0, 0)]
theorem cb_179_381 : z_chk 179 bo_179_381 381 0 [489, 976] = true := by decide +kernel
def bo_179_404 : List ZO := [(.aload_n 1, 1, 0, 0), (.aload_n 0, 0, 0, 0), (.iload_n 3, 3, 0, 0), (.iconst 1, 1, 0, 0), (.iadd, 0, 0, 0), (.iaload, 2, 0, 0), (.invokevirtual 56, 69, 2, 7), (.aload_n 2, 2, 0, 0), (.aload_n 0, 0, 0, 0), (.iload_n 3, 3, 0, 0), (.iconst 1, 1, 0, 0), (.iadd, 0, 0, 0), (.iaload, 2, 0, 0), (.invokevirtual 59, 151, 2, 8), (.if_icmp .eq 588, 1010, 0, 0), (.iconst 0, 0, 0, 0), (.ireturn, 1, 0, 0)]
theorem cb_179_404 : z_chk 179 bo_179_404 404 0 [541, 1007] = true := by decide +kernel
def bo_179_427 : List ZO := [(.aload_n 1, 1, 0, 0), (.aload_n 0, 0, 0, 0), (.iload_n 3, 3, 0, 0), (.iconst 1, 1, 0, 0), (.iadd, 0, 0, 0), (.iaload, 2, 0, 0), (.aload_n 0, 0, 0, 0), (.iload_n 3, 3, 0, 0), (.iconst 2, 2, 0, 0), (.iadd, 0, 0, 0), (.iaload, 2, 0, 0), (.ifCond .eq 7, 445, 0, 0), (.iconst 1, 1, 0, 0), (.goto 4, 446, 0, 0)]
theorem cb_179_427 : z_chk 179 bo_179_427 427 0 [] = true := by decide +kernel
def bo_179_445 : List ZO := [(.iconst 0, 0, 0, 0), (.aload_n 0, 0, 0, 0), (.iload_n 3, 3, 0, 0), (.iconst 3, 3, 0, 0), (.iadd, 0, 0, 0), (.iaload, 2, 0, 0), (.invokevirtual 60, 70, 4, 7), (.aload_n 2, 2, 0, 0), (.aload_n 0, 0, 0, 0), (.iload_n 3, 3, 0, 0), (.iconst 1, 1, 0, 0), (.iadd, 0, 0, 0), (.iaload, 2, 0, 0), (.aload_n 0, 0, 0, 0), (.iload_n 3, 3, 0, 0), (.iconst 2, 2, 0, 0), (.iadd, 0, 0, 0), (.iaload, 2, 0, 0), (.ifCond .eq 7, 472, 0, 0), (.iconst 1, 1, 0, 0), (.goto 4, 473, 0, 0)]
theorem cb_179_445 : z_chk 179 bo_179_445 445 0 [549] = true := by decide +kernel
def bo_179_446 : List ZO := [(.aload_n 0, 0, 0, 0), (.iload_n 3, 3, 0, 0), (.iconst 3, 3, 0, 0), (.iadd, 0, 0, 0), (.iaload, 2, 0, 0), (.invokevirtual 60, 70, 4, 7), (.aload_n 2, 2, 0, 0), (.aload_n 0, 0, 0, 0), (.iload_n 3, 3, 0, 0), (.iconst 1, 1, 0, 0), (.iadd, 0, 0, 0), (.iaload, 2, 0, 0), (.aload_n 0, 0, 0, 0), (.iload_n 3, 3, 0, 0), (.iconst 2, 2, 0, 0), (.iadd, 0, 0, 0), (.iaload, 2, 0, 0), (.ifCond .eq 7, 472, 0, 0), (.iconst 1, 1, 0, 0), (.goto 4, 473, 0, 0)]
theorem cb_179_446 : z_chk 179 bo_179_446 446 0 [549] = true := by decide +kernel
def bo_179_472 : List ZO := [(.iconst 0, 0, 0, 0), (.aload_n 0, 0, 0, 0), (.iload_n 3, 3, 0, 0), (.iconst 3, 3, 0, 0), (.iadd, 0, 0, 0), (.iaload, 2, 0, 0), (.invokevirtual 64, 152, 4, 8), (.if_icmp .eq 529, 1010, 0, 0), (.iconst 0, 0, 0, 0), (.ireturn, 1, 0, 0)]
theorem cb_179_472 : z_chk 179 bo_179_472 472 0 [1011] = true := by decide +kernel
def bo_179_473 : List ZO := [(.aload_n 0, 0, 0, 0), (.iload_n 3, 3, 0, 0), (.iconst 3, 3, 0, 0), (.iadd, 0, 0, 0), (.iaload, 2, 0, 0), (.invokevirtual 64, 152, 4, 8), (.if_icmp .eq 529, 1010, 0, 0), (.iconst 0, 0, 0, 0), (.ireturn, 1, 0, 0)]
theorem cb_179_473 : z_chk 179 bo_179_473 473 0 [1011] = true := by decide +kernel
def bo_179_486 : List ZO := [(.aload_n 1, 1, 0, 0), (.aload_n 0, 0, 0, 0), (.iload_n 3, 3, 0, 0), (.iconst 1, 1, 0, 0), (.iadd, 0, 0, 0), (.iaload, 2, 0, 0), (.aload_n 0, 0, 0, 0), (.iload_n 3, 3, 0, 0), (.iconst 2, 2, 0, 0), (.iadd, 0, 0, 0), (.iaload, 2, 0, 0), (.invokevirtual 65, 71, 3, 7), (.aload_n 2, 2, 0, 0), (.aload_n 0, 0, 0, 0), (.iload_n 3, 3, 0, 0), (.iconst 1, 1, 0, 0), (.iadd, 0, 0, 0), (.iaload, 2, 0, 0), (.aload_n 0, 0, 0, 0), (.iload_n 3, 3, 0, 0), (.iconst 2, 2, 0, 0), (.iadd, 0, 0, 0), (.iaload, 2, 0, 0), (.invokevirtual 68, 153, 3, 8), (.if_icmp .eq 496, 1010, 0, 0), (.iconst 0, 0, 0, 0), (.ireturn, 1, 0, 0)]
theorem cb_179_486 : z_chk 179 bo_179_486 486 0 [557, 1015] = true := by decide +kernel
def bo_179_519 : List ZO := [(.aload_n 1, 1, 0, 0), (.aload_n 0, 0, 0, 0), (.iload_n 3, 3, 0, 0), (.iconst 1, 1, 0, 0), (.iadd, 0, 0, 0), (.iaload, 2, 0, 0), (.invokevirtual 69, 72, 2, 7), (.aload_n 2, 2, 0, 0), (.aload_n 0, 0, 0, 0), (.iload_n 3, 3, 0, 0), (.iconst 1, 1, 0, 0), (.iadd, 0, 0, 0), (.iaload, 2, 0, 0), (.invokevirtual 72, 154, 2, 8), (.if_icmp .eq 473, 1010, 0, 0), (.iconst 0, 0, 0, 0), (.ireturn, 1, 0, 0)]
theorem cb_179_519 : z_chk 179 bo_179_519 519 0 [561, 1023] = true := by decide +kernel
def bo_179_542 : List ZO := [(.aload_n 1, 1, 0, 0), (.invokevirtual 73, 73, 1, 7), (.aload_n 2, 2, 0, 0), (.invokevirtual 76, 155, 1, 8), (.if_icmp .eq 460, 1010, 0, 0), (.iconst 0, 0, 0, 0), (.ireturn, 1, 0, 0)]
theorem cb_179_542 : z_chk 179 bo_179_542 542 0 [565, 1027] = true := by decide +kernel
def bo_179_555 : List ZO := [(.aload_n 1, 1, 0, 0), (.aload_n 0, 0, 0, 0), (.iload_n 3, 3, 0, 0), (.iconst 1, 1, 0, 0), (.iadd, 0, 0, 0), (.iaload, 2, 0, 0), (.aload_n 0, 0, 0, 0), (.iload_n 3, 3, 0, 0), (.iconst 2, 2, 0, 0), (.iadd, 0, 0, 0), (.iaload, 2, 0, 0), (.aload_n 0, 0, 0, 0), (.iload_n 3, 3, 0, 0), (.iconst 3, 3, 0, 0), (.iadd, 0, 0, 0), (.iaload, 2, 0, 0), (.invokevirtual 77, 74, 4, 7), (.aload_n 2, 2, 0, 0), (.aload_n 0, 0, 0, 0), (.iload_n 3, 3, 0, 0), (.iconst 1, 1, 0, 0), (.iadd, 0, 0, 0), (.iaload, 2, 0, 0), (.aload_n 0, 0, 0, 0), (.iload_n 3, 3, 0, 0), (.iconst 2, 2, 0, 0), (.iadd, 0, 0, 0), (.iaload, 2, 0, 0), (.aload_n 0, 0, 0, 0), (.iload_n 3, 3, 0, 0), (.iconst 3, 3, 0, 0), (.iadd, 0, 0, 0), (.iaload, 2, 0, 0), (.invokevirtual 81, 156, 4, 8), (.if_icmp .eq 417, 1010, 0, 0), (.iconst 0, 0, 0, 0), (.ireturn, 1, 0, 0)]
theorem cb_179_555 : z_chk 179 bo_179_555 555 0 [573, 1031] = true := by decide +kernel
def bo_179_598 : List ZO := [(.aload_n 1, 1, 0, 0), (.invokevirtual 82, 75, 1, 7), (.aload_n 2, 2, 0, 0), (.invokevirtual 85, 157, 1, 8), (.if_icmp .eq 404, 1010, 0, 0), (.iconst 0, 0, 0, 0), (.ireturn, 1, 0, 0)]
theorem cb_179_598 : z_chk 179 bo_179_598 598 0 [577, 1040] = true := by decide +kernel
def bo_179_611 : List ZO := [(.aload_n 1, 1, 0, 0), (.aload_n 0, 0, 0, 0), (.iload_n 3, 3, 0, 0), (.iconst 1, 1, 0, 0), (.iadd, 0, 0, 0), (.iaload, 2, 0, 0), (.invokevirtual 86, 76, 2, 7), (.aload_n 2, 2, 0, 0), (.aload_n 0, 0, 0, 0), (.iload_n 3, 3, 0, 0), (.iconst 1, 1, 0, 0), (.iadd, 0, 0, 0), (.iaload, 2, 0, 0), (.invokevirtual 89, 158, 2, 8), (.if_icmp .eq 381, 1010, 0, 0), (.iconst 0, 0, 0, 0), (.ireturn, 1, 0, 0)]
theorem cb_179_611 : z_chk 179 bo_179_611 611 0 [587, 1044] = true := by decide +kernel
def bo_179_634 : List ZO := [(.aload_n 1, 1, 0, 0), (.aload_n 0, 0, 0, 0), (.iload_n 3, 3, 0, 0), (.iconst 1, 1, 0, 0), (.iadd, 0, 0, 0), (.iaload, 2, 0, 0), (.invokevirtual 90, 77, 2, 7), (.aload_n 2, 2, 0, 0), (.aload_n 0, 0, 0, 0), (.iload_n 3, 3, 0, 0), (.iconst 1, 1, 0, 0), (.iadd, 0, 0, 0), (.iaload, 2, 0, 0), (.invokevirtual 93, 160, 2, 8), (.if_icmp .eq 358, 1010, 0, 0), (.iconst 0, 0, 0, 0), (.ireturn, 1, 0, 0)]
theorem cb_179_634 : z_chk 179 bo_179_634 634 0 [592, 1048] = true := by decide +kernel
def bo_179_657 : List ZO := [(.aload_n 1, 1, 0, 0), (.aload_n 0, 0, 0, 0), (.iload_n 3, 3, 0, 0), (.iconst 1, 1, 0, 0), (.iadd, 0, 0, 0), (.iaload, 2, 0, 0), (.aload_n 0, 0, 0, 0), (.iload_n 3, 3, 0, 0), (.iconst 2, 2, 0, 0), (.iadd, 0, 0, 0), (.iaload, 2, 0, 0), (.i2l, 0, 0, 0), (.bipush 32, 32, 0, 0), (.lshl, 0, 0, 0), (.aload_n 0, 0, 0, 0), (.iload_n 3, 3, 0, 0), (.iconst 3, 3, 0, 0), (.iadd, 0, 0, 0), (.iaload, 2, 0, 0), (.i2l, 0, 0, 0), (.ldc2_w 94, 4294967295, 0, 0), (.land, 0, 0, 0), (.lor, 0, 0, 0), (.invokevirtual 96, 78, 3, 7), (.aload_n 2, 2, 0, 0), (.aload_n 0, 0, 0, 0), (.iload_n 3, 3, 0, 0), (.iconst 1, 1, 0, 0), (.iadd, 0, 0, 0), (.iaload, 2, 0, 0), (.aload_n 0, 0, 0, 0), (.iload_n 3, 3, 0, 0), (.iconst 2, 2, 0, 0), (.iadd, 0, 0, 0), (.iaload, 2, 0, 0), (.i2l, 0, 0, 0), (.bipush 32, 32, 0, 0), (.lshl, 0, 0, 0), (.aload_n 0, 0, 0, 0), (.iload_n 3, 3, 0, 0), (.iconst 3, 3, 0, 0), (.iadd, 0, 0, 0), (.iaload, 2, 0, 0), (.i2l, 0, 0, 0), (.ldc2_w 94, 4294967295, 0, 0), (.land, 0, 0, 0), (.lor, 0, 0, 0), (.invokevirtual 100, 163, 3, 8), (.if_icmp .eq 295, 1010, 0, 0), (.iconst 0, 0, 0, 0), (.ireturn, 1, 0, 0)]
theorem cb_179_657 : z_chk 179 bo_179_657 657 0 [1125, 606, 1125, 1056] = true := by decide +kernel
def bo_179_720 : List ZO := [(.aload_n 1, 1, 0, 0), (.aload_n 0, 0, 0, 0), (.iload_n 3, 3, 0, 0), (.iconst 1, 1, 0, 0), (.iadd, 0, 0, 0), (.iaload, 2, 0, 0), (.aload_n 0, 0, 0, 0), (.iload_n 3, 3, 0, 0), (.iconst 2, 2, 0, 0), (.iadd, 0, 0, 0), (.iaload, 2, 0, 0), (.aload_n 0, 0, 0, 0), (.iload_n 3, 3, 0, 0), (.iconst 3, 3, 0, 0), (.iadd, 0, 0, 0), (.iaload, 2, 0, 0), (.invokevirtual 101, 79, 4, 7), (.aload_n 2, 2, 0, 0), (.aload_n 0, 0, 0, 0), (.iload_n 3, 3, 0, 0), (.iconst 1, 1, 0, 0), (.iadd, 0, 0, 0), (.iaload, 2, 0, 0), (.aload_n 0, 0, 0, 0), (.iload_n 3, 3, 0, 0), (.iconst 2, 2, 0, 0), (.iadd, 0, 0, 0), (.iaload, 2, 0, 0), (.aload_n 0, 0, 0, 0), (.iload_n 3, 3, 0, 0), (.iconst 3, 3, 0, 0), (.iadd, 0, 0, 0), (.iaload, 2, 0, 0), (.invokevirtual 104, 164, 4, 8), (.if_icmp .eq 252, 1010, 0, 0), (.iconst 0, 0, 0, 0), (.ireturn, 1, 0, 0)]
theorem cb_179_720 : z_chk 179 bo_179_720 720 0 [628, 1068] = true := by decide +kernel
def bo_179_763 : List ZO := [(.aload_n 1, 1, 0, 0), (.invokevirtual 105, 80, 1, 7), (.aload_n 2, 2, 0, 0), (.invokevirtual 108, 165, 1, 8), (.if_icmp .eq 239, 1010, 0, 0), (.iconst 0, 0, 0, 0), (.ireturn, 1, 0, 0)]
theorem cb_179_763 : z_chk 179 bo_179_763 763 0 [636, 1073] = true := by decide +kernel
def bo_179_776 : List ZO := [(.aload_n 1, 1, 0, 0), (.invokevirtual 109, 81, 1, 7), (.aload_n 2, 2, 0, 0), (.invokevirtual 112, 167, 1, 8), (.if_icmp .eq 226, 1010, 0, 0), (.iconst 0, 0, 0, 0), (.ireturn, 1, 0, 0)]
theorem cb_179_776 : z_chk 179 bo_179_776 776 0 [640, 1077] = true := by decide +kernel
def bo_179_789 : List ZO := [(.aload_n 1, 1, 0, 0), (.aload_n 0, 0, 0, 0), (.iload_n 3, 3, 0, 0), (.iconst 1, 1, 0, 0), (.iadd, 0, 0, 0), (.iaload, 2, 0, 0), (.aload_n 0, 0, 0, 0), (.iload_n 3, 3, 0, 0), (.iconst 2, 2, 0, 0), (.iadd, 0, 0, 0), (.iaload, 2, 0, 0), (.ifCond .eq 7, 807, 0, 0), (.iconst 1, 1, 0, 0), (.goto 4, 808, 0, 0)]
theorem cb_179_789 : z_chk 179 bo_179_789 789 0 [] = true := by decide +kernel
def bo_179_807 : List ZO := [(.iconst 0, 0, 0, 0), (.invokevirtual 113, 82, 3, 7), (.aload_n 2, 2, 0, 0), (.aload_n 0, 0, 0, 0), (.iload_n 3, 3, 0, 0), (.iconst 1, 1, 0, 0), (.iadd, 0, 0, 0), (.iaload, 2, 0, 0), (.aload_n 0, 0, 0, 0), (.iload_n 3, 3, 0, 0), (.iconst 2, 2, 0, 0), (.iadd, 0, 0, 0), (.iaload, 2, 0, 0), (.ifCond .eq 7, 829, 0, 0), (.iconst 1, 1, 0, 0), (.goto 4, 830, 0, 0)]
theorem cb_179_807 : z_chk 179 bo_179_807 807 0 [652] = true := by decide +kernel
def bo_179_808 : List ZO := [(.invokevirtual 113, 82, 3, 7), (.aload_n 2, 2, 0, 0), (.aload_n 0, 0, 0, 0), (.iload_n 3, 3, 0, 0), (.iconst 1, 1, 0, 0), (.iadd, 0, 0, 0), (.iaload, 2, 0, 0), (.aload_n 0, 0, 0, 0), (.iload_n 3, 3, 0, 0), (.iconst 2, 2, 0, 0), (.iadd, 0, 0, 0), (.iaload, 2, 0, 0), (.ifCond .eq 7, 829, 0, 0), (.iconst 1, 1, 0, 0), (.goto 4, 830, 0, 0)]
theorem cb_179_808 : z_chk 179 bo_179_808 808 0 [652] = true := by decide +kernel
def bo_179_829 : List ZO := [(.iconst 0, 0, 0, 0), (.invokevirtual 117, 169, 3, 8), (.if_icmp .eq 177, 1010, 0, 0), (.iconst 0, 0, 0, 0), (.ireturn, 1, 0, 0)]
theorem cb_179_829 : z_chk 179 bo_179_829 829 0 [1085] = true := by decide +kernel
def bo_179_830 : List ZO := [(.invokevirtual 117, 169, 3, 8), (.if_icmp .eq 177, 1010, 0, 0), (.iconst 0, 0, 0, 0), (.ireturn, 1, 0, 0)]
theorem cb_179_830 : z_chk 179 bo_179_830 830 0 [1085] = true := by decide +kernel
def bo_179_838 : List ZO := [(.aload_n 1, 1, 0, 0), (.aload_n 0, 0, 0, 0), (.iload_n 3, 3, 0, 0), (.iconst 1, 1, 0, 0), (.iadd, 0, 0, 0), (.iaload, 2, 0, 0), (.aload_n 0, 0, 0, 0), (.iload_n 3, 3, 0, 0), (.iconst 2, 2, 0, 0), (.iadd, 0, 0, 0), (.iaload, 2, 0, 0), (.ifCond .eq 7, 856, 0, 0), (.iconst 1, 1, 0, 0), (.goto 4, 857, 0, 0)]
theorem cb_179_838 : z_chk 179 bo_179_838 838 0 [] = true := by decide +kernel
def bo_179_856 : List ZO := [(.iconst 0, 0, 0, 0), (.invokevirtual 118, 83, 3, 7), (.aload_n 2, 2, 0, 0), (.aload_n 0, 0, 0, 0), (.iload_n 3, 3, 0, 0), (.iconst 1, 1, 0, 0), (.iadd, 0, 0, 0), (.iaload, 2, 0, 0), (.aload_n 0, 0, 0, 0), (.iload_n 3, 3, 0, 0), (.iconst 2, 2, 0, 0), (.iadd, 0, 0, 0), (.iaload, 2, 0, 0), (.ifCond .eq 7, 878, 0, 0), (.iconst 1, 1, 0, 0), (.goto 4, 879, 0, 0)]
theorem cb_179_856 : z_chk 179 bo_179_856 856 0 [672] = true := by decide +kernel
def bo_179_857 : List ZO := [(.invokevirtual 118, 83, 3, 7), (.aload_n 2, 2, 0, 0), (.aload_n 0, 0, 0, 0), (.iload_n 3, 3, 0, 0), (.iconst 1, 1, 0, 0), (.iadd, 0, 0, 0), (.iaload, 2, 0, 0), (.aload_n 0, 0, 0, 0), (.iload_n 3, 3, 0, 0), (.iconst 2, 2, 0, 0), (.iadd, 0, 0, 0), (.iaload, 2, 0, 0), (.ifCond .eq 7, 878, 0, 0), (.iconst 1, 1, 0, 0), (.goto 4, 879, 0, 0)]
theorem cb_179_857 : z_chk 179 bo_179_857 857 0 [672] = true := by decide +kernel
def bo_179_878 : List ZO := [(.iconst 0, 0, 0, 0), (.invokevirtual 121, 170, 3, 8), (.if_icmp .eq 128, 1010, 0, 0), (.iconst 0, 0, 0, 0), (.ireturn, 1, 0, 0)]
theorem cb_179_878 : z_chk 179 bo_179_878 878 0 [1099] = true := by decide +kernel
def bo_179_879 : List ZO := [(.invokevirtual 121, 170, 3, 8), (.if_icmp .eq 128, 1010, 0, 0), (.iconst 0, 0, 0, 0), (.ireturn, 1, 0, 0)]
theorem cb_179_879 : z_chk 179 bo_179_879 879 0 [1099] = true := by decide +kernel
def bo_179_887 : List ZO := [(.aload_n 1, 1, 0, 0), (.aload_n 0, 0, 0, 0), (.iload_n 3, 3, 0, 0), (.iconst 1, 1, 0, 0), (.iadd, 0, 0, 0), (.iaload, 2, 0, 0), (.i2l, 0, 0, 0), (.bipush 32, 32, 0, 0), (.lshl, 0, 0, 0), (.aload_n 0, 0, 0, 0), (.iload_n 3, 3, 0, 0), (.iconst 2, 2, 0, 0), (.iadd, 0, 0, 0), (.iaload, 2, 0, 0), (.i2l, 0, 0, 0), (.ldc2_w 94, 4294967295, 0, 0), (.land, 0, 0, 0), (.lor, 0, 0, 0), (.invokevirtual 122, 84, 2, 7), (.aload_n 2, 2, 0, 0), (.aload_n 0, 0, 0, 0), (.iload_n 3, 3, 0, 0), (.iconst 1, 1, 0, 0), (.iadd, 0, 0, 0), (.iaload, 2, 0, 0), (.i2l, 0, 0, 0), (.bipush 32, 32, 0, 0), (.lshl, 0, 0, 0), (.aload_n 0, 0, 0, 0), (.iload_n 3, 3, 0, 0), (.iconst 2, 2, 0, 0), (.iadd, 0, 0, 0), (.iaload, 2, 0, 0), (.i2l, 0, 0, 0), (.ldc2_w 94, 4294967295, 0, 0), (.land, 0, 0, 0), (.lor, 0, 0, 0), (.invokevirtual 126, 171, 2, 8), (.lcmp, 0, 0, 0), (.ifCond .eq 74, 1010, 0, 0), (.iconst 0, 0, 0, 0), (.ireturn, 1, 0, 0)]
theorem cb_179_887 : z_chk 179 bo_179_887 887 0 [1125, 683, 1125, 1107] = true := by decide +kernel
def bo_179_941 : List ZO := [(.aload_n 1, 1, 0, 0), (.aload_n 0, 0, 0, 0), (.iload_n 3, 3, 0, 0), (.iconst 1, 1, 0, 0), (.iadd, 0, 0, 0), (.iaload, 2, 0, 0), (.invokevirtual 127, 85, 2, 7), (.aload_n 2, 2, 0, 0), (.aload_n 0, 0, 0, 0), (.iload_n 3, 3, 0, 0), (.iconst 1, 1, 0, 0), (.iadd, 0, 0, 0), (.iaload, 2, 0, 0), (.invokevirtual 130, 172, 2, 8), (.if_icmp .eq 51, 1010, 0, 0), (.iconst 0, 0, 0, 0), (.ireturn, 1, 0, 0)]
theorem cb_179_941 : z_chk 179 bo_179_941 941 0 [687, 1111] = true := by decide +kernel
def bo_179_964 : List ZO := [(.aload_n 1, 1, 0, 0), (.aload_n 0, 0, 0, 0), (.iload_n 3, 3, 0, 0), (.iconst 1, 1, 0, 0), (.iadd, 0, 0, 0), (.iaload, 2, 0, 0), (.invokevirtual 131, 86, 2, 7), (.aload_n 2, 2, 0, 0), (.aload_n 0, 0, 0, 0), (.iload_n 3, 3, 0, 0), (.iconst 1, 1, 0, 0), (.iadd, 0, 0, 0), (.iaload, 2, 0, 0), (.invokevirtual 134, 173, 2, 8), (.if_icmp .eq 28, 1010, 0, 0), (.iconst 0, 0, 0, 0), (.ireturn, 1, 0, 0)]
theorem cb_179_964 : z_chk 179 bo_179_964 964 0 [693, 1117] = true := by decide +kernel
def bo_179_987 : List ZO := [(.aload_n 1, 1, 0, 0), (.aload_n 0, 0, 0, 0), (.iload_n 3, 3, 0, 0), (.iconst 1, 1, 0, 0), (.iadd, 0, 0, 0), (.iaload, 2, 0, 0), (.invokevirtual 135, 87, 2, 7), (.aload_n 2, 2, 0, 0), (.aload_n 0, 0, 0, 0), (.iload_n 3, 3, 0, 0), (.iconst 1, 1, 0, 0), (.iadd, 0, 0, 0), (.iaload, 2, 0, 0), (.invokevirtual 138, 174, 2, 8), (.if_icmp .eq 5, 1010, 0, 0), (.iconst 0, 0, 0, 0), (.ireturn, 1, 0, 0)]
theorem cb_179_987 : z_chk 179 bo_179_987 987 0 [697, 1121] = true := by decide +kernel
def bo_179_1010 : List ZO := [(.iinc 3 4, 4, 3, 0), (.goto (-995), 18, 0, 0)]
theorem cb_179_1010 : z_chk 179 bo_179_1010 1010 0 [] = true := by decide +kernel
def bo_179_1016 : List ZO := [(.iconst 1, 1, 0, 0), (.ireturn, 1, 0, 0)]
theorem cb_179_1016 : z_chk 179 bo_179_1016 1016 0 [] = true := by decide +kernel
def bk_179 : List (Nat × ZE) := [(0, false, [true, false, false, false], bo_179_0, 18), (18, true, [true, true, true, true], bo_179_18, 0), (164, false, [true, true, true, true], bo_179_164, 0), (187, false, [true, true, true, true], bo_179_187, 0), (200, false, [true, true, true, true], bo_179_200, 0), (213, false, [true, true, true, true], bo_179_213, 0), (226, false, [true, true, true, true], bo_179_226, 0), (249, false, [true, true, true, true], bo_179_249, 0), (282, false, [true, true, true, true], bo_179_282, 0), (315, false, [true, true, true, true], bo_179_315, 0), (348, false, [true, true, true, true], bo_179_348, 0), (381, false, [true, true, true, true], bo_179_381, 0), (404, false, [true, true, true, true], bo_179_404, 0), (427, false, [true, true, true, true], bo_179_427, 0), (445, false, [true, true, true, true], bo_179_445, 0), (446, false, [true, true, true, true], bo_179_446, 0), (472, false, [true, true, true, true], bo_179_472, 0), (473, false, [true, true, true, true], bo_179_473, 0), (486, false, [true, true, true, true], bo_179_486, 0), (519, false, [true, true, true, true], bo_179_519, 0), (542, false, [true, true, true, true], bo_179_542, 0), (555, false, [true, true, true, true], bo_179_555, 0), (598, false, [true, true, true, true], bo_179_598, 0), (611, false, [true, true, true, true], bo_179_611, 0), (634, false, [true, true, true, true], bo_179_634, 0), (657, false, [true, true, true, true], bo_179_657, 0), (720, false, [true, true, true, true], bo_179_720, 0), (763, false, [true, true, true, true], bo_179_763, 0), (776, false, [true, true, true, true], bo_179_776, 0), (789, false, [true, true, true, true], bo_179_789, 0), (807, false, [true, true, true, true], bo_179_807, 0), (808, false, [true, true, true, true], bo_179_808, 0), (829, false, [true, true, true, true], bo_179_829, 0), (830, false, [true, true, true, true], bo_179_830, 0), (838, false, [true, true, true, true], bo_179_838, 0), (856, false, [true, true, true, true], bo_179_856, 0), (857, false, [true, true, true, true], bo_179_857, 0), (878, false, [true, true, true, true], bo_179_878, 0), (879, false, [true, true, true, true], bo_179_879, 0), (887, false, [true, true, true, true], bo_179_887, 0), (941, false, [true, true, true, true], bo_179_941, 0), (964, false, [true, true, true, true], bo_179_964, 0), (987, false, [true, true, true, true], bo_179_987, 0), (1010, false, [true, true, true, true], bo_179_1010, 0), (1016, false, [false, false, false, false], bo_179_1016, 0)]
theorem ck_179 : z_chks 179 bk_179 [[55, 57, 701, 703], [], [304, 832], [315, 840], [319, 844], [391, 885], [411, 889], [439, 912], [452, 928], [460, 940], [481, 964], [489, 976], [541, 1007], [], [549], [549], [1011], [1011], [557, 1015], [561, 1023], [565, 1027], [573, 1031], [577, 1040], [587, 1044], [592, 1048], [1125, 606, 1125, 1056], [628, 1068], [636, 1073], [640, 1077], [], [652], [652], [1085], [1085], [], [672], [672], [1099], [1099], [1125, 683, 1125, 1107], [687, 1111], [693, 1117], [697, 1121], [], []] = true := z_chks_cons cb_179_0 (z_chks_cons cb_179_18 (z_chks_cons cb_179_164 (z_chks_cons cb_179_187 (z_chks_cons cb_179_200 (z_chks_cons cb_179_213 (z_chks_cons cb_179_226 (z_chks_cons cb_179_249 (z_chks_cons cb_179_282 (z_chks_cons cb_179_315 (z_chks_cons cb_179_348 (z_chks_cons cb_179_381 (z_chks_cons cb_179_404 (z_chks_cons cb_179_427 (z_chks_cons cb_179_445 (z_chks_cons cb_179_446 (z_chks_cons cb_179_472 (z_chks_cons cb_179_473 (z_chks_cons cb_179_486 (z_chks_cons cb_179_519 (z_chks_cons cb_179_542 (z_chks_cons cb_179_555 (z_chks_cons cb_179_598 (z_chks_cons cb_179_611 (z_chks_cons cb_179_634 (z_chks_cons cb_179_657 (z_chks_cons cb_179_720 (z_chks_cons cb_179_763 (z_chks_cons cb_179_776 (z_chks_cons cb_179_789 (z_chks_cons cb_179_807 (z_chks_cons cb_179_808 (z_chks_cons cb_179_829 (z_chks_cons cb_179_830 (z_chks_cons cb_179_838 (z_chks_cons cb_179_856 (z_chks_cons cb_179_857 (z_chks_cons cb_179_878 (z_chks_cons cb_179_879 (z_chks_cons cb_179_887 (z_chks_cons cb_179_941 (z_chks_cons cb_179_964 (z_chks_cons cb_179_987 (z_chks_cons cb_179_1010 (z_chks_cons cb_179_1016 (z_chks_nil)))))))))))))))))))))))))))))))))))))))))))))
theorem bf_179_0 : z_fd bk_179 0 = some (false, [true, false, false, false], bo_179_0, 18) := rfl
theorem bf_179_18 : z_fd bk_179 18 = some (true, [true, true, true, true], bo_179_18, 0) := rfl
theorem bf_179_164 : z_fd bk_179 164 = some (false, [true, true, true, true], bo_179_164, 0) := rfl
theorem bf_179_187 : z_fd bk_179 187 = some (false, [true, true, true, true], bo_179_187, 0) := rfl
theorem bf_179_200 : z_fd bk_179 200 = some (false, [true, true, true, true], bo_179_200, 0) := rfl
theorem bf_179_213 : z_fd bk_179 213 = some (false, [true, true, true, true], bo_179_213, 0) := rfl
theorem bf_179_226 : z_fd bk_179 226 = some (false, [true, true, true, true], bo_179_226, 0) := rfl
theorem bf_179_249 : z_fd bk_179 249 = some (false, [true, true, true, true], bo_179_249, 0) := rfl
theorem bf_179_282 : z_fd bk_179 282 = some (false, [true, true, true, true], bo_179_282, 0) := rfl
theorem bf_179_315 : z_fd bk_179 315 = some (false, [true, true, true, true], bo_179_315, 0) := rfl
theorem bf_179_348 : z_fd bk_179 348 = some (false, [true, true, true, true], bo_179_348, 0) := rfl
theorem bf_179_381 : z_fd bk_179 381 = some (false, [true, true, true, true], bo_179_381, 0) := rfl
theorem bf_179_404 : z_fd bk_179 404 = some (false, [true, true, true, true], bo_179_404, 0) := rfl
theorem bf_179_427 : z_fd bk_179 427 = some (false, [true, true, true, true], bo_179_427, 0) := rfl
theorem bf_179_445 : z_fd bk_179 445 = some (false, [true, true, true, true], bo_179_445, 0) := rfl
theorem bf_179_446 : z_fd bk_179 446 = some (false, [true, true, true, true], bo_179_446, 0) := rfl
theorem bf_179_472 : z_fd bk_179 472 = some (false, [true, true, true, true], bo_179_472, 0) := rfl
theorem bf_179_473 : z_fd bk_179 473 = some (false, [true, true, true, true], bo_179_473, 0) := rfl
theorem bf_179_486 : z_fd bk_179 486 = some (false, [true, true, true, true], bo_179_486, 0) := rfl
theorem bf_179_519 : z_fd bk_179 519 = some (false, [true, true, true, true], bo_179_519, 0) := rfl
theorem bf_179_542 : z_fd bk_179 542 = some (false, [true, true, true, true], bo_179_542, 0) := rfl
theorem bf_179_555 : z_fd bk_179 555 = some (false, [true, true, true, true], bo_179_555, 0) := rfl
theorem bf_179_598 : z_fd bk_179 598 = some (false, [true, true, true, true], bo_179_598, 0) := rfl
theorem bf_179_611 : z_fd bk_179 611 = some (false, [true, true, true, true], bo_179_611, 0) := rfl
theorem bf_179_634 : z_fd bk_179 634 = some (false, [true, true, true, true], bo_179_634, 0) := rfl
theorem bf_179_657 : z_fd bk_179 657 = some (false, [true, true, true, true], bo_179_657, 0) := rfl
theorem bf_179_720 : z_fd bk_179 720 = some (false, [true, true, true, true], bo_179_720, 0) := rfl
theorem bf_179_763 : z_fd bk_179 763 = some (false, [true, true, true, true], bo_179_763, 0) := rfl
theorem bf_179_776 : z_fd bk_179 776 = some (false, [true, true, true, true], bo_179_776, 0) := rfl
theorem bf_179_789 : z_fd bk_179 789 = some (false, [true, true, true, true], bo_179_789, 0) := rfl
theorem bf_179_807 : z_fd bk_179 807 = some (false, [true, true, true, true], bo_179_807, 0) := rfl
theorem bf_179_808 : z_fd bk_179 808 = some (false, [true, true, true, true], bo_179_808, 0) := rfl
theorem bf_179_829 : z_fd bk_179 829 = some (false, [true, true, true, true], bo_179_829, 0) := rfl
theorem bf_179_830 : z_fd bk_179 830 = some (false, [true, true, true, true], bo_179_830, 0) := rfl
theorem bf_179_838 : z_fd bk_179 838 = some (false, [true, true, true, true], bo_179_838, 0) := rfl
theorem bf_179_856 : z_fd bk_179 856 = some (false, [true, true, true, true], bo_179_856, 0) := rfl
theorem bf_179_857 : z_fd bk_179 857 = some (false, [true, true, true, true], bo_179_857, 0) := rfl
theorem bf_179_878 : z_fd bk_179 878 = some (false, [true, true, true, true], bo_179_878, 0) := rfl
theorem bf_179_879 : z_fd bk_179 879 = some (false, [true, true, true, true], bo_179_879, 0) := rfl
theorem bf_179_887 : z_fd bk_179 887 = some (false, [true, true, true, true], bo_179_887, 0) := rfl
theorem bf_179_941 : z_fd bk_179 941 = some (false, [true, true, true, true], bo_179_941, 0) := rfl
theorem bf_179_964 : z_fd bk_179 964 = some (false, [true, true, true, true], bo_179_964, 0) := rfl
theorem bf_179_987 : z_fd bk_179 987 = some (false, [true, true, true, true], bo_179_987, 0) := rfl
theorem bf_179_1010 : z_fd bk_179 1010 = some (false, [true, true, true, true], bo_179_1010, 0) := rfl
theorem bf_179_1016 : z_fd bk_179 1016 = some (false, [false, false, false, false], bo_179_1016, 0) := rfl
theorem cl_179 : z_mL 179 = 4 := by decide +kernel
theorem cz_179 : plainFor (z_my 179) = true ∧ ((z_rm 179).cells = 600000 ∧ (z_rm 179).slots = 7302250) := by decide +kernel
end
section
/-! reads behind writes -/
theorem z_u2_s {f : Nat → Nat → Int32} {a k : Nat} {x : Int32} : z_u2 f a k x a k = x := if_pos ⟨rfl, rfl⟩
theorem z_u2_k {f : Nat → Nat → Int32} {a b k j : Nat} {x : Int32} (h : j ≠ k) : z_u2 f a k x b j = f b j := if_neg fun q => h q.2
theorem z_u2_a {f : Nat → Nat → Int32} {a b k j : Nat} {x : Int32} (h : b ≠ a) : z_u2 f a k x b j = f b j := if_neg fun q => h q.1
theorem z_u2_f {f : Nat → Nat → Int32} {a b k : Nat} {x : Int32} (h : b ≠ a) : z_u2 f a k x b = f b := funext fun _ => z_u2_a h
theorem z_uR_s {f : Nat → Nat → Option Nat} {a k : Nat} {x : Option Nat} : z_uR f a k x a k = x := if_pos ⟨rfl, rfl⟩
theorem z_uR_k {f : Nat → Nat → Option Nat} {a b k j : Nat} {x : Option Nat} (h : j ≠ k) : z_uR f a k x b j = f b j := if_neg fun q => h q.2
theorem z_uR_a {f : Nat → Nat → Option Nat} {a b k j : Nat} {x : Option Nat} (h : b ≠ a) : z_uR f a k x b j = f b j := if_neg fun q => h q.1
theorem z_uR_f {f : Nat → Nat → Option Nat} {a b k : Nat} {x : Option Nat} (h : b ≠ a) : z_uR f a k x b = f b := funext fun _ => z_uR_a h
theorem z_uL_s {f : Nat → Nat → Int64} {a k : Nat} {x : Int64} : z_uL f a k x a k = x := if_pos ⟨rfl, rfl⟩
theorem z_uL_k {f : Nat → Nat → Int64} {a b k j : Nat} {x : Int64} (h : j ≠ k) : z_uL f a k x b j = f b j := if_neg fun q => h q.2
theorem z_uL_a {f : Nat → Nat → Int64} {a b k j : Nat} {x : Int64} (h : b ≠ a) : z_uL f a k x b j = f b j := if_neg fun q => h q.1
theorem z_uL_f {f : Nat → Nat → Int64} {a b k : Nat} {x : Int64} (h : b ≠ a) : z_uL f a k x b = f b := funext fun _ => z_uL_a h
/-! the evaluator's equations, for simp: whole applications alone -/
section
variable {G : ZG} {mid : Nat} {z0 : Nat × Nat} {C : Nat → List Value → ZM → ZR → Prop} {Rt : ZR} {J J0 : Nat → ZK} {E K : ZK} {L : ZL} {st : List Value} {M : ZM} {bk : List (Nat × ZE)}
theorem e_nil : z_wp G mid z0 C Rt J E [] L st M = E L st M := rfl
theorem e_cons {i : Instr} {a b c : Nat} {r : List ZO} : z_wp G mid z0 C Rt J E ((i, a, b, c) :: r) L st M = z_hd G mid z0 C Rt J i a b c (z_wp G mid z0 C Rt J E r) L st M := rfl
theorem e_q0 {pc : Nat} : z_q G mid z0 bk C Rt J0 0 pc L st M = J0 pc L st M := rfl
theorem e_q {n pc : Nat} : z_q G mid z0 bk C Rt J0 (n + 1) pc L st M = z_qs G mid z0 C Rt J0 (z_q G mid z0 bk C Rt J0 n) pc (z_fd bk pc) L st M := rfl
theorem e_qf {Jn : Nat → ZK} {pc e : Nat} {bs : List Bool} {ops : List ZO} : z_qs G mid z0 C Rt J0 Jn pc (some (false, bs, ops, e)) L st M = z_wp G mid z0 C Rt Jn (Jn e) ops (z_mk1 bs L) st M := rfl
theorem e_qt {Jn : Nat → ZK} {pc e : Nat} {bs : List Bool} {ops : List ZO} : z_qs G mid z0 C Rt J0 Jn pc (some (true, bs, ops, e)) L st M = J0 pc (z_mk1 bs L) st M := rfl
theorem e_af {r : Option Value} : z_af K L st r M = K L (r.toList ++ st) M := rfl
theorem va_rf_s {a : Nat} : va_rf (some a) = .ref a := rfl
theorem va_rf_n : va_rf none = .null := rfl
end
/-! numbers -/
def z_bi : Bool → Int32
  | true => nI 1
  | false => nI 0
theorem z_bi_0 {b : Bool} : (z_bi b = 0) = (b = false) := by cases b <;> simp [z_bi] <;> decide
theorem z_bi_1 {b : Bool} : (z_bi b = 1) = (b = true) := by cases b <;> simp [z_bi] <;> decide
theorem e_bb {b : Bool} : (b = false ∨ b = true) = True := by cases b <;> simp
theorem e_ix {n : Nat} (h : n < 2147483648) : z_ix (nI n) = n := nI_clamp h
theorem e_vp {n N : Nat} (h : n < N) (hN : N < 2147483648) : vp_in (nI n) N = True := eq_true (vp_in_nI h hN)
theorem e_lt {a b : Nat} (ha : a < 2147483648) (hb : b < 2147483648) : (nI a < nI b) = (a < b) := propext (nI_ltI ha hb)
theorem e_le {a b : Nat} (ha : a < 2147483648) (hb : b < 2147483648) : (nI a ≤ nI b) = (a ≤ b) := propext (nI_leI ha hb)
theorem e_eq {a b : Nat} (ha : a < 2147483648) (hb : b < 2147483648) : (nI a = nI b) = (a = b) := propext (nI_eq ha hb)
theorem e_lt0 {a : Nat} (ha : a < 2147483648) : (nI a < 0) = False := eq_false (nI_pos ha)
theorem e_eq0 {a : Nat} (ha : a < 2147483648) : (nI a = 0) = (a = 0) := by
  have := nI_eq (a := a) (b := 0) ha (by decide)
  rw [nI_0] at this
  exact propext this
theorem e_b0 : (nI 0 = 0 ∨ nI 0 = 1) = True := eq_true (Or.inl rfl)
theorem e_b1 : (nI 1 = 0 ∨ nI 1 = 1) = True := eq_true (Or.inr rfl)
theorem e_11 : (nI 1 = 1) = True := eq_true rfl
theorem e_10 : (nI 1 = 0) = False := eq_false (by decide)
theorem z_f0 {Q : ZR} {M : ZM} {B : Bool} (h : Q (some (.int (z_bi B))) M) (e : B = false) : Q (some (.int (nI 0))) M := by rw [e] at h; exact h
theorem z_f1 {Q : ZR} {M : ZM} {B : Bool} (h : Q (some (.int (z_bi B))) M) (e : B = true) : Q (some (.int (nI 1))) M := by rw [e] at h; exact h
theorem z_fv' {Q : ZR} {M : ZM} {v w : Int32} (h : Q (some (.int v)) M) (e : w = v) : Q (some (.int w)) M := by rw [e]; exact h
theorem z_fm {Q : ZR} {r : Option Value} {f g : Nat → Nat → Int32} {R : (Nat → Nat → Option Nat) × (Nat → Nat → Int64) × ((Nat → Nat × Nat) × Nat × Nat)} (h : Q r (f, R)) (e : g = f) : Q r (g, R) := by rw [e]; exact h
theorem lg_lt {x y : Int64} : (lg_cmp x y < 0) = (x < y) := by
  unfold lg_cmp
  by_cases h : x > y
  · rw [if_pos h]; simp only [eq_iff_iff]; exact ⟨fun q => absurd q (by decide), fun q => absurd q (by have := lg_lt_not h; exact this)⟩
  · rw [if_neg h]
    by_cases e : x = y
    · rw [if_pos e]; subst e; simp only [eq_iff_iff]; exact ⟨fun q => absurd q (by decide), fun q => absurd q h⟩
    · rw [if_neg e]; simp only [eq_iff_iff]
      refine ⟨fun _ => ?_, fun _ => by decide⟩
      have h1 : ¬ y.toInt < x.toInt := fun q => h (Int64.lt_iff_toInt_lt.mpr q)
      have h2 : x.toInt ≠ y.toInt := fun q => e (Int64.toInt_inj.mp q)
      exact Int64.lt_iff_toInt_lt.mpr (by omega)
theorem lg_gt {x y : Int64} : (0 < lg_cmp x y) = (y < x) := by
  unfold lg_cmp
  by_cases h : x > y
  · rw [if_pos h]; simp only [eq_iff_iff]; exact ⟨fun _ => h, fun _ => by decide⟩
  · rw [if_neg h]
    by_cases e : x = y
    · rw [if_pos e]; simp only [eq_iff_iff]; exact ⟨fun q => absurd q (by decide), fun q => absurd q h⟩
    · rw [if_neg e]; simp only [eq_iff_iff]; exact ⟨fun q => absurd q (by decide), fun q => absurd q h⟩
theorem lg_eq {x y : Int64} : (lg_cmp x y = 0) = (x = y) := by
  unfold lg_cmp
  by_cases h : x > y
  · rw [if_pos h]; simp only [eq_iff_iff]; exact ⟨fun q => absurd q (by decide), fun q => by subst q; exact absurd h (fun z => lg_lt_not z z)⟩
  · rw [if_neg h]
    by_cases e : x = y
    · rw [if_pos e]; simp [e]
    · rw [if_neg e]; simp only [eq_iff_iff]; exact ⟨fun q => absurd q (by decide), fun q => absurd q e⟩
/-- a counting loop: its end, its step -/
theorem z_for {α : Type} {P : Nat → α → Prop} (N : Nat) (hx : ∀ s, P N s) (hs : ∀ k, k < N → (∀ s, P (k + 1) s) → ∀ s, P k s) : ∀ k, k ≤ N → ∀ s, P k s := by
  have h : ∀ d k, k + d = N → ∀ s, P k s := by
    intro d
    induction d with
    | zero => intro k hk s; obtain rfl : k = N := by omega
              exact hx s
    | succ d ih => intro k hk s; exact hs k (by omega) (ih (k + 1) (by omega)) s
  intro k hk s
  exact h (N - k) k (by omega) s
theorem z_on_n {k : Nat} (h : k < 1000) : (nI k = z_ng 9) = False := eq_false fun q => by
  have h1 := congrArg Int32.toInt q
  rw [nI_toInt (by omega)] at h1
  have h2 : (z_ng 9).toInt = -9 := by decide
  omega
/-! rows of a memory, changed place by place -/
theorem z_ru {f g : Nat → Nat → Int32} {w k : Nat} {r : Nat → Int32} {x : Int32} (h : ∀ c j, f c j = if c = w then r j else g c j) : ∀ c j, z_u2 f w k x c j = if c = w then (if j = k then x else r j) else g c j := by
  intro c j
  show (if _ then _ else _) = _
  by_cases c1 : c = w
  · subst c1
    by_cases c2 : j = k
    · rw [if_pos ⟨rfl, c2⟩, if_pos rfl, if_pos c2]
    · rw [if_neg (fun q => c2 q.2), if_pos rfl, if_neg c2, h, if_pos rfl]
  · rw [if_neg (fun q => c1 q.1), if_neg c1, h, if_neg c1]
theorem z_ru0 {g : Nat → Nat → Int32} {w : Nat} : ∀ c j, g c j = if c = w then g w j else g c j := by
  intro c j
  by_cases c1 : c = w
  · rw [if_pos c1, c1]
  · rw [if_neg c1]
theorem z_rw {f g : Nat → Nat → Int32} {w : Nat} {r r' : Nat → Int32} (h : ∀ c j, f c j = if c = w then r j else g c j) (hr : ∀ j, r j = r' j) : ∀ c j, f c j = if c = w then r' j else g c j := fun c j => by rw [h, hr]
theorem z_ie {α : Type} {j k : Nat} {x y : α} (h : j = k) : (if j = k then x else y) = x := if_pos h
theorem z_in {α : Type} {j k : Nat} {x y : α} (h : j ≠ k) : (if j = k then x else y) = y := if_neg h
end
section
/-! THE MESH AS NUMBERS: s.1 = (nodes, links); s.2: 0 sort, 1 cycle, 2 phase, 3 one, 4 other, 5 slots. A row r: 0 parent, 8 cost, 16 sequence, 24 bound, 32 bound's cost, 40 loss, 49 loss back, 58 down, 67 offset, 75 margin, 76 last sequence number, 77 rounds -/
abbrev ZS : Type := (Nat × Nat) × (Nat → Nat → Int32)
abbrev ZW : Type := Nat → Int32
/-- the shape of the reference's object -/
abbrev SM (T : (Nat → Nat × Nat) × Nat × Nat) (mr : Nat → Nat → Option Nat) : Prop := (T.1 373 = (1, 7) ∧ T.1 374 = (2, 100) ∧ T.1 375 = (2, 8) ∧ T.1 376 = (2, 8) ∧ T.1 377 = (2, 8) ∧ T.1 378 = (2, 9) ∧ T.1 379 = (2, 9) ∧ T.1 380 = (2, 9) ∧ T.1 381 = (2, 78) ∧ T.1 382 = (2, 78) ∧ T.1 383 = (2, 78) ∧ T.1 384 = (2, 1092) ∧ T.1 385 = (2, 156) ∧ T.1 386 = (3, 2) ∧ T.1 387 = (2, 6) ∧ T.1 388 = (2, 6) ∧ T.1 389 = (2, 6) ∧ T.1 390 = (2, 400) ∧ T.1 391 = (2, 256) ∧ T.1 392 = (2, 8) ∧ T.1 393 = (2, 8) ∧ T.1 394 = (2, 8) ∧ T.1 395 = (2, 8) ∧ T.1 396 = (2, 9) ∧ T.1 397 = (2, 9) ∧ T.1 398 = (2, 9) ∧ T.1 399 = (2, 9) ∧ T.1 400 = (2, 9)) ∧ (mr 373 0 = some 374 ∧ mr 373 3 = some 375 ∧ mr 373 4 = some 376 ∧ mr 373 5 = some 377 ∧ mr 373 7 = some 378 ∧ mr 373 8 = some 379 ∧ mr 373 9 = some 380 ∧ mr 373 10 = some 381 ∧ mr 373 11 = some 382 ∧ mr 373 12 = some 383 ∧ mr 373 13 = some 384 ∧ mr 373 16 = some 385 ∧ mr 373 17 = some 386 ∧ mr 373 18 = some 387 ∧ mr 373 19 = some 388 ∧ mr 373 20 = some 389 ∧ mr 373 24 = some 390 ∧ mr 373 25 = some 391 ∧ mr 373 27 = some 392 ∧ mr 373 28 = some 393 ∧ mr 373 29 = some 394 ∧ mr 373 30 = some 395 ∧ mr 373 32 = some 396 ∧ mr 373 33 = some 397 ∧ mr 373 34 = some 398 ∧ mr 373 35 = some 399 ∧ mr 373 36 = some 400)
/-- the reference's mesh -/
abbrev PMs (mi : Nat → Nat → Int32) (s : ZS) : Prop := (mi 373 2 = nI s.1.1 ∧ mi 373 6 = nI s.1.2 ∧ mi 375 = s.2 0 ∧ mi 376 = s.2 1 ∧ mi 377 = s.2 2 ∧ mi 378 = s.2 3 ∧ mi 379 = s.2 4 ∧ mi 380 = s.2 5) ∧ s.1.1 ≤ 8 ∧ s.1.2 ≤ 9
def f_air (s : ZS) (r : ZW) (k : Nat) : Int32 := (nI 100 * s.2 5 k + (nI 10 - r (40 + k)) * (nI 10 - r (49 + k)) - nI 1) / ((nI 10 - r (40 + k)) * (nI 10 - r (49 + k)))
def f_is (s : ZS) (a b : Int32) (k : Nat) : Bool := (decide (s.2 3 k = a) && decide (s.2 4 k = b)) || (decide (s.2 3 k = b) && decide (s.2 4 k = a))
def f_link (s : ZS) (r : ZW) (a b : Int32) : Nat → Option Nat
  | 0 => none
  | k + 1 => if f_is s a b k && decide (r (58 + k) = 0) then some k else f_link s r a b k
def z_on : Option Nat → Int32
  | none => z_ng 9
  | some k => nI k
def f_has (x : Int32) (k : Nat) : Bool := decide (z_shr x (nI k) &&& nI 1 = nI 1)
def f_offers (s : ZS) (co : Int32) (r : ZW) (i : Nat) : Bool := if s.2 0 i = 0 then f_has co i else decide (s.2 0 i = nI 1) && decide (r i ≠ z_ng 9)
def f_offered (s : ZS) (r : ZW) (i : Nat) : Int32 := if s.2 0 i = 0 then r (67 + i) else r (8 + i)
def f_seq (s : ZS) (r : ZW) (i : Nat) : Int32 := if s.2 0 i = 0 then r 76 else r (16 + i)
def f_price (s : ZS) (co : Int32) (r : ZW) (a b : Nat) : Int32 := match f_link s r (nI a) (nI b) s.1.2 with
  | none => z_ng 9
  | some k => if f_offers s co r a then f_offered s r a + f_air s r k else z_ng 9
def f_safe (s : ZS) (r : ZW) (a b : Nat) : Bool := decide (r (24 + b) < f_seq s r a) || (decide (f_seq s r a = r (24 + b)) && decide (f_offered s r a < r (32 + b)))
def f_good (s : ZS) (co : Int32) (r : ZW) (a b : Nat) : Bool := decide (a ≠ b) && (decide (f_price s co r a b ≠ z_ng 9) && f_safe s r a b)
def f_awake (s : ZS) (rd : Int32) (i : Nat) : Bool := decide (s.2 0 i ≠ nI 2) || decide (z_rem rd (s.2 1 i) = s.2 2 i)
/-! a node's round -/
def f_par (A : ZW) (n : Nat) : Option Nat := if A n = z_ng 9 then none else some (z_ix (A n))
def f_st1 (s : ZS) (co : Int32) (A : ZW) (n : Nat) : Int32 × Int32 × Int32 := match f_par A n with
  | some p => if f_good s co A p n then (A n, f_price s co A p n, f_seq s A p) else (z_ng 9, A (8 + n), A (16 + n))
  | none => (z_ng 9, A (8 + n), A (16 + n))
def f_best (s : ZS) (co : Int32) (A : ZW) (n : Nat) : Nat → Option Nat
  | 0 => none
  | k + 1 => match f_best s co A n k with
    | none => if f_good s co A k n then some k else none
    | some b => if f_good s co A k n && decide (f_price s co A k n < f_price s co A b n) then some k else some b
def f_any (s : ZS) (co : Int32) (A : ZW) (n : Nat) : Nat → Bool
  | 0 => false
  | k + 1 => f_any s co A n k || (decide (k ≠ n) && decide (f_price s co A k n ≠ z_ng 9))
def f_st2 (s : ZS) (co : Int32) (A : ZW) (n : Nat) : Int32 × Int32 × Int32 := match f_best s co A n s.1.1 with
  | none => f_st1 s co A n
  | some b => if (f_st1 s co A n).1 = z_ng 9 ∨ f_price s co A b n + A 75 < (f_st1 s co A n).2.1 then (nI b, f_price s co A b n, f_seq s A b) else f_st1 s co A n
def f_new (s : ZS) (co : Int32) (A : ZW) (n : Nat) : Int32 × Int32 × Int32 × Int32 × Int32 :=
  if (f_st2 s co A n).1 = z_ng 9 then (z_ng 9, nI 0, nI 0, A (24 + n), A (32 + n))
  else if A (24 + n) < (f_st2 s co A n).2.2 then ((f_st2 s co A n).1, (f_st2 s co A n).2.1, (f_st2 s co A n).2.2, (f_st2 s co A n).2.2, (f_st2 s co A n).2.1)
  else if (f_st2 s co A n).2.1 < A (32 + n) then ((f_st2 s co A n).1, (f_st2 s co A n).2.1, (f_st2 s co A n).2.2, A (24 + n), (f_st2 s co A n).2.1)
  else ((f_st2 s co A n).1, (f_st2 s co A n).2.1, (f_st2 s co A n).2.2, A (24 + n), A (32 + n))
def f_ask (s : ZS) (co : Int32) (A : ZW) (n : Nat) : Bool := decide ((f_st2 s co A n).1 = z_ng 9) && f_any s co A n s.1.1
/-- node n acts in this round -/
def f_acts (s : ZS) (A : ZW) (n : Nat) : Bool := decide (¬ s.2 0 n = 0) && f_awake s (A 77) n
/-- five places of a row, of node n -/
def f_put (r : ZW) (n : Nat) (v : Int32 × Int32 × Int32 × Int32 × Int32) : ZW := fun j =>
  if j = n then v.1 else if j = 8 + n then v.2.1 else if j = 16 + n then v.2.2.1 else if j = 24 + n then v.2.2.2.1 else if j = 32 + n then v.2.2.2.2 else r j
def f_rows (s : ZS) (co : Int32) (A : ZW) : Nat → ZW
  | 0 => A
  | k + 1 => if f_acts s A k then f_put (f_rows s co A k) k (f_new s co A k) else f_rows s co A k
def f_asks (s : ZS) (co : Int32) (A : ZW) : Nat → Bool
  | 0 => false
  | k + 1 => f_asks s co A k || (f_acts s A k && f_ask s co A k)
/-- a round -/
def f_go (s : ZS) (co : Int32) (A : ZW) : ZW := fun j =>
  if j = 77 then A 77 + nI 1 else if j = 76 then A 76 + (if f_asks s co A s.1.1 then nI 1 else nI 0) else f_rows s co A s.1.1 j
def f_gos (s : ZS) (co : Int32) : Nat → ZW → ZW
  | 0, r => r
  | k + 1, r => f_gos s co k (f_go s co r)
def z_hi (r : ZW) : Prop := ∀ j, 78 ≤ j → r j = 0
/-- where a node's way ends -/
def f_end (s : ZS) (r : ZW) : Nat → Nat → Nat
  | 0, a => a
  | k + 1, a => if s.2 0 a = 0 then a else match f_par r a with
    | none => a
    | some p => f_end s r k p
def f_endOf (s : ZS) (co : Int32) (r : ZW) (i : Nat) : Option Nat := if s.2 0 (f_end s r s.1.1 i) = 0 then (if f_has co (f_end s r s.1.1 i) then some (f_end s r s.1.1 i) else none) else none
def f_reached (s : ZS) (co : Int32) (r : ZW) : Nat → Int32
  | 0 => nI 0
  | k + 1 => f_reached s co r k ||| (if (f_endOf s co r k).isSome then z_shl (nI 1) (nI k) else nI 0)
def f_load (s : ZS) (co : Int32) (r : ZW) (g : Nat) : Nat → Nat
  | 0 => 0
  | k + 1 => f_load s co r g k + (if k ≠ g ∧ f_endOf s co r k = some g then 1 else 0)
def f_those (s : ZS) (x : Int32) : Nat → Int32
  | 0 => nI 0
  | k + 1 => f_those s x k ||| (if s.2 0 k = x then z_shl (nI 1) (nI k) else nI 0)
def f_downs (r : ZW) : Nat → Int32
  | 0 => nI 0
  | k + 1 => f_downs r k ||| z_shl (r (58 + k)) (nI k)
def f_ones (x : Int32) : Nat → Int32
  | 0 => nI 0
  | k + 1 => f_ones x k + (z_shr x (nI k) &&& nI 1)
def f_pow (x : Int32) : Nat → Int32
  | 0 => nI 1
  | k + 1 => f_pow x k * x
def f_fac : Nat → Int32
  | 0 => nI 1
  | 1 => nI 1
  | k + 2 => f_fac (k + 1) * nI (k + 2)
/-- a property of a node -/
def f_par1 (s : ZS) (r : ZW) (i : Nat) : Bool := decide (¬ s.2 0 i = 0) && decide (¬ r i = z_ng 9)
def f_tell (s : ZS) (co : Int32) (r : ZW) (i : Nat) (what : Int32) : Int32 :=
  if what = nI 0 then s.2 0 i
  else if what = nI 1 then (if s.2 0 i = 0 then r (67 + i) else s.2 1 i)
  else if what = nI 2 then (if s.2 0 i = nI 2 then s.2 2 i else nI 0)
  else if what = nI 3 then (if f_par1 s r i then r i else z_ng 9)
  else if what = nI 4 then (if f_par1 s r i then r (8 + i) else z_ng 9)
  else if what = nI 5 then (if f_par1 s r i then r (16 + i) else z_ng 9)
  else if what = nI 6 then (if s.2 0 i = 0 then z_ng 9 else r (24 + i))
  else if what = nI 7 then (if s.2 0 i = 0 then z_ng 9 else r (32 + i))
  else if what = nI 8 then z_on (f_endOf s co r i)
  else if what = nI 9 then (if s.2 0 i = 0 then nI (f_load s co r i s.1.1) else z_ng 9)
  else z_ng 2
def f_linkp (s : ZS) (r : ZW) (k : Nat) (what : Int32) : Int32 :=
  if what = nI 0 then s.2 3 k
  else if what = nI 1 then s.2 4 k
  else if what = nI 2 then r (40 + k)
  else if what = nI 3 then r (49 + k)
  else if what = nI 4 then s.2 5 k
  else if what = nI 5 then f_air s r k
  else if what = nI 6 then r (58 + k)
  else z_ng 2
end
section
section
variable {l : Launch} {G : ZG} {mi : Nat → Nat → Int32} {mr : Nat → Nat → Option Nat} {ml : Nat → Nat → Int64} {T : (Nat → Nat × Nat) × Nat × Nat} {Q : ZR}
theorem z_l64 {x y : Int64} : (x < y) ↔ ¬ (y ≤ x) := by rw [Int64.lt_iff_toInt_lt, Int64.le_iff_toInt_le]; omega
theorem z_l32 {x y : Int32} : (x < y) ↔ ¬ (y ≤ x) := by rw [Int32.lt_iff_toInt_lt, Int32.le_iff_toInt_le]; omega
theorem k_in {v a b : Int64} (h : Q (some (.int (z_bi (decide (a ≤ v) && decide (v ≤ b))))) (mi, mr, ml, T)) : z_Ok l G m_Model_in [.long v, .long a, .long b] (mi, mr, ml, T) Q := by
  refine z_okN cz_103.1 (by rw [cl_103]; exact Nat.le_of_ble_eq_true rfl) cz_103.2 (z_run ck_103 4 bf_103_0 ?_)
  simp (disch := omega) only [e_q0, e_nil, e_cons, e_q, e_qf, e_qt, e_af, z_hd, z_mk1, z_lg, z_s1, z_s2, z_kl, z_en, z_kI, z_fv, z_ic, z_c1, z_sh, z_pop, z_rc, z_tgt, z_tsw, z_lsw, z_nw, z_ac, o_kI, o_kL, o_ldi, o_ldl, o_lda, o_sti, o_sta, o_stl, o_inc, o_b2, o_bz, o_l2, o_lz, o_ls, o_lneg, o_i2l, o_l2i, o_lcmp, o_dup, o_dupx1, o_dup2, o_if, o_if2, o_ifnull, o_get, o_put, o_iald, o_zald, o_aald, o_alen, o_iast, o_zast, o_aast, o_new, o_newa, o_call, o_call1, o_callN, o_obj, o_reti, o_retl, o_ret, o_tsw, o_lsw, va_rf_s, va_rf_n, z_u2_s, z_u2_k, z_u2_f, z_uR_f, z_uL_f, e_ix, e_vp, e_lt, e_le, e_eq, e_lt0, e_eq0, e_b0, e_b1, e_10, e_11, true_or, or_true, false_or, nI_add, z_bi_0, z_bi_1, e_bb, z_uR_s, z_uR_k, z_uL_s, z_uL_k, true_and, and_true, and_self, not_true_eq_false, not_false_eq_true, forall_const, Option.toList, List.cons_append, List.nil_append, List.singleton_append, Nat.reduceAdd, Nat.zero_add, Nat.add_zero, Nat.reduceEqDiff, ↓reduceIte, ite_true, ite_false, reduceCtorEq, Int.cast_ofNat_Int, Int.reduceAdd, Int.reduceToNat, ne_eq, false_imp_iff, true_imp_iff, cl_103, bf_103_0, bf_103_17, bf_103_18, bo_103_0, bo_103_17, bo_103_18, lg_lt, lg_gt]
  refine ⟨fun c => z_f0 h ?_, fun c => ⟨fun d => z_f0 h ?_, fun d => z_f1 h ?_⟩⟩
  · simp [z_l64.mp c]
  · simp [z_l64.mp d]
  · rw [z_l64, Classical.not_not] at c d; simp [c, d]
theorem k_has {x : Int32} {k : Nat} (h : Q (some (.int (z_bi (f_has x k)))) (mi, mr, ml, T)) : z_Ok l G m_Model_has [.int x, .int (nI k)] (mi, mr, ml, T) Q := by
  refine z_okN cz_104.1 (by rw [cl_104]; exact Nat.le_of_ble_eq_true rfl) cz_104.2 (z_run ck_104 4 bf_104_0 ?_)
  simp (disch := omega) only [e_q0, e_nil, e_cons, e_q, e_qf, e_qt, e_af, z_hd, z_mk1, z_lg, z_s1, z_s2, z_kl, z_en, z_kI, z_fv, z_ic, z_c1, z_sh, z_pop, z_rc, z_tgt, z_tsw, z_lsw, z_nw, z_ac, o_kI, o_kL, o_ldi, o_ldl, o_lda, o_sti, o_sta, o_stl, o_inc, o_b2, o_bz, o_l2, o_lz, o_ls, o_lneg, o_i2l, o_l2i, o_lcmp, o_dup, o_dupx1, o_dup2, o_if, o_if2, o_ifnull, o_get, o_put, o_iald, o_zald, o_aald, o_alen, o_iast, o_zast, o_aast, o_new, o_newa, o_call, o_call1, o_callN, o_obj, o_reti, o_retl, o_ret, o_tsw, o_lsw, va_rf_s, va_rf_n, z_u2_s, z_u2_k, z_u2_f, z_uR_f, z_uL_f, e_ix, e_vp, e_lt, e_le, e_eq, e_lt0, e_eq0, e_b0, e_b1, e_10, e_11, true_or, or_true, false_or, nI_add, z_bi_0, z_bi_1, e_bb, z_uR_s, z_uR_k, z_uL_s, z_uL_k, true_and, and_true, and_self, not_true_eq_false, not_false_eq_true, forall_const, Option.toList, List.cons_append, List.nil_append, List.singleton_append, Nat.reduceAdd, Nat.zero_add, Nat.add_zero, Nat.reduceEqDiff, ↓reduceIte, ite_true, ite_false, reduceCtorEq, Int.cast_ofNat_Int, Int.reduceAdd, Int.reduceToNat, ne_eq, false_imp_iff, true_imp_iff, cl_104, bf_104_0, bf_104_13, bf_104_14, bo_104_0, bo_104_13, bo_104_14]
  refine ⟨fun c => z_f1 h ?_, fun c => z_f0 h ?_⟩ <;> simp_all [f_has]
theorem k_copy {a b : Nat} (ha : T.1 a = (2, 78)) (hb : T.1 b = (2, 78)) (hab : a ≠ b) (h : ∀ f, (∀ c j, f c j = if c = b ∧ j < 78 then mi a j else mi c j) → Q none (f, mr, ml, T)) : z_Ok l G m_Model_copy [.ref a, .ref b] (mi, mr, ml, T) Q := by
  refine z_okN cz_102.1 (by rw [cl_102]; exact Nat.le_of_ble_eq_true rfl) cz_102.2 (z_run ck_102 3 bf_102_0 ?_)
  simp (disch := omega) only [e_q0, e_nil, e_cons, e_q, e_qf, e_qt, e_af, z_hd, z_mk1, z_lg, z_s1, z_s2, z_kl, z_en, z_kI, z_fv, z_ic, z_c1, z_sh, z_pop, z_rc, z_tgt, z_tsw, z_lsw, z_nw, z_ac, o_kI, o_kL, o_ldi, o_ldl, o_lda, o_sti, o_sta, o_stl, o_inc, o_b2, o_bz, o_l2, o_lz, o_ls, o_lneg, o_i2l, o_l2i, o_lcmp, o_dup, o_dupx1, o_dup2, o_if, o_if2, o_ifnull, o_get, o_put, o_iald, o_zald, o_aald, o_alen, o_iast, o_zast, o_aast, o_new, o_newa, o_call, o_call1, o_callN, o_obj, o_reti, o_retl, o_ret, o_tsw, o_lsw, va_rf_s, va_rf_n, z_u2_s, z_u2_k, z_u2_f, z_uR_f, z_uL_f, e_ix, e_vp, e_lt, e_le, e_eq, e_lt0, e_eq0, e_b0, e_b1, e_10, e_11, true_or, or_true, false_or, nI_add, z_bi_0, z_bi_1, e_bb, z_uR_s, z_uR_k, z_uL_s, z_uL_k, true_and, and_true, and_self, not_true_eq_false, not_false_eq_true, forall_const, Option.toList, List.cons_append, List.nil_append, List.singleton_append, Nat.reduceAdd, Nat.zero_add, Nat.add_zero, Nat.reduceEqDiff, ↓reduceIte, ite_true, ite_false, reduceCtorEq, Int.cast_ofNat_Int, Int.reduceAdd, Int.reduceToNat, ne_eq, false_imp_iff, true_imp_iff, cl_102, bf_102_0, bf_102_2, bf_102_20, bo_102_0, bo_102_2, bo_102_20]
  refine z_for (P := fun k f => (∀ c j, f c j = if c = b ∧ j < k then mi a j else mi c j) → z_W l G 102 (T.2.1, T.2.2) (fun v M' => Q v M' ∧ M'.2.2.2 = T) 2 [some (.ref a), some (.ref b), some (.int (nI k))] [] (f, mr, ml, T)) 78 (fun f hf => ?_) (fun k hk ih f hf => ?_) 0 (by omega) mi (fun c j => by simp)
  · refine z_run ck_102 3 bf_102_2 ?_
    simp (disch := omega) only [e_q0, e_nil, e_cons, e_q, e_qf, e_qt, e_af, z_hd, z_mk1, z_lg, z_s1, z_s2, z_kl, z_en, z_kI, z_fv, z_ic, z_c1, z_sh, z_pop, z_rc, z_tgt, z_tsw, z_lsw, z_nw, z_ac, o_kI, o_kL, o_ldi, o_ldl, o_lda, o_sti, o_sta, o_stl, o_inc, o_b2, o_bz, o_l2, o_lz, o_ls, o_lneg, o_i2l, o_l2i, o_lcmp, o_dup, o_dupx1, o_dup2, o_if, o_if2, o_ifnull, o_get, o_put, o_iald, o_zald, o_aald, o_alen, o_iast, o_zast, o_aast, o_new, o_newa, o_call, o_call1, o_callN, o_obj, o_reti, o_retl, o_ret, o_tsw, o_lsw, va_rf_s, va_rf_n, z_u2_s, z_u2_k, z_u2_f, z_uR_f, z_uL_f, e_ix, e_vp, e_lt, e_le, e_eq, e_lt0, e_eq0, e_b0, e_b1, e_10, e_11, true_or, or_true, false_or, nI_add, z_bi_0, z_bi_1, e_bb, z_uR_s, z_uR_k, z_uL_s, z_uL_k, true_and, and_true, and_self, not_true_eq_false, not_false_eq_true, forall_const, Option.toList, List.cons_append, List.nil_append, List.singleton_append, Nat.reduceAdd, Nat.zero_add, Nat.add_zero, Nat.reduceEqDiff, ↓reduceIte, ite_true, ite_false, reduceCtorEq, Int.cast_ofNat_Int, Int.reduceAdd, Int.reduceToNat, ne_eq, false_imp_iff, true_imp_iff, cl_102, bf_102_0, bf_102_2, bf_102_20, bo_102_0, bo_102_2, bo_102_20, ha, hb, Nat.le_refl]
    exact h f hf
  · refine z_run ck_102 3 bf_102_2 ?_
    simp (disch := omega) only [e_q0, e_nil, e_cons, e_q, e_qf, e_qt, e_af, z_hd, z_mk1, z_lg, z_s1, z_s2, z_kl, z_en, z_kI, z_fv, z_ic, z_c1, z_sh, z_pop, z_rc, z_tgt, z_tsw, z_lsw, z_nw, z_ac, o_kI, o_kL, o_ldi, o_ldl, o_lda, o_sti, o_sta, o_stl, o_inc, o_b2, o_bz, o_l2, o_lz, o_ls, o_lneg, o_i2l, o_l2i, o_lcmp, o_dup, o_dupx1, o_dup2, o_if, o_if2, o_ifnull, o_get, o_put, o_iald, o_zald, o_aald, o_alen, o_iast, o_zast, o_aast, o_new, o_newa, o_call, o_call1, o_callN, o_obj, o_reti, o_retl, o_ret, o_tsw, o_lsw, va_rf_s, va_rf_n, z_u2_s, z_u2_k, z_u2_f, z_uR_f, z_uL_f, e_ix, e_vp, e_lt, e_le, e_eq, e_lt0, e_eq0, e_b0, e_b1, e_10, e_11, true_or, or_true, false_or, nI_add, z_bi_0, z_bi_1, e_bb, z_uR_s, z_uR_k, z_uL_s, z_uL_k, true_and, and_true, and_self, not_true_eq_false, not_false_eq_true, forall_const, Option.toList, List.cons_append, List.nil_append, List.singleton_append, Nat.reduceAdd, Nat.zero_add, Nat.add_zero, Nat.reduceEqDiff, ↓reduceIte, ite_true, ite_false, reduceCtorEq, Int.cast_ofNat_Int, Int.reduceAdd, Int.reduceToNat, ne_eq, false_imp_iff, true_imp_iff, cl_102, bf_102_0, bf_102_2, bf_102_20, bo_102_0, bo_102_2, bo_102_20, ha, hb]
    refine ⟨fun q => absurd q (by omega), fun _ => ih _ fun c j => ?_⟩
    simp only [z_u2, hf]
    by_cases c1 : c = b ∧ j = k
    · obtain ⟨rfl, rfl⟩ := c1
      simp [hab]
    · rw [if_neg c1]
      by_cases c2 : c = b
      · simp [c2] at c1 ⊢
        by_cases c3 : j < k
        · rw [if_pos c3, if_pos (by omega)]
        · rw [if_neg c3, if_neg (by omega)]
      · simp [c2]
theorem k_airtime {s : ZS} {w k : Nat} (hS : SM T mr) (hs : PMs mi s) (hw : T.1 w = (2, 78)) (hk : k < 9) (h0 : ¬ (nI 10 - mi w (40 + k)) * (nI 10 - mi w (49 + k)) = 0) (h : Q (some (.int (f_air s (mi w) k))) (mi, mr, ml, T)) : z_Ok l G m_Model_airtime [.ref 373, .ref w, .int (nI k)] (mi, mr, ml, T) Q := by
  refine z_okN cz_125.1 (by rw [cl_125]; exact Nat.le_of_ble_eq_true rfl) cz_125.2 (z_run ck_125 2 bf_125_0 ?_)
  simp (disch := omega) only [e_q0, e_nil, e_cons, e_q, e_qf, e_qt, e_af, z_hd, z_mk1, z_lg, z_s1, z_s2, z_kl, z_en, z_kI, z_fv, z_ic, z_c1, z_sh, z_pop, z_rc, z_tgt, z_tsw, z_lsw, z_nw, z_ac, o_kI, o_kL, o_ldi, o_ldl, o_lda, o_sti, o_sta, o_stl, o_inc, o_b2, o_bz, o_l2, o_lz, o_ls, o_lneg, o_i2l, o_l2i, o_lcmp, o_dup, o_dupx1, o_dup2, o_if, o_if2, o_ifnull, o_get, o_put, o_iald, o_zald, o_aald, o_alen, o_iast, o_zast, o_aast, o_new, o_newa, o_call, o_call1, o_callN, o_obj, o_reti, o_retl, o_ret, o_tsw, o_lsw, va_rf_s, va_rf_n, z_u2_s, z_u2_k, z_u2_f, z_uR_f, z_uL_f, e_ix, e_vp, e_lt, e_le, e_eq, e_lt0, e_eq0, e_b0, e_b1, e_10, e_11, true_or, or_true, false_or, nI_add, z_bi_0, z_bi_1, e_bb, z_uR_s, z_uR_k, z_uL_s, z_uL_k, true_and, and_true, and_self, not_true_eq_false, not_false_eq_true, forall_const, Option.toList, List.cons_append, List.nil_append, List.singleton_append, Nat.reduceAdd, Nat.zero_add, Nat.add_zero, Nat.reduceEqDiff, ↓reduceIte, ite_true, ite_false, reduceCtorEq, Int.cast_ofNat_Int, Int.reduceAdd, Int.reduceToNat, ne_eq, false_imp_iff, true_imp_iff, cl_125, bf_125_0, bo_125_0, hS, hs, hw]
  exact ⟨h0, h⟩
theorem k_linkOf {s : ZS} {w : Nat} {a b : Int32} (hS : SM T mr) (hs : PMs mi s) (hw : T.1 w = (2, 78)) (h : Q (some (.int (z_on (f_link s (mi w) a b s.1.2)))) (mi, mr, ml, T)) : z_Ok l G m_Model_linkOf [.ref 373, .ref w, .int a, .int b] (mi, mr, ml, T) Q := by
  have h8 := hs.2
  refine z_okN cz_126.1 (by rw [cl_126]; exact Nat.le_of_ble_eq_true rfl) cz_126.2 (z_run ck_126 9 bf_126_0 ?_)
  simp (disch := omega) only [e_q0, e_nil, e_cons, e_q, e_qf, e_qt, e_af, z_hd, z_mk1, z_lg, z_s1, z_s2, z_kl, z_en, z_kI, z_fv, z_ic, z_c1, z_sh, z_pop, z_rc, z_tgt, z_tsw, z_lsw, z_nw, z_ac, o_kI, o_kL, o_ldi, o_ldl, o_lda, o_sti, o_sta, o_stl, o_inc, o_b2, o_bz, o_l2, o_lz, o_ls, o_lneg, o_i2l, o_l2i, o_lcmp, o_dup, o_dupx1, o_dup2, o_if, o_if2, o_ifnull, o_get, o_put, o_iald, o_zald, o_aald, o_alen, o_iast, o_zast, o_aast, o_new, o_newa, o_call, o_call1, o_callN, o_obj, o_reti, o_retl, o_ret, o_tsw, o_lsw, va_rf_s, va_rf_n, z_u2_s, z_u2_k, z_u2_f, z_uR_f, z_uL_f, e_ix, e_vp, e_lt, e_le, e_eq, e_lt0, e_eq0, e_b0, e_b1, e_10, e_11, true_or, or_true, false_or, nI_add, z_bi_0, z_bi_1, e_bb, z_uR_s, z_uR_k, z_uL_s, z_uL_k, true_and, and_true, and_self, not_true_eq_false, not_false_eq_true, forall_const, Option.toList, List.cons_append, List.nil_append, List.singleton_append, Nat.reduceAdd, Nat.zero_add, Nat.add_zero, Nat.reduceEqDiff, ↓reduceIte, ite_true, ite_false, reduceCtorEq, Int.cast_ofNat_Int, Int.reduceAdd, Int.reduceToNat, ne_eq, false_imp_iff, true_imp_iff, cl_126, bf_126_0, bf_126_7, bf_126_38, bf_126_60, bf_126_64, bf_126_65, bf_126_87, bf_126_89, bf_126_97, bo_126_0, bo_126_7, bo_126_38, bo_126_60, bo_126_64, bo_126_65, bo_126_87, bo_126_89, bo_126_97]
  refine z_for (P := fun k (_ : Unit) => z_W l G 126 (T.2.1, T.2.2) (fun v M' => Q v M' ∧ M'.2.2.2 = T) 7 [some (.ref 373), some (.ref w), some (.int a), some (.int b), some (.int (z_on (f_link s (mi w) a b k))), some (.int (nI k)), none] [] (mi, mr, ml, T)) s.1.2 (fun _ => ?_) (fun k hk ih _ => ?_) 0 (by omega) ()
  · refine z_run ck_126 9 bf_126_7 ?_
    simp (disch := omega) only [e_q0, e_nil, e_cons, e_q, e_qf, e_qt, e_af, z_hd, z_mk1, z_lg, z_s1, z_s2, z_kl, z_en, z_kI, z_fv, z_ic, z_c1, z_sh, z_pop, z_rc, z_tgt, z_tsw, z_lsw, z_nw, z_ac, o_kI, o_kL, o_ldi, o_ldl, o_lda, o_sti, o_sta, o_stl, o_inc, o_b2, o_bz, o_l2, o_lz, o_ls, o_lneg, o_i2l, o_l2i, o_lcmp, o_dup, o_dupx1, o_dup2, o_if, o_if2, o_ifnull, o_get, o_put, o_iald, o_zald, o_aald, o_alen, o_iast, o_zast, o_aast, o_new, o_newa, o_call, o_call1, o_callN, o_obj, o_reti, o_retl, o_ret, o_tsw, o_lsw, va_rf_s, va_rf_n, z_u2_s, z_u2_k, z_u2_f, z_uR_f, z_uL_f, e_ix, e_vp, e_lt, e_le, e_eq, e_lt0, e_eq0, e_b0, e_b1, e_10, e_11, true_or, or_true, false_or, nI_add, z_bi_0, z_bi_1, e_bb, z_uR_s, z_uR_k, z_uL_s, z_uL_k, true_and, and_true, and_self, not_true_eq_false, not_false_eq_true, forall_const, Option.toList, List.cons_append, List.nil_append, List.singleton_append, Nat.reduceAdd, Nat.zero_add, Nat.add_zero, Nat.reduceEqDiff, ↓reduceIte, ite_true, ite_false, reduceCtorEq, Int.cast_ofNat_Int, Int.reduceAdd, Int.reduceToNat, ne_eq, false_imp_iff, true_imp_iff, cl_126, bf_126_0, bf_126_7, bf_126_38, bf_126_60, bf_126_64, bf_126_65, bf_126_87, bf_126_89, bf_126_97, bo_126_0, bo_126_7, bo_126_38, bo_126_60, bo_126_64, bo_126_65, bo_126_87, bo_126_89, bo_126_97, hS, hs, hw, Nat.le_refl]
    exact h
  · refine z_run ck_126 9 bf_126_7 ?_
    simp (disch := omega) only [e_q0, e_nil, e_cons, e_q, e_qf, e_qt, e_af, z_hd, z_mk1, z_lg, z_s1, z_s2, z_kl, z_en, z_kI, z_fv, z_ic, z_c1, z_sh, z_pop, z_rc, z_tgt, z_tsw, z_lsw, z_nw, z_ac, o_kI, o_kL, o_ldi, o_ldl, o_lda, o_sti, o_sta, o_stl, o_inc, o_b2, o_bz, o_l2, o_lz, o_ls, o_lneg, o_i2l, o_l2i, o_lcmp, o_dup, o_dupx1, o_dup2, o_if, o_if2, o_ifnull, o_get, o_put, o_iald, o_zald, o_aald, o_alen, o_iast, o_zast, o_aast, o_new, o_newa, o_call, o_call1, o_callN, o_obj, o_reti, o_retl, o_ret, o_tsw, o_lsw, va_rf_s, va_rf_n, z_u2_s, z_u2_k, z_u2_f, z_uR_f, z_uL_f, e_ix, e_vp, e_lt, e_le, e_eq, e_lt0, e_eq0, e_b0, e_b1, e_10, e_11, true_or, or_true, false_or, nI_add, z_bi_0, z_bi_1, e_bb, z_uR_s, z_uR_k, z_uL_s, z_uL_k, true_and, and_true, and_self, not_true_eq_false, not_false_eq_true, forall_const, Option.toList, List.cons_append, List.nil_append, List.singleton_append, Nat.reduceAdd, Nat.zero_add, Nat.add_zero, Nat.reduceEqDiff, ↓reduceIte, ite_true, ite_false, reduceCtorEq, Int.cast_ofNat_Int, Int.reduceAdd, Int.reduceToNat, ne_eq, false_imp_iff, true_imp_iff, cl_126, bf_126_0, bf_126_7, bf_126_38, bf_126_60, bf_126_64, bf_126_65, bf_126_87, bf_126_89, bf_126_97, bo_126_0, bo_126_7, bo_126_38, bo_126_60, bo_126_64, bo_126_65, bo_126_87, bo_126_89, bo_126_97, hS, hs, hw, Nat.not_le.mpr, hk]
    have hi := ih ()
    simp only [f_link, f_is] at hi
    rcases Classical.propComplete (s.2 3 k = a) with c1 | c1 <;> rcases Classical.propComplete (s.2 4 k = b) with c2 | c2 <;> rcases Classical.propComplete (s.2 3 k = b) with c3 | c3 <;> rcases Classical.propComplete (s.2 4 k = a) with c4 | c4 <;> rcases Classical.propComplete (mi w (58 + k) = 0) with c5 | c5 <;> simp only [c1, c2, c3, c4, c5, z_on, decide_true, decide_false, Bool.and_true, Bool.and_false, Bool.true_and, Bool.false_and, Bool.or_true, Bool.or_false, Bool.true_or, Bool.false_or, Bool.not_true, Bool.not_false, if_true, if_false, true_imp_iff, false_imp_iff, not_true_eq_false, not_false_eq_true, and_true, true_and, and_self, Bool.false_eq_true, Bool.true_eq_false, reduceCtorEq, ite_true, ite_false, ↓reduceIte, implies_true, ne_eq] at hi ⊢ <;> exact hi
theorem k_offers {s : ZS} {w i : Nat} (hS : SM T mr) (hs : PMs mi s) (hw : T.1 w = (2, 78)) (hi : i < 8) (h : Q (some (.int (z_bi (f_offers s (mi 373 23) (mi w) i)))) (mi, mr, ml, T)) : z_Ok l G m_Model_offers [.ref 373, .ref w, .int (nI i)] (mi, mr, ml, T) Q := by
  refine z_okN cz_127.1 (by rw [cl_127]; exact Nat.le_of_ble_eq_true rfl) cz_127.2 (z_run ck_127 5 bf_127_0 ?_)
  simp (disch := omega) only [e_q0, e_nil, e_cons, e_q, e_qf, e_qt, e_af, z_hd, z_mk1, z_lg, z_s1, z_s2, z_kl, z_en, z_kI, z_fv, z_ic, z_c1, z_sh, z_pop, z_rc, z_tgt, z_tsw, z_lsw, z_nw, z_ac, o_kI, o_kL, o_ldi, o_ldl, o_lda, o_sti, o_sta, o_stl, o_inc, o_b2, o_bz, o_l2, o_lz, o_ls, o_lneg, o_i2l, o_l2i, o_lcmp, o_dup, o_dupx1, o_dup2, o_if, o_if2, o_ifnull, o_get, o_put, o_iald, o_zald, o_aald, o_alen, o_iast, o_zast, o_aast, o_new, o_newa, o_call, o_call1, o_callN, o_obj, o_reti, o_retl, o_ret, o_tsw, o_lsw, va_rf_s, va_rf_n, z_u2_s, z_u2_k, z_u2_f, z_uR_f, z_uL_f, e_ix, e_vp, e_lt, e_le, e_eq, e_lt0, e_eq0, e_b0, e_b1, e_10, e_11, true_or, or_true, false_or, nI_add, z_bi_0, z_bi_1, e_bb, z_uR_s, z_uR_k, z_uL_s, z_uL_k, true_and, and_true, and_self, not_true_eq_false, not_false_eq_true, forall_const, Option.toList, List.cons_append, List.nil_append, List.singleton_append, Nat.reduceAdd, Nat.zero_add, Nat.add_zero, Nat.reduceEqDiff, ↓reduceIte, ite_true, ite_false, reduceCtorEq, Int.cast_ofNat_Int, Int.reduceAdd, Int.reduceToNat, ne_eq, false_imp_iff, true_imp_iff, cl_127, bf_127_0, bf_127_20, bf_127_44, bf_127_45, bo_127_0, bo_127_20, bo_127_44, bo_127_45, hS, hs, hw]
  unfold f_offers at h
  refine ⟨fun c1 => k_has ?_, fun c1 => ?_⟩
  · simp (disch := omega) only [e_q0, e_nil, e_cons, e_q, e_qf, e_qt, e_af, z_hd, z_mk1, z_lg, z_s1, z_s2, z_kl, z_en, z_kI, z_fv, z_ic, z_c1, z_sh, z_pop, z_rc, z_tgt, z_tsw, z_lsw, z_nw, z_ac, o_kI, o_kL, o_ldi, o_ldl, o_lda, o_sti, o_sta, o_stl, o_inc, o_b2, o_bz, o_l2, o_lz, o_ls, o_lneg, o_i2l, o_l2i, o_lcmp, o_dup, o_dupx1, o_dup2, o_if, o_if2, o_ifnull, o_get, o_put, o_iald, o_zald, o_aald, o_alen, o_iast, o_zast, o_aast, o_new, o_newa, o_call, o_call1, o_callN, o_obj, o_reti, o_retl, o_ret, o_tsw, o_lsw, va_rf_s, va_rf_n, z_u2_s, z_u2_k, z_u2_f, z_uR_f, z_uL_f, e_ix, e_vp, e_lt, e_le, e_eq, e_lt0, e_eq0, e_b0, e_b1, e_10, e_11, true_or, or_true, false_or, nI_add, z_bi_0, z_bi_1, e_bb, z_uR_s, z_uR_k, z_uL_s, z_uL_k, true_and, and_true, and_self, not_true_eq_false, not_false_eq_true, forall_const, Option.toList, List.cons_append, List.nil_append, List.singleton_append, Nat.reduceAdd, Nat.zero_add, Nat.add_zero, Nat.reduceEqDiff, ↓reduceIte, ite_true, ite_false, reduceCtorEq, Int.cast_ofNat_Int, Int.reduceAdd, Int.reduceToNat, ne_eq, false_imp_iff, true_imp_iff, cl_127, bf_127_0, bf_127_20, bf_127_44, bf_127_45, bo_127_0, bo_127_20, bo_127_44, bo_127_45, z_bi_0]
    rw [if_pos c1] at h
    exact h
  · rw [if_neg c1] at h
    exact ⟨fun c2 => ⟨fun c3 => z_f0 h (by rw [c3]; simp), fun c3 => z_f1 h (by simp [c2, c3])⟩, fun c2 => z_f0 h (by simp [c2])⟩
theorem k_offered {s : ZS} {w i : Nat} (hS : SM T mr) (hs : PMs mi s) (hw : T.1 w = (2, 78)) (hi : i < 8) (h : Q (some (.int (f_offered s (mi w) i))) (mi, mr, ml, T)) : z_Ok l G m_Model_offered [.ref 373, .ref w, .int (nI i)] (mi, mr, ml, T) Q := by
  refine z_okN cz_128.1 (by rw [cl_128]; exact Nat.le_of_ble_eq_true rfl) cz_128.2 (z_run ck_128 4 bf_128_0 ?_)
  simp (disch := omega) only [e_q0, e_nil, e_cons, e_q, e_qf, e_qt, e_af, z_hd, z_mk1, z_lg, z_s1, z_s2, z_kl, z_en, z_kI, z_fv, z_ic, z_c1, z_sh, z_pop, z_rc, z_tgt, z_tsw, z_lsw, z_nw, z_ac, o_kI, o_kL, o_ldi, o_ldl, o_lda, o_sti, o_sta, o_stl, o_inc, o_b2, o_bz, o_l2, o_lz, o_ls, o_lneg, o_i2l, o_l2i, o_lcmp, o_dup, o_dupx1, o_dup2, o_if, o_if2, o_ifnull, o_get, o_put, o_iald, o_zald, o_aald, o_alen, o_iast, o_zast, o_aast, o_new, o_newa, o_call, o_call1, o_callN, o_obj, o_reti, o_retl, o_ret, o_tsw, o_lsw, va_rf_s, va_rf_n, z_u2_s, z_u2_k, z_u2_f, z_uR_f, z_uL_f, e_ix, e_vp, e_lt, e_le, e_eq, e_lt0, e_eq0, e_b0, e_b1, e_10, e_11, true_or, or_true, false_or, nI_add, z_bi_0, z_bi_1, e_bb, z_uR_s, z_uR_k, z_uL_s, z_uL_k, true_and, and_true, and_self, not_true_eq_false, not_false_eq_true, forall_const, Option.toList, List.cons_append, List.nil_append, List.singleton_append, Nat.reduceAdd, Nat.zero_add, Nat.add_zero, Nat.reduceEqDiff, ↓reduceIte, ite_true, ite_false, reduceCtorEq, Int.cast_ofNat_Int, Int.reduceAdd, Int.reduceToNat, ne_eq, false_imp_iff, true_imp_iff, cl_128, bf_128_0, bf_128_18, bf_128_24, bo_128_0, bo_128_18, bo_128_24, hS, hs, hw]
  unfold f_offered at h
  exact ⟨fun c => by rw [if_pos c] at h; exact h, fun c => by rw [if_neg c] at h; exact h⟩
theorem k_sequenceOf {s : ZS} {w i : Nat} (hS : SM T mr) (hs : PMs mi s) (hw : T.1 w = (2, 78)) (hi : i < 8) (h : Q (some (.int (f_seq s (mi w) i))) (mi, mr, ml, T)) : z_Ok l G m_Model_sequenceOf [.ref 373, .ref w, .int (nI i)] (mi, mr, ml, T) Q := by
  refine z_okN cz_129.1 (by rw [cl_129]; exact Nat.le_of_ble_eq_true rfl) cz_129.2 (z_run ck_129 4 bf_129_0 ?_)
  simp (disch := omega) only [e_q0, e_nil, e_cons, e_q, e_qf, e_qt, e_af, z_hd, z_mk1, z_lg, z_s1, z_s2, z_kl, z_en, z_kI, z_fv, z_ic, z_c1, z_sh, z_pop, z_rc, z_tgt, z_tsw, z_lsw, z_nw, z_ac, o_kI, o_kL, o_ldi, o_ldl, o_lda, o_sti, o_sta, o_stl, o_inc, o_b2, o_bz, o_l2, o_lz, o_ls, o_lneg, o_i2l, o_l2i, o_lcmp, o_dup, o_dupx1, o_dup2, o_if, o_if2, o_ifnull, o_get, o_put, o_iald, o_zald, o_aald, o_alen, o_iast, o_zast, o_aast, o_new, o_newa, o_call, o_call1, o_callN, o_obj, o_reti, o_retl, o_ret, o_tsw, o_lsw, va_rf_s, va_rf_n, z_u2_s, z_u2_k, z_u2_f, z_uR_f, z_uL_f, e_ix, e_vp, e_lt, e_le, e_eq, e_lt0, e_eq0, e_b0, e_b1, e_10, e_11, true_or, or_true, false_or, nI_add, z_bi_0, z_bi_1, e_bb, z_uR_s, z_uR_k, z_uL_s, z_uL_k, true_and, and_true, and_self, not_true_eq_false, not_false_eq_true, forall_const, Option.toList, List.cons_append, List.nil_append, List.singleton_append, Nat.reduceAdd, Nat.zero_add, Nat.add_zero, Nat.reduceEqDiff, ↓reduceIte, ite_true, ite_false, reduceCtorEq, Int.cast_ofNat_Int, Int.reduceAdd, Int.reduceToNat, ne_eq, false_imp_iff, true_imp_iff, cl_129, bf_129_0, bf_129_16, bf_129_22, bo_129_0, bo_129_16, bo_129_22, hS, hs, hw]
  unfold f_seq at h
  exact ⟨fun c => by rw [if_pos c] at h; exact h, fun c => by rw [if_neg c] at h; exact h⟩
theorem f_link_lt {s : ZS} {r : ZW} {a b : Int32} : ∀ n k, f_link s r a b n = some k → k < n
  | 0, k, h => by simp [f_link] at h
  | n + 1, k, h => by
    unfold f_link at h
    split at h
    · cases h; omega
    · have := f_link_lt n k h; omega
/-- no airtime divides by 0 -/
def f_pos (s : ZS) (r : ZW) : Prop := ∀ k, k < s.1.2 → ¬ (nI 10 - r (40 + k)) * (nI 10 - r (49 + k)) = 0
theorem k_priceOf {s : ZS} {w a b : Nat} (hS : SM T mr) (hs : PMs mi s) (hw : T.1 w = (2, 78)) (h0 : f_pos s (mi w)) (ha : a < 8) (h : Q (some (.int (f_price s (mi 373 23) (mi w) a b))) (mi, mr, ml, T)) : z_Ok l G m_Model_priceOf [.ref 373, .ref w, .int (nI a), .int (nI b)] (mi, mr, ml, T) Q := by
  have h8 := hs.2
  refine z_okN cz_130.1 (by rw [cl_130]; exact Nat.le_of_ble_eq_true rfl) cz_130.2 (z_run ck_130 5 bf_130_0 ?_)
  simp (disch := omega) only [e_q0, e_nil, e_cons, e_q, e_qf, e_qt, e_af, z_hd, z_mk1, z_lg, z_s1, z_s2, z_kl, z_en, z_kI, z_fv, z_ic, z_c1, z_sh, z_pop, z_rc, z_tgt, z_tsw, z_lsw, z_nw, z_ac, o_kI, o_kL, o_ldi, o_ldl, o_lda, o_sti, o_sta, o_stl, o_inc, o_b2, o_bz, o_l2, o_lz, o_ls, o_lneg, o_i2l, o_l2i, o_lcmp, o_dup, o_dupx1, o_dup2, o_if, o_if2, o_ifnull, o_get, o_put, o_iald, o_zald, o_aald, o_alen, o_iast, o_zast, o_aast, o_new, o_newa, o_call, o_call1, o_callN, o_obj, o_reti, o_retl, o_ret, o_tsw, o_lsw, va_rf_s, va_rf_n, z_u2_s, z_u2_k, z_u2_f, z_uR_f, z_uL_f, e_ix, e_vp, e_lt, e_le, e_eq, e_lt0, e_eq0, e_b0, e_b1, e_10, e_11, true_or, or_true, false_or, nI_add, z_bi_0, z_bi_1, e_bb, z_uR_s, z_uR_k, z_uL_s, z_uL_k, true_and, and_true, and_self, not_true_eq_false, not_false_eq_true, forall_const, Option.toList, List.cons_append, List.nil_append, List.singleton_append, Nat.reduceAdd, Nat.zero_add, Nat.add_zero, Nat.reduceEqDiff, ↓reduceIte, ite_true, ite_false, reduceCtorEq, Int.cast_ofNat_Int, Int.reduceAdd, Int.reduceToNat, ne_eq, false_imp_iff, true_imp_iff, cl_130, bf_130_0, bf_130_25, bf_130_30, bf_130_44, bo_130_0, bo_130_25, bo_130_30, bo_130_44, hS, hs, hw]
  refine k_linkOf hS hs hw ?_
  unfold f_price at h
  cases hq : f_link s (mi w) (nI a) (nI b) s.1.2 with
  | none =>
    rw [hq] at h
    simp (disch := omega) only [e_q0, e_nil, e_cons, e_q, e_qf, e_qt, e_af, z_hd, z_mk1, z_lg, z_s1, z_s2, z_kl, z_en, z_kI, z_fv, z_ic, z_c1, z_sh, z_pop, z_rc, z_tgt, z_tsw, z_lsw, z_nw, z_ac, o_kI, o_kL, o_ldi, o_ldl, o_lda, o_sti, o_sta, o_stl, o_inc, o_b2, o_bz, o_l2, o_lz, o_ls, o_lneg, o_i2l, o_l2i, o_lcmp, o_dup, o_dupx1, o_dup2, o_if, o_if2, o_ifnull, o_get, o_put, o_iald, o_zald, o_aald, o_alen, o_iast, o_zast, o_aast, o_new, o_newa, o_call, o_call1, o_callN, o_obj, o_reti, o_retl, o_ret, o_tsw, o_lsw, va_rf_s, va_rf_n, z_u2_s, z_u2_k, z_u2_f, z_uR_f, z_uL_f, e_ix, e_vp, e_lt, e_le, e_eq, e_lt0, e_eq0, e_b0, e_b1, e_10, e_11, true_or, or_true, false_or, nI_add, z_bi_0, z_bi_1, e_bb, z_uR_s, z_uR_k, z_uL_s, z_uL_k, true_and, and_true, and_self, not_true_eq_false, not_false_eq_true, forall_const, Option.toList, List.cons_append, List.nil_append, List.singleton_append, Nat.reduceAdd, Nat.zero_add, Nat.add_zero, Nat.reduceEqDiff, ↓reduceIte, ite_true, ite_false, reduceCtorEq, Int.cast_ofNat_Int, Int.reduceAdd, Int.reduceToNat, ne_eq, false_imp_iff, true_imp_iff, cl_130, bf_130_0, bf_130_25, bf_130_30, bf_130_44, bo_130_0, bo_130_25, bo_130_30, bo_130_44, hS, hs, hw, z_on]
    exact h
  | some k =>
    have hk := f_link_lt _ _ hq
    rw [hq] at h
    simp (disch := omega) only [e_q0, e_nil, e_cons, e_q, e_qf, e_qt, e_af, z_hd, z_mk1, z_lg, z_s1, z_s2, z_kl, z_en, z_kI, z_fv, z_ic, z_c1, z_sh, z_pop, z_rc, z_tgt, z_tsw, z_lsw, z_nw, z_ac, o_kI, o_kL, o_ldi, o_ldl, o_lda, o_sti, o_sta, o_stl, o_inc, o_b2, o_bz, o_l2, o_lz, o_ls, o_lneg, o_i2l, o_l2i, o_lcmp, o_dup, o_dupx1, o_dup2, o_if, o_if2, o_ifnull, o_get, o_put, o_iald, o_zald, o_aald, o_alen, o_iast, o_zast, o_aast, o_new, o_newa, o_call, o_call1, o_callN, o_obj, o_reti, o_retl, o_ret, o_tsw, o_lsw, va_rf_s, va_rf_n, z_u2_s, z_u2_k, z_u2_f, z_uR_f, z_uL_f, e_ix, e_vp, e_lt, e_le, e_eq, e_lt0, e_eq0, e_b0, e_b1, e_10, e_11, true_or, or_true, false_or, nI_add, z_bi_0, z_bi_1, e_bb, z_uR_s, z_uR_k, z_uL_s, z_uL_k, true_and, and_true, and_self, not_true_eq_false, not_false_eq_true, forall_const, Option.toList, List.cons_append, List.nil_append, List.singleton_append, Nat.reduceAdd, Nat.zero_add, Nat.add_zero, Nat.reduceEqDiff, ↓reduceIte, ite_true, ite_false, reduceCtorEq, Int.cast_ofNat_Int, Int.reduceAdd, Int.reduceToNat, ne_eq, false_imp_iff, true_imp_iff, cl_130, bf_130_0, bf_130_25, bf_130_30, bf_130_44, bo_130_0, bo_130_25, bo_130_30, bo_130_44, hS, hs, hw, z_on, z_on_n]
    refine k_offers hS hs hw ha ?_
    simp (disch := omega) only [e_q0, e_nil, e_cons, e_q, e_qf, e_qt, e_af, z_hd, z_mk1, z_lg, z_s1, z_s2, z_kl, z_en, z_kI, z_fv, z_ic, z_c1, z_sh, z_pop, z_rc, z_tgt, z_tsw, z_lsw, z_nw, z_ac, o_kI, o_kL, o_ldi, o_ldl, o_lda, o_sti, o_sta, o_stl, o_inc, o_b2, o_bz, o_l2, o_lz, o_ls, o_lneg, o_i2l, o_l2i, o_lcmp, o_dup, o_dupx1, o_dup2, o_if, o_if2, o_ifnull, o_get, o_put, o_iald, o_zald, o_aald, o_alen, o_iast, o_zast, o_aast, o_new, o_newa, o_call, o_call1, o_callN, o_obj, o_reti, o_retl, o_ret, o_tsw, o_lsw, va_rf_s, va_rf_n, z_u2_s, z_u2_k, z_u2_f, z_uR_f, z_uL_f, e_ix, e_vp, e_lt, e_le, e_eq, e_lt0, e_eq0, e_b0, e_b1, e_10, e_11, true_or, or_true, false_or, nI_add, z_bi_0, z_bi_1, e_bb, z_uR_s, z_uR_k, z_uL_s, z_uL_k, true_and, and_true, and_self, not_true_eq_false, not_false_eq_true, forall_const, Option.toList, List.cons_append, List.nil_append, List.singleton_append, Nat.reduceAdd, Nat.zero_add, Nat.add_zero, Nat.reduceEqDiff, ↓reduceIte, ite_true, ite_false, reduceCtorEq, Int.cast_ofNat_Int, Int.reduceAdd, Int.reduceToNat, ne_eq, false_imp_iff, true_imp_iff, cl_130, bf_130_0, bf_130_25, bf_130_30, bf_130_44, bo_130_0, bo_130_25, bo_130_30, bo_130_44, hS, hs, hw]
    refine ⟨fun c => ?_, fun c => ?_⟩
    · rw [c] at h; exact h
    · simp only [Bool.not_eq_false] at c
      rw [c] at h
      refine k_offered hS hs hw ha ?_
      simp (disch := omega) only [e_q0, e_nil, e_cons, e_q, e_qf, e_qt, e_af, z_hd, z_mk1, z_lg, z_s1, z_s2, z_kl, z_en, z_kI, z_fv, z_ic, z_c1, z_sh, z_pop, z_rc, z_tgt, z_tsw, z_lsw, z_nw, z_ac, o_kI, o_kL, o_ldi, o_ldl, o_lda, o_sti, o_sta, o_stl, o_inc, o_b2, o_bz, o_l2, o_lz, o_ls, o_lneg, o_i2l, o_l2i, o_lcmp, o_dup, o_dupx1, o_dup2, o_if, o_if2, o_ifnull, o_get, o_put, o_iald, o_zald, o_aald, o_alen, o_iast, o_zast, o_aast, o_new, o_newa, o_call, o_call1, o_callN, o_obj, o_reti, o_retl, o_ret, o_tsw, o_lsw, va_rf_s, va_rf_n, z_u2_s, z_u2_k, z_u2_f, z_uR_f, z_uL_f, e_ix, e_vp, e_lt, e_le, e_eq, e_lt0, e_eq0, e_b0, e_b1, e_10, e_11, true_or, or_true, false_or, nI_add, z_bi_0, z_bi_1, e_bb, z_uR_s, z_uR_k, z_uL_s, z_uL_k, true_and, and_true, and_self, not_true_eq_false, not_false_eq_true, forall_const, Option.toList, List.cons_append, List.nil_append, List.singleton_append, Nat.reduceAdd, Nat.zero_add, Nat.add_zero, Nat.reduceEqDiff, ↓reduceIte, ite_true, ite_false, reduceCtorEq, Int.cast_ofNat_Int, Int.reduceAdd, Int.reduceToNat, ne_eq, false_imp_iff, true_imp_iff, cl_130, bf_130_0, bf_130_25, bf_130_30, bf_130_44, bo_130_0, bo_130_25, bo_130_30, bo_130_44, hS, hs, hw]
      refine k_airtime hS hs hw (by omega) (h0 k hk) ?_
      simp (disch := omega) only [e_q0, e_nil, e_cons, e_q, e_qf, e_qt, e_af, z_hd, z_mk1, z_lg, z_s1, z_s2, z_kl, z_en, z_kI, z_fv, z_ic, z_c1, z_sh, z_pop, z_rc, z_tgt, z_tsw, z_lsw, z_nw, z_ac, o_kI, o_kL, o_ldi, o_ldl, o_lda, o_sti, o_sta, o_stl, o_inc, o_b2, o_bz, o_l2, o_lz, o_ls, o_lneg, o_i2l, o_l2i, o_lcmp, o_dup, o_dupx1, o_dup2, o_if, o_if2, o_ifnull, o_get, o_put, o_iald, o_zald, o_aald, o_alen, o_iast, o_zast, o_aast, o_new, o_newa, o_call, o_call1, o_callN, o_obj, o_reti, o_retl, o_ret, o_tsw, o_lsw, va_rf_s, va_rf_n, z_u2_s, z_u2_k, z_u2_f, z_uR_f, z_uL_f, e_ix, e_vp, e_lt, e_le, e_eq, e_lt0, e_eq0, e_b0, e_b1, e_10, e_11, true_or, or_true, false_or, nI_add, z_bi_0, z_bi_1, e_bb, z_uR_s, z_uR_k, z_uL_s, z_uL_k, true_and, and_true, and_self, not_true_eq_false, not_false_eq_true, forall_const, Option.toList, List.cons_append, List.nil_append, List.singleton_append, Nat.reduceAdd, Nat.zero_add, Nat.add_zero, Nat.reduceEqDiff, ↓reduceIte, ite_true, ite_false, reduceCtorEq, Int.cast_ofNat_Int, Int.reduceAdd, Int.reduceToNat, ne_eq, false_imp_iff, true_imp_iff, cl_130, bf_130_0, bf_130_25, bf_130_30, bf_130_44, bo_130_0, bo_130_25, bo_130_30, bo_130_44, hS, hs, hw]
      exact h
theorem k_isSafe {s : ZS} {w a b : Nat} (hS : SM T mr) (hs : PMs mi s) (hw : T.1 w = (2, 78)) (ha : a < 8) (hb : b < 8) (h : Q (some (.int (z_bi (f_safe s (mi w) a b)))) (mi, mr, ml, T)) : z_Ok l G m_Model_isSafe [.ref 373, .ref w, .int (nI a), .int (nI b)] (mi, mr, ml, T) Q := by
  refine z_okN cz_131.1 (by rw [cl_131]; exact Nat.le_of_ble_eq_true rfl) cz_131.2 (z_run ck_131 5 bf_131_0 ?_)
  simp (disch := omega) only [e_q0, e_nil, e_cons, e_q, e_qf, e_qt, e_af, z_hd, z_mk1, z_lg, z_s1, z_s2, z_kl, z_en, z_kI, z_fv, z_ic, z_c1, z_sh, z_pop, z_rc, z_tgt, z_tsw, z_lsw, z_nw, z_ac, o_kI, o_kL, o_ldi, o_ldl, o_lda, o_sti, o_sta, o_stl, o_inc, o_b2, o_bz, o_l2, o_lz, o_ls, o_lneg, o_i2l, o_l2i, o_lcmp, o_dup, o_dupx1, o_dup2, o_if, o_if2, o_ifnull, o_get, o_put, o_iald, o_zald, o_aald, o_alen, o_iast, o_zast, o_aast, o_new, o_newa, o_call, o_call1, o_callN, o_obj, o_reti, o_retl, o_ret, o_tsw, o_lsw, va_rf_s, va_rf_n, z_u2_s, z_u2_k, z_u2_f, z_uR_f, z_uL_f, e_ix, e_vp, e_lt, e_le, e_eq, e_lt0, e_eq0, e_b0, e_b1, e_10, e_11, true_or, or_true, false_or, nI_add, z_bi_0, z_bi_1, e_bb, z_uR_s, z_uR_k, z_uL_s, z_uL_k, true_and, and_true, and_self, not_true_eq_false, not_false_eq_true, forall_const, Option.toList, List.cons_append, List.nil_append, List.singleton_append, Nat.reduceAdd, Nat.zero_add, Nat.add_zero, Nat.reduceEqDiff, ↓reduceIte, ite_true, ite_false, reduceCtorEq, Int.cast_ofNat_Int, Int.reduceAdd, Int.reduceToNat, ne_eq, false_imp_iff, true_imp_iff, cl_131, bf_131_0, bf_131_45, bf_131_49, bf_131_50, bo_131_0, bo_131_45, bo_131_49, bo_131_50, hS, hs, hw]
  refine k_sequenceOf hS hs hw ha ?_
  simp (disch := omega) only [e_q0, e_nil, e_cons, e_q, e_qf, e_qt, e_af, z_hd, z_mk1, z_lg, z_s1, z_s2, z_kl, z_en, z_kI, z_fv, z_ic, z_c1, z_sh, z_pop, z_rc, z_tgt, z_tsw, z_lsw, z_nw, z_ac, o_kI, o_kL, o_ldi, o_ldl, o_lda, o_sti, o_sta, o_stl, o_inc, o_b2, o_bz, o_l2, o_lz, o_ls, o_lneg, o_i2l, o_l2i, o_lcmp, o_dup, o_dupx1, o_dup2, o_if, o_if2, o_ifnull, o_get, o_put, o_iald, o_zald, o_aald, o_alen, o_iast, o_zast, o_aast, o_new, o_newa, o_call, o_call1, o_callN, o_obj, o_reti, o_retl, o_ret, o_tsw, o_lsw, va_rf_s, va_rf_n, z_u2_s, z_u2_k, z_u2_f, z_uR_f, z_uL_f, e_ix, e_vp, e_lt, e_le, e_eq, e_lt0, e_eq0, e_b0, e_b1, e_10, e_11, true_or, or_true, false_or, nI_add, z_bi_0, z_bi_1, e_bb, z_uR_s, z_uR_k, z_uL_s, z_uL_k, true_and, and_true, and_self, not_true_eq_false, not_false_eq_true, forall_const, Option.toList, List.cons_append, List.nil_append, List.singleton_append, Nat.reduceAdd, Nat.zero_add, Nat.add_zero, Nat.reduceEqDiff, ↓reduceIte, ite_true, ite_false, reduceCtorEq, Int.cast_ofNat_Int, Int.reduceAdd, Int.reduceToNat, ne_eq, false_imp_iff, true_imp_iff, cl_131, bf_131_0, bf_131_45, bf_131_49, bf_131_50, bo_131_0, bo_131_45, bo_131_49, bo_131_50, hS, hs, hw]
  unfold f_safe at h
  refine ⟨fun c1 => z_f1 h (by simp [c1]), fun c1 => ⟨fun c2 => ?_, fun c2 => z_f0 h (by simp [c1, c2])⟩⟩
  refine k_offered hS hs hw ha ?_
  simp (disch := omega) only [e_q0, e_nil, e_cons, e_q, e_qf, e_qt, e_af, z_hd, z_mk1, z_lg, z_s1, z_s2, z_kl, z_en, z_kI, z_fv, z_ic, z_c1, z_sh, z_pop, z_rc, z_tgt, z_tsw, z_lsw, z_nw, z_ac, o_kI, o_kL, o_ldi, o_ldl, o_lda, o_sti, o_sta, o_stl, o_inc, o_b2, o_bz, o_l2, o_lz, o_ls, o_lneg, o_i2l, o_l2i, o_lcmp, o_dup, o_dupx1, o_dup2, o_if, o_if2, o_ifnull, o_get, o_put, o_iald, o_zald, o_aald, o_alen, o_iast, o_zast, o_aast, o_new, o_newa, o_call, o_call1, o_callN, o_obj, o_reti, o_retl, o_ret, o_tsw, o_lsw, va_rf_s, va_rf_n, z_u2_s, z_u2_k, z_u2_f, z_uR_f, z_uL_f, e_ix, e_vp, e_lt, e_le, e_eq, e_lt0, e_eq0, e_b0, e_b1, e_10, e_11, true_or, or_true, false_or, nI_add, z_bi_0, z_bi_1, e_bb, z_uR_s, z_uR_k, z_uL_s, z_uL_k, true_and, and_true, and_self, not_true_eq_false, not_false_eq_true, forall_const, Option.toList, List.cons_append, List.nil_append, List.singleton_append, Nat.reduceAdd, Nat.zero_add, Nat.add_zero, Nat.reduceEqDiff, ↓reduceIte, ite_true, ite_false, reduceCtorEq, Int.cast_ofNat_Int, Int.reduceAdd, Int.reduceToNat, ne_eq, false_imp_iff, true_imp_iff, cl_131, bf_131_0, bf_131_45, bf_131_49, bf_131_50, bo_131_0, bo_131_45, bo_131_49, bo_131_50, hS, hs, hw]
  exact ⟨fun c3 => z_f0 h (by simp [c1, z_l32, c3]), fun c3 => z_f1 h (by simp [z_l32, c2, c3])⟩
theorem k_isGood {s : ZS} {w a b : Nat} (hS : SM T mr) (hs : PMs mi s) (hw : T.1 w = (2, 78)) (h0 : f_pos s (mi w)) (ha : a < 8) (hb : b < 8) (h : Q (some (.int (z_bi (f_good s (mi 373 23) (mi w) a b)))) (mi, mr, ml, T)) : z_Ok l G m_Model_isGood [.ref 373, .ref w, .int (nI a), .int (nI b)] (mi, mr, ml, T) Q := by
  refine z_okN cz_132.1 (by rw [cl_132]; exact Nat.le_of_ble_eq_true rfl) cz_132.2 (z_run ck_132 4 bf_132_0 ?_)
  simp (disch := omega) only [e_q0, e_nil, e_cons, e_q, e_qf, e_qt, e_af, z_hd, z_mk1, z_lg, z_s1, z_s2, z_kl, z_en, z_kI, z_fv, z_ic, z_c1, z_sh, z_pop, z_rc, z_tgt, z_tsw, z_lsw, z_nw, z_ac, o_kI, o_kL, o_ldi, o_ldl, o_lda, o_sti, o_sta, o_stl, o_inc, o_b2, o_bz, o_l2, o_lz, o_ls, o_lneg, o_i2l, o_l2i, o_lcmp, o_dup, o_dupx1, o_dup2, o_if, o_if2, o_ifnull, o_get, o_put, o_iald, o_zald, o_aald, o_alen, o_iast, o_zast, o_aast, o_new, o_newa, o_call, o_call1, o_callN, o_obj, o_reti, o_retl, o_ret, o_tsw, o_lsw, va_rf_s, va_rf_n, z_u2_s, z_u2_k, z_u2_f, z_uR_f, z_uL_f, e_ix, e_vp, e_lt, e_le, e_eq, e_lt0, e_eq0, e_b0, e_b1, e_10, e_11, true_or, or_true, false_or, nI_add, z_bi_0, z_bi_1, e_bb, z_uR_s, z_uR_k, z_uL_s, z_uL_k, true_and, and_true, and_self, not_true_eq_false, not_false_eq_true, forall_const, Option.toList, List.cons_append, List.nil_append, List.singleton_append, Nat.reduceAdd, Nat.zero_add, Nat.add_zero, Nat.reduceEqDiff, ↓reduceIte, ite_true, ite_false, reduceCtorEq, Int.cast_ofNat_Int, Int.reduceAdd, Int.reduceToNat, ne_eq, false_imp_iff, true_imp_iff, cl_132, bf_132_0, bf_132_31, bf_132_32, bo_132_0, bo_132_31, bo_132_32, hS, hs, hw]
  unfold f_good at h
  refine ⟨fun c1 => z_f0 h (by simp [c1]), fun c1 => k_priceOf hS hs hw h0 ha ?_⟩
  simp (disch := omega) only [e_q0, e_nil, e_cons, e_q, e_qf, e_qt, e_af, z_hd, z_mk1, z_lg, z_s1, z_s2, z_kl, z_en, z_kI, z_fv, z_ic, z_c1, z_sh, z_pop, z_rc, z_tgt, z_tsw, z_lsw, z_nw, z_ac, o_kI, o_kL, o_ldi, o_ldl, o_lda, o_sti, o_sta, o_stl, o_inc, o_b2, o_bz, o_l2, o_lz, o_ls, o_lneg, o_i2l, o_l2i, o_lcmp, o_dup, o_dupx1, o_dup2, o_if, o_if2, o_ifnull, o_get, o_put, o_iald, o_zald, o_aald, o_alen, o_iast, o_zast, o_aast, o_new, o_newa, o_call, o_call1, o_callN, o_obj, o_reti, o_retl, o_ret, o_tsw, o_lsw, va_rf_s, va_rf_n, z_u2_s, z_u2_k, z_u2_f, z_uR_f, z_uL_f, e_ix, e_vp, e_lt, e_le, e_eq, e_lt0, e_eq0, e_b0, e_b1, e_10, e_11, true_or, or_true, false_or, nI_add, z_bi_0, z_bi_1, e_bb, z_uR_s, z_uR_k, z_uL_s, z_uL_k, true_and, and_true, and_self, not_true_eq_false, not_false_eq_true, forall_const, Option.toList, List.cons_append, List.nil_append, List.singleton_append, Nat.reduceAdd, Nat.zero_add, Nat.add_zero, Nat.reduceEqDiff, ↓reduceIte, ite_true, ite_false, reduceCtorEq, Int.cast_ofNat_Int, Int.reduceAdd, Int.reduceToNat, ne_eq, false_imp_iff, true_imp_iff, cl_132, bf_132_0, bf_132_31, bf_132_32, bo_132_0, bo_132_31, bo_132_32, hS, hs, hw]
  refine ⟨fun c2 => z_f0 h (by simp [c2]), fun c2 => k_isSafe hS hs hw ha hb ?_⟩
  simp (disch := omega) only [e_q0, e_nil, e_cons, e_q, e_qf, e_qt, e_af, z_hd, z_mk1, z_lg, z_s1, z_s2, z_kl, z_en, z_kI, z_fv, z_ic, z_c1, z_sh, z_pop, z_rc, z_tgt, z_tsw, z_lsw, z_nw, z_ac, o_kI, o_kL, o_ldi, o_ldl, o_lda, o_sti, o_sta, o_stl, o_inc, o_b2, o_bz, o_l2, o_lz, o_ls, o_lneg, o_i2l, o_l2i, o_lcmp, o_dup, o_dupx1, o_dup2, o_if, o_if2, o_ifnull, o_get, o_put, o_iald, o_zald, o_aald, o_alen, o_iast, o_zast, o_aast, o_new, o_newa, o_call, o_call1, o_callN, o_obj, o_reti, o_retl, o_ret, o_tsw, o_lsw, va_rf_s, va_rf_n, z_u2_s, z_u2_k, z_u2_f, z_uR_f, z_uL_f, e_ix, e_vp, e_lt, e_le, e_eq, e_lt0, e_eq0, e_b0, e_b1, e_10, e_11, true_or, or_true, false_or, nI_add, z_bi_0, z_bi_1, e_bb, z_uR_s, z_uR_k, z_uL_s, z_uL_k, true_and, and_true, and_self, not_true_eq_false, not_false_eq_true, forall_const, Option.toList, List.cons_append, List.nil_append, List.singleton_append, Nat.reduceAdd, Nat.zero_add, Nat.add_zero, Nat.reduceEqDiff, ↓reduceIte, ite_true, ite_false, reduceCtorEq, Int.cast_ofNat_Int, Int.reduceAdd, Int.reduceToNat, ne_eq, false_imp_iff, true_imp_iff, cl_132, bf_132_0, bf_132_31, bf_132_32, bo_132_0, bo_132_31, bo_132_32, hS, hs, hw]
  exact ⟨fun c3 => z_f0 h (by simp [c3]), fun c3 => z_f1 h (by simp at c3; simp [c1, c2, c3])⟩
theorem k_isAwake {s : ZS} {i : Nat} {rd : Int32} (hS : SM T mr) (hs : PMs mi s) (hi : i < 8) (hc : s.2 0 i = nI 2 → ¬ s.2 1 i = 0) (h : Q (some (.int (z_bi (f_awake s rd i)))) (mi, mr, ml, T)) : z_Ok l G m_Model_isAwake [.ref 373, .int (nI i), .int rd] (mi, mr, ml, T) Q := by
  refine z_okN cz_133.1 (by rw [cl_133]; exact Nat.le_of_ble_eq_true rfl) cz_133.2 (z_run ck_133 5 bf_133_0 ?_)
  simp (disch := omega) only [e_q0, e_nil, e_cons, e_q, e_qf, e_qt, e_af, z_hd, z_mk1, z_lg, z_s1, z_s2, z_kl, z_en, z_kI, z_fv, z_ic, z_c1, z_sh, z_pop, z_rc, z_tgt, z_tsw, z_lsw, z_nw, z_ac, o_kI, o_kL, o_ldi, o_ldl, o_lda, o_sti, o_sta, o_stl, o_inc, o_b2, o_bz, o_l2, o_lz, o_ls, o_lneg, o_i2l, o_l2i, o_lcmp, o_dup, o_dupx1, o_dup2, o_if, o_if2, o_ifnull, o_get, o_put, o_iald, o_zald, o_aald, o_alen, o_iast, o_zast, o_aast, o_new, o_newa, o_call, o_call1, o_callN, o_obj, o_reti, o_retl, o_ret, o_tsw, o_lsw, va_rf_s, va_rf_n, z_u2_s, z_u2_k, z_u2_f, z_uR_f, z_uL_f, e_ix, e_vp, e_lt, e_le, e_eq, e_lt0, e_eq0, e_b0, e_b1, e_10, e_11, true_or, or_true, false_or, nI_add, z_bi_0, z_bi_1, e_bb, z_uR_s, z_uR_k, z_uL_s, z_uL_k, true_and, and_true, and_self, not_true_eq_false, not_false_eq_true, forall_const, Option.toList, List.cons_append, List.nil_append, List.singleton_append, Nat.reduceAdd, Nat.zero_add, Nat.add_zero, Nat.reduceEqDiff, ↓reduceIte, ite_true, ite_false, reduceCtorEq, Int.cast_ofNat_Int, Int.reduceAdd, Int.reduceToNat, ne_eq, false_imp_iff, true_imp_iff, cl_133, bf_133_0, bf_133_27, bf_133_31, bf_133_32, bo_133_0, bo_133_27, bo_133_31, bo_133_32, hS, hs]
  unfold f_awake at h
  exact ⟨fun c1 => ⟨hc c1, fun c2 => z_f1 h (by simp [c2]), fun c2 => z_f0 h (by simp [c1, c2])⟩, fun c1 => z_f1 h (by simp [c1])⟩
end
end
section
theorem f_best_lt {s : ZS} {co : Int32} {A : ZW} {n : Nat} : ∀ k b, f_best s co A n k = some b → b < k
  | 0, b, h => by simp [f_best] at h
  | k + 1, b, h => by
    unfold f_best at h
    cases hb : f_best s co A n k with
    | none =>
      rw [hb] at h
      simp only at h
      split at h
      · cases h; omega
      · cases h
    | some c =>
      have := f_best_lt k c hb
      rw [hb] at h
      simp only at h
      split at h
      · cases h; omega
      · cases h; omega
/-- what a row's parents may be -/
def f_pok (r : ZW) (n : Nat) : Prop := ∀ i, i < n → r i = z_ng 9 ∨ ∃ j, j < n ∧ r i = nI j
theorem z_u2_if {f : Nat → Nat → Int32} {a k b j : Nat} {x : Int32} : z_u2 f a k x b j = if b = a ∧ j = k then x else f b j := rfl
section
variable {l : Launch} {G : ZG} {mi : Nat → Nat → Int32} {mr : Nat → Nat → Option Nat} {ml : Nat → Nat → Int64} {T : (Nat → Nat × Nat) × Nat × Nat} {Q : ZR}
theorem PMs.of {mi f : Nat → Nat → Int32} {s : ZS} (h : PMs mi s) (hf : ∀ b, 373 ≤ b → b < 381 → f b = mi b) : PMs f s := by
  obtain ⟨⟨h1, h2, h3, h4, h5, h6, h7, h8⟩, h9⟩ := h
  refine ⟨⟨?_, ?_, ?_, ?_, ?_, ?_, ?_, ?_⟩, h9⟩
  · rw [hf _ (by omega) (by omega)]; exact h1
  · rw [hf _ (by omega) (by omega)]; exact h2
  · rw [hf _ (by omega) (by omega)]; exact h3
  · rw [hf _ (by omega) (by omega)]; exact h4
  · rw [hf _ (by omega) (by omega)]; exact h5
  · rw [hf _ (by omega) (by omega)]; exact h6
  · rw [hf _ (by omega) (by omega)]; exact h7
  · rw [hf _ (by omega) (by omega)]; exact h8
/-- the row of a memory's cell w with three places of node n changed -/
def f_p3 (r : ZW) (n : Nat) (v : Int32 × Int32 × Int32) : ZW := fun j => if j = n then v.1 else if j = 8 + n then v.2.1 else if j = 16 + n then v.2.2 else r j
theorem z_row5 {r g : ZW} {n : Nat} {v : Int32 × Int32 × Int32 × Int32 × Int32} (h1 : g n = v.1) (h2 : g (8 + n) = v.2.1) (h3 : g (16 + n) = v.2.2.1) (h4 : g (24 + n) = v.2.2.2.1) (h5 : g (32 + n) = v.2.2.2.2) (h6 : ∀ j, j ≠ n → j ≠ 8 + n → j ≠ 16 + n → j ≠ 24 + n → j ≠ 32 + n → g j = r j) : ∀ j, g j = f_put r n v j := by
  intro j
  unfold f_put
  by_cases c1 : j = n
  · rw [if_pos c1, c1, h1]
  · rw [if_neg c1]
    by_cases c2 : j = 8 + n
    · rw [if_pos c2, c2, h2]
    · rw [if_neg c2]
      by_cases c3 : j = 16 + n
      · rw [if_pos c3, c3, h3]
      · rw [if_neg c3]
        by_cases c4 : j = 24 + n
        · rw [if_pos c4, c4, h4]
        · rw [if_neg c4]
          by_cases c5 : j = 32 + n
          · rw [if_pos c5, c5, h5]
          · rw [if_neg c5]; exact h6 j c1 c2 c3 c4 c5
theorem z_row3 {r g : ZW} {n : Nat} {v : Int32 × Int32 × Int32} (h1 : g n = v.1) (h2 : g (8 + n) = v.2.1) (h3 : g (16 + n) = v.2.2) (h6 : ∀ j, j ≠ n → j ≠ 8 + n → j ≠ 16 + n → g j = r j) : ∀ j, g j = f_p3 r n v j := by
  intro j
  unfold f_p3
  by_cases c1 : j = n
  · rw [if_pos c1, c1, h1]
  · rw [if_neg c1]
    by_cases c2 : j = 8 + n
    · rw [if_pos c2, c2, h2]
    · rw [if_neg c2]
      by_cases c3 : j = 16 + n
      · rw [if_pos c3, c3, h3]
      · rw [if_neg c3]; exact h6 j c1 c2 c3
theorem z_sw {w : Nat} {f g : Nat → Nat → Int32} {r : ZW} (h : ∀ c j, f c j = if c = w then r j else g c j) {b : Nat} (hb : b ≠ w) : f b = g b := funext fun j => by rw [h, if_neg hb]
theorem z_sr {w : Nat} {f g : Nat → Nat → Int32} {r : ZW} (h : ∀ c j, f c j = if c = w then r j else g c j) : f w = r := funext fun j => by rw [h, if_pos rfl]
set_option maxHeartbeats 4000000 in
theorem k_hears {s : ZS} {w n : Nat} (hS : SM T mr) (hs : PMs mi s) (hw : T.1 w = (2, 78)) (hw9 : w = 381 ∨ w = 382) (hn : n < s.1.1) (h0 : f_pos s (mi 383)) (hp : f_pok (mi 383) s.1.1)
    (e1 : mi w n = mi 383 n) (e2 : mi w (8 + n) = mi 383 (8 + n)) (e3 : mi w (16 + n) = mi 383 (16 + n)) (e4 : mi w (24 + n) = mi 383 (24 + n)) (e5 : mi w (32 + n) = mi 383 (32 + n))
    (h : ∀ f, (∀ c j, f c j = if c = w then f_put (mi w) n (f_new s (mi 373 23) (mi 383) n) j else mi c j) → Q (some (.int (z_bi (f_ask s (mi 373 23) (mi 383) n)))) (f, mr, ml, T)) : z_Ok l G m_Model_hears [.ref 373, .ref w, .int (nI n)] (mi, mr, ml, T) Q := by
  have h8 := hs.2
  have hn8 : n < 8 := by omega
  have h383 : T.1 383 = (2, 78) := by rw [hS.1.2.2.2.2.2.2.2.2.2.2.1]
  have fin : ∀ (f : Nat → Nat → Int32), (∀ c j, f c j = if c = w then f_p3 (mi w) n (f_st2 s (mi 373 23) (mi 383) n) j else mi c j) →
      z_W l G 134 (T.2.1, T.2.2) (fun v M' => Q v M' ∧ M'.2.2.2 = T) 263 [none, some (.ref w), some (.int (nI n)), none, none, some (.int (z_bi (f_any s (mi 373 23) (mi 383) n s.1.1))), none] [] (f, mr, ml, T) := by
    intro f hf
    have hw1 := z_sr hf
    refine z_run ck_134 13 bf_134_263 ?_
    simp (disch := omega) only [e_q0, e_nil, e_cons, e_q, e_qf, e_qt, e_af, z_hd, z_mk1, z_lg, z_s1, z_s2, z_kl, z_en, z_kI, z_fv, z_ic, z_c1, z_sh, z_pop, z_rc, z_tgt, z_tsw, z_lsw, z_nw, z_ac, o_kI, o_kL, o_ldi, o_ldl, o_lda, o_sti, o_sta, o_stl, o_inc, o_b2, o_bz, o_l2, o_lz, o_ls, o_lneg, o_i2l, o_l2i, o_lcmp, o_dup, o_dupx1, o_dup2, o_if, o_if2, o_ifnull, o_get, o_put, o_iald, o_zald, o_aald, o_alen, o_iast, o_zast, o_aast, o_new, o_newa, o_call, o_call1, o_callN, o_obj, o_reti, o_retl, o_ret, o_tsw, o_lsw, va_rf_s, va_rf_n, z_u2_s, z_u2_k, z_u2_f, z_uR_f, z_uL_f, e_ix, e_vp, e_lt, e_le, e_eq, e_lt0, e_eq0, e_b0, e_b1, e_10, e_11, true_or, or_true, false_or, nI_add, z_bi_0, z_bi_1, e_bb, z_uR_s, z_uR_k, z_uL_s, z_uL_k, true_and, and_true, and_self, not_true_eq_false, not_false_eq_true, forall_const, Option.toList, List.cons_append, List.nil_append, List.singleton_append, Nat.reduceAdd, Nat.zero_add, Nat.add_zero, Nat.reduceEqDiff, ↓reduceIte, ite_true, ite_false, reduceCtorEq, Int.cast_ofNat_Int, Int.reduceAdd, Int.reduceToNat, ne_eq, false_imp_iff, true_imp_iff, cl_134, bf_134_0, bf_134_62, bf_134_69, bf_134_79, bf_134_115, bf_134_119, bf_134_120, bf_134_168, bf_134_172, bf_134_178, bf_134_223, bf_134_263, bf_134_290, bf_134_332, bf_134_359, bo_134_0, bo_134_62, bo_134_69, bo_134_79, bo_134_115, bo_134_119, bo_134_120, bo_134_168, bo_134_172, bo_134_178, bo_134_223, bo_134_263, bo_134_290, bo_134_332, bo_134_359, hS, hs, hw, hw1]
    have g1 : f_p3 (mi w) n (f_st2 s (mi 373 23) (mi 383) n) n = (f_st2 s (mi 373 23) (mi 383) n).1 := by simp [f_p3]
    have g2 : f_p3 (mi w) n (f_st2 s (mi 373 23) (mi 383) n) (8 + n) = (f_st2 s (mi 373 23) (mi 383) n).2.1 := by simp [f_p3]
    have g3 : f_p3 (mi w) n (f_st2 s (mi 373 23) (mi 383) n) (16 + n) = (f_st2 s (mi 373 23) (mi 383) n).2.2 := by unfold f_p3; rw [if_neg (by omega), if_neg (by omega), if_pos rfl]
    have g4 : f_p3 (mi w) n (f_st2 s (mi 373 23) (mi 383) n) (24 + n) = mi 383 (24 + n) := by unfold f_p3; rw [if_neg (by omega), if_neg (by omega), if_neg (by omega), e4]
    have g5 : f_p3 (mi w) n (f_st2 s (mi 373 23) (mi 383) n) (32 + n) = mi 383 (32 + n) := by unfold f_p3; rw [if_neg (by omega), if_neg (by omega), if_neg (by omega), e5]
    simp only [g1, g2, g3, g4, g5]
    have gr : ∀ j, j ≠ n → j ≠ 8 + n → j ≠ 16 + n → f_p3 (mi w) n (f_st2 s (mi 373 23) (mi 383) n) j = mi w j := fun j c1 c2 c3 => by unfold f_p3; rw [if_neg c1, if_neg c2, if_neg c3]
    generalize f_p3 (mi w) n (f_st2 s (mi 373 23) (mi 383) n) = R at *
    unfold f_ask f_new at h
    refine ⟨fun c1 => ?_, fun c1 => ?_⟩
    · rw [c1] at h
      simp only [decide_true, Bool.true_and, if_true, ↓reduceIte] at h
      refine h _ (z_rw (z_ru (z_ru hf)) (z_row5 ?_ ?_ ?_ ?_ ?_ fun j q1 q2 q3 q4 q5 => ?_)) <;> simp (disch := omega) only [z_ie, z_in, if_true, ite_true, ↓reduceIte, g1, g2, g3, g4, g5, gr, c1]
    · have c1' := eq_false c1
      simp only [c1', decide_false, Bool.false_and, if_false, ↓reduceIte, z_bi] at h
      refine ⟨fun c2 => ⟨fun c3 => ?_, fun c3 => ?_⟩, fun c2 => ?_⟩
      · rw [if_neg (by rw [z_l32]; simp [c2]), if_neg (by rw [z_l32]; simp [c3])] at h
        refine h _ (z_rw hf (z_row5 ?_ ?_ ?_ ?_ ?_ fun j q1 q2 q3 q4 q5 => ?_)) <;> simp (disch := omega) only [z_ie, z_in, if_true, ite_true, ↓reduceIte, g1, g2, g3, g4, g5, gr]
      · rw [if_neg (by rw [z_l32]; simp [c2]), if_pos (by rw [z_l32]; exact c3)] at h
        refine h _ (z_rw (z_ru hf) (z_row5 ?_ ?_ ?_ ?_ ?_ fun j q1 q2 q3 q4 q5 => ?_)) <;> simp (disch := omega) only [z_ie, z_in, if_true, ite_true, ↓reduceIte, g1, g2, g3, g4, g5, gr]
      · rw [if_pos (by rw [z_l32]; exact c2)] at h
        refine h _ (z_rw (z_ru (z_ru hf)) (z_row5 ?_ ?_ ?_ ?_ ?_ fun j q1 q2 q3 q4 q5 => ?_)) <;> simp (disch := omega) only [z_ie, z_in, if_true, ite_true, ↓reduceIte, g1, g2, g3, g4, g5, gr]
  have loop : ∀ f, (∀ c j, f c j = if c = w then f_p3 (mi w) n (f_st1 s (mi 373 23) (mi 383) n) j else mi c j) →
      z_W l G 134 (T.2.1, T.2.2) (fun v M' => Q v M' ∧ M'.2.2.2 = T) 79 [some (.ref 373), some (.ref w), some (.int (nI n)), none, some (.int (z_on none)), some (.int (z_bi false)), some (.int (nI 0))] [] (f, mr, ml, T) := by
    intro f hf
    have hf3 := z_sw hf (b := 373) (by omega)
    have hf9 := z_sw hf (b := 383) (by omega)
    have hsf : PMs f s := hs.of fun b q1 q2 => z_sw hf (by omega)
    have hw1 := z_sr hf
    have hS' := hS
    have k1 : ∀ k, k < s.1.1 → (z_W l G 134 (T.2.1, T.2.2) (fun v M' => Q v M' ∧ M'.2.2.2 = T) 79 [some (.ref 373), some (.ref w), some (.int (nI n)), none, some (.int (z_on (f_best s (mi 373 23) (mi 383) n (k + 1)))), some (.int (z_bi (f_any s (mi 373 23) (mi 383) n (k + 1)))), some (.int (nI (k + 1)))] [] (f, mr, ml, T)) →
        z_W l G 134 (T.2.1, T.2.2) (fun v M' => Q v M' ∧ M'.2.2.2 = T) 120 [some (.ref 373), some (.ref w), some (.int (nI n)), none, some (.int (z_on (f_best s (mi 373 23) (mi 383) n k))), none, some (.int (nI k))] [.int (z_bi (f_any s (mi 373 23) (mi 383) n (k + 1)))] (f, mr, ml, T) := by
      intro k hk hnext
      refine z_run ck_134 13 bf_134_120 ?_
      clear hs
      have hs := hsf
      simp (disch := omega) only [e_q0, e_nil, e_cons, e_q, e_qf, e_qt, e_af, z_hd, z_mk1, z_lg, z_s1, z_s2, z_kl, z_en, z_kI, z_fv, z_ic, z_c1, z_sh, z_pop, z_rc, z_tgt, z_tsw, z_lsw, z_nw, z_ac, o_kI, o_kL, o_ldi, o_ldl, o_lda, o_sti, o_sta, o_stl, o_inc, o_b2, o_bz, o_l2, o_lz, o_ls, o_lneg, o_i2l, o_l2i, o_lcmp, o_dup, o_dupx1, o_dup2, o_if, o_if2, o_ifnull, o_get, o_put, o_iald, o_zald, o_aald, o_alen, o_iast, o_zast, o_aast, o_new, o_newa, o_call, o_call1, o_callN, o_obj, o_reti, o_retl, o_ret, o_tsw, o_lsw, va_rf_s, va_rf_n, z_u2_s, z_u2_k, z_u2_f, z_uR_f, z_uL_f, e_ix, e_vp, e_lt, e_le, e_eq, e_lt0, e_eq0, e_b0, e_b1, e_10, e_11, true_or, or_true, false_or, nI_add, z_bi_0, z_bi_1, e_bb, z_uR_s, z_uR_k, z_uL_s, z_uL_k, true_and, and_true, and_self, not_true_eq_false, not_false_eq_true, forall_const, Option.toList, List.cons_append, List.nil_append, List.singleton_append, Nat.reduceAdd, Nat.zero_add, Nat.add_zero, Nat.reduceEqDiff, ↓reduceIte, ite_true, ite_false, reduceCtorEq, Int.cast_ofNat_Int, Int.reduceAdd, Int.reduceToNat, ne_eq, false_imp_iff, true_imp_iff, cl_134, bf_134_0, bf_134_62, bf_134_69, bf_134_79, bf_134_115, bf_134_119, bf_134_120, bf_134_168, bf_134_172, bf_134_178, bf_134_223, bf_134_263, bf_134_290, bf_134_332, bf_134_359, bo_134_0, bo_134_62, bo_134_69, bo_134_79, bo_134_115, bo_134_119, bo_134_120, bo_134_168, bo_134_172, bo_134_178, bo_134_223, bo_134_263, bo_134_290, bo_134_332, bo_134_359, hS, hs, hw]
      refine k_isGood (w := 383) hS hs h383 (by rw [hf9]; exact h0) (by omega) (by omega) ?_
      simp (disch := omega) only [e_q0, e_nil, e_cons, e_q, e_qf, e_qt, e_af, z_hd, z_mk1, z_lg, z_s1, z_s2, z_kl, z_en, z_kI, z_fv, z_ic, z_c1, z_sh, z_pop, z_rc, z_tgt, z_tsw, z_lsw, z_nw, z_ac, o_kI, o_kL, o_ldi, o_ldl, o_lda, o_sti, o_sta, o_stl, o_inc, o_b2, o_bz, o_l2, o_lz, o_ls, o_lneg, o_i2l, o_l2i, o_lcmp, o_dup, o_dupx1, o_dup2, o_if, o_if2, o_ifnull, o_get, o_put, o_iald, o_zald, o_aald, o_alen, o_iast, o_zast, o_aast, o_new, o_newa, o_call, o_call1, o_callN, o_obj, o_reti, o_retl, o_ret, o_tsw, o_lsw, va_rf_s, va_rf_n, z_u2_s, z_u2_k, z_u2_f, z_uR_f, z_uL_f, e_ix, e_vp, e_lt, e_le, e_eq, e_lt0, e_eq0, e_b0, e_b1, e_10, e_11, true_or, or_true, false_or, nI_add, z_bi_0, z_bi_1, e_bb, z_uR_s, z_uR_k, z_uL_s, z_uL_k, true_and, and_true, and_self, not_true_eq_false, not_false_eq_true, forall_const, Option.toList, List.cons_append, List.nil_append, List.singleton_append, Nat.reduceAdd, Nat.zero_add, Nat.add_zero, Nat.reduceEqDiff, ↓reduceIte, ite_true, ite_false, reduceCtorEq, Int.cast_ofNat_Int, Int.reduceAdd, Int.reduceToNat, ne_eq, false_imp_iff, true_imp_iff, cl_134, bf_134_0, bf_134_62, bf_134_69, bf_134_79, bf_134_115, bf_134_119, bf_134_120, bf_134_168, bf_134_172, bf_134_178, bf_134_223, bf_134_263, bf_134_290, bf_134_332, bf_134_359, bo_134_0, bo_134_62, bo_134_69, bo_134_79, bo_134_115, bo_134_119, bo_134_120, bo_134_168, bo_134_172, bo_134_178, bo_134_223, bo_134_263, bo_134_290, bo_134_332, bo_134_359, hS, hs, hw, hf3, hf9]
      unfold f_best at hnext
      cases hb : f_best s (mi 373 23) (mi 383) n k with
      | none =>
        rw [hb] at hnext
        simp only [z_on, decide_true, decide_false, Bool.and_true, Bool.and_false, Bool.true_and, Bool.false_and, Bool.or_true, Bool.or_false, Bool.true_or, Bool.false_or, Bool.not_true, Bool.not_false, if_true, if_false, true_imp_iff, false_imp_iff, not_true_eq_false, not_false_eq_true, and_true, true_and, and_self, Bool.false_eq_true, Bool.true_eq_false, reduceCtorEq, ite_true, ite_false, ↓reduceIte, implies_true, ne_eq]
        refine ⟨fun c1 => ?_, fun c1 => ?_⟩
        · rw [c1] at hnext; exact hnext
        · simp only [Bool.not_eq_false] at c1; rw [c1] at hnext; exact hnext
      | some b =>
        have hb8 : b < k := f_best_lt _ _ hb
        rw [hb] at hnext
        refine ⟨fun c1 => ?_, fun c1 => ⟨fun c2 => ?_, fun c2 => ?_⟩⟩
        · rw [c1] at hnext; exact hnext
        · unfold z_on at c2; rw [z_on_n (by omega)] at c2; exact c2.elim
        · refine k_priceOf (w := 383) hS hs h383 (by rw [hf9]; exact h0) (by omega) ?_
          simp (disch := omega) only [e_q0, e_nil, e_cons, e_q, e_qf, e_qt, e_af, z_hd, z_mk1, z_lg, z_s1, z_s2, z_kl, z_en, z_kI, z_fv, z_ic, z_c1, z_sh, z_pop, z_rc, z_tgt, z_tsw, z_lsw, z_nw, z_ac, o_kI, o_kL, o_ldi, o_ldl, o_lda, o_sti, o_sta, o_stl, o_inc, o_b2, o_bz, o_l2, o_lz, o_ls, o_lneg, o_i2l, o_l2i, o_lcmp, o_dup, o_dupx1, o_dup2, o_if, o_if2, o_ifnull, o_get, o_put, o_iald, o_zald, o_aald, o_alen, o_iast, o_zast, o_aast, o_new, o_newa, o_call, o_call1, o_callN, o_obj, o_reti, o_retl, o_ret, o_tsw, o_lsw, va_rf_s, va_rf_n, z_u2_s, z_u2_k, z_u2_f, z_uR_f, z_uL_f, e_ix, e_vp, e_lt, e_le, e_eq, e_lt0, e_eq0, e_b0, e_b1, e_10, e_11, true_or, or_true, false_or, nI_add, z_bi_0, z_bi_1, e_bb, z_uR_s, z_uR_k, z_uL_s, z_uL_k, true_and, and_true, and_self, not_true_eq_false, not_false_eq_true, forall_const, Option.toList, List.cons_append, List.nil_append, List.singleton_append, Nat.reduceAdd, Nat.zero_add, Nat.add_zero, Nat.reduceEqDiff, ↓reduceIte, ite_true, ite_false, reduceCtorEq, Int.cast_ofNat_Int, Int.reduceAdd, Int.reduceToNat, ne_eq, false_imp_iff, true_imp_iff, cl_134, bf_134_0, bf_134_62, bf_134_69, bf_134_79, bf_134_115, bf_134_119, bf_134_120, bf_134_168, bf_134_172, bf_134_178, bf_134_223, bf_134_263, bf_134_290, bf_134_332, bf_134_359, bo_134_0, bo_134_62, bo_134_69, bo_134_79, bo_134_115, bo_134_119, bo_134_120, bo_134_168, bo_134_172, bo_134_178, bo_134_223, bo_134_263, bo_134_290, bo_134_332, bo_134_359, hS, hs, hw, hf3, hf9]
          refine k_priceOf (w := 383) hS hs h383 (by rw [hf9]; exact h0) (by omega) ?_
          simp (disch := omega) only [e_q0, e_nil, e_cons, e_q, e_qf, e_qt, e_af, z_hd, z_mk1, z_lg, z_s1, z_s2, z_kl, z_en, z_kI, z_fv, z_ic, z_c1, z_sh, z_pop, z_rc, z_tgt, z_tsw, z_lsw, z_nw, z_ac, o_kI, o_kL, o_ldi, o_ldl, o_lda, o_sti, o_sta, o_stl, o_inc, o_b2, o_bz, o_l2, o_lz, o_ls, o_lneg, o_i2l, o_l2i, o_lcmp, o_dup, o_dupx1, o_dup2, o_if, o_if2, o_ifnull, o_get, o_put, o_iald, o_zald, o_aald, o_alen, o_iast, o_zast, o_aast, o_new, o_newa, o_call, o_call1, o_callN, o_obj, o_reti, o_retl, o_ret, o_tsw, o_lsw, va_rf_s, va_rf_n, z_u2_s, z_u2_k, z_u2_f, z_uR_f, z_uL_f, e_ix, e_vp, e_lt, e_le, e_eq, e_lt0, e_eq0, e_b0, e_b1, e_10, e_11, true_or, or_true, false_or, nI_add, z_bi_0, z_bi_1, e_bb, z_uR_s, z_uR_k, z_uL_s, z_uL_k, true_and, and_true, and_self, not_true_eq_false, not_false_eq_true, forall_const, Option.toList, List.cons_append, List.nil_append, List.singleton_append, Nat.reduceAdd, Nat.zero_add, Nat.add_zero, Nat.reduceEqDiff, ↓reduceIte, ite_true, ite_false, reduceCtorEq, Int.cast_ofNat_Int, Int.reduceAdd, Int.reduceToNat, ne_eq, false_imp_iff, true_imp_iff, cl_134, bf_134_0, bf_134_62, bf_134_69, bf_134_79, bf_134_115, bf_134_119, bf_134_120, bf_134_168, bf_134_172, bf_134_178, bf_134_223, bf_134_263, bf_134_290, bf_134_332, bf_134_359, bo_134_0, bo_134_62, bo_134_69, bo_134_79, bo_134_115, bo_134_119, bo_134_120, bo_134_168, bo_134_172, bo_134_178, bo_134_223, bo_134_263, bo_134_290, bo_134_332, bo_134_359, hS, hs, hw, hf3, hf9]
          simp only [Bool.not_eq_false] at c1
          rw [c1] at hnext
          simp only [Bool.true_and, decide_eq_true_eq] at hnext
          refine ⟨fun c3 => ?_, fun c3 => ?_⟩
          · rw [if_neg (by rw [z_l32]; simp [c3])] at hnext; exact hnext
          · rw [if_pos (by rw [z_l32]; exact c3)] at hnext; exact hnext
    refine z_for (P := fun k (_ : Unit) => z_W l G 134 (T.2.1, T.2.2) (fun v M' => Q v M' ∧ M'.2.2.2 = T) 79 [some (.ref 373), some (.ref w), some (.int (nI n)), none, some (.int (z_on (f_best s (mi 373 23) (mi 383) n k))), some (.int (z_bi (f_any s (mi 373 23) (mi 383) n k))), some (.int (nI k))] [] (f, mr, ml, T)) s.1.1 (fun _ => ?_) (fun k hk ih _ => ?_) 0 (by omega) ()
    · refine z_run ck_134 13 bf_134_79 ?_
      simp (disch := omega) only [e_q0, e_nil, e_cons, e_q, e_qf, e_qt, e_af, z_hd, z_mk1, z_lg, z_s1, z_s2, z_kl, z_en, z_kI, z_fv, z_ic, z_c1, z_sh, z_pop, z_rc, z_tgt, z_tsw, z_lsw, z_nw, z_ac, o_kI, o_kL, o_ldi, o_ldl, o_lda, o_sti, o_sta, o_stl, o_inc, o_b2, o_bz, o_l2, o_lz, o_ls, o_lneg, o_i2l, o_l2i, o_lcmp, o_dup, o_dupx1, o_dup2, o_if, o_if2, o_ifnull, o_get, o_put, o_iald, o_zald, o_aald, o_alen, o_iast, o_zast, o_aast, o_new, o_newa, o_call, o_call1, o_callN, o_obj, o_reti, o_retl, o_ret, o_tsw, o_lsw, va_rf_s, va_rf_n, z_u2_s, z_u2_k, z_u2_f, z_uR_f, z_uL_f, e_ix, e_vp, e_lt, e_le, e_eq, e_lt0, e_eq0, e_b0, e_b1, e_10, e_11, true_or, or_true, false_or, nI_add, z_bi_0, z_bi_1, e_bb, z_uR_s, z_uR_k, z_uL_s, z_uL_k, true_and, and_true, and_self, not_true_eq_false, not_false_eq_true, forall_const, Option.toList, List.cons_append, List.nil_append, List.singleton_append, Nat.reduceAdd, Nat.zero_add, Nat.add_zero, Nat.reduceEqDiff, ↓reduceIte, ite_true, ite_false, reduceCtorEq, Int.cast_ofNat_Int, Int.reduceAdd, Int.reduceToNat, ne_eq, false_imp_iff, true_imp_iff, cl_134, bf_134_0, bf_134_62, bf_134_69, bf_134_79, bf_134_115, bf_134_119, bf_134_120, bf_134_168, bf_134_172, bf_134_178, bf_134_223, bf_134_263, bf_134_290, bf_134_332, bf_134_359, bo_134_0, bo_134_62, bo_134_69, bo_134_79, bo_134_115, bo_134_119, bo_134_120, bo_134_168, bo_134_172, bo_134_178, bo_134_223, bo_134_263, bo_134_290, bo_134_332, bo_134_359, hS, hsf, hw, Nat.le_refl]
      have hs0 := hs
      clear hs
      have hs := hsf
      have gr : ∀ j, j ≠ n → j ≠ 8 + n → j ≠ 16 + n → f_p3 (mi w) n (f_st1 s (mi 373 23) (mi 383) n) j = mi w j := fun j c1 c2 c3 => by unfold f_p3; rw [if_neg c1, if_neg c2, if_neg c3]
      have q1 : f_p3 (mi w) n (f_st1 s (mi 373 23) (mi 383) n) n = (f_st1 s (mi 373 23) (mi 383) n).1 := by simp [f_p3]
      have q2 : f_p3 (mi w) n (f_st1 s (mi 373 23) (mi 383) n) (8 + n) = (f_st1 s (mi 373 23) (mi 383) n).2.1 := by simp [f_p3]
      cases hb : f_best s (mi 373 23) (mi 383) n s.1.1 with
      | none =>
        have hst : f_st2 s (mi 373 23) (mi 383) n = f_st1 s (mi 373 23) (mi 383) n := by unfold f_st2; rw [hb]
        refine ⟨fun _ => ?_, fun c1 => absurd rfl c1⟩
        rw [← hst] at hf
        exact fin f hf
      | some b =>
        have hb8 : b < s.1.1 := f_best_lt _ _ hb
        refine ⟨fun c1 => ?_, fun _ => ?_⟩
        · unfold z_on at c1; rw [z_on_n (by omega)] at c1; exact c1.elim
        · simp only [hw1, q1, q2, z_on]
          have fin2 : ∀ (R : ZW) (f' : Nat → Nat → Int32), (f_st1 s (mi 373 23) (mi 383) n).1 = z_ng 9 ∨ f_price s (mi 373 23) (mi 383) b n + mi 383 75 < (f_st1 s (mi 373 23) (mi 383) n).2.1 →
              (∀ c j, f' c j = if c = w then R j else mi c j) → R n = nI b → R (8 + n) = f_price s (mi 373 23) (mi 383) b n → R (16 + n) = f_seq s (mi 383) b → (∀ j, j ≠ n → j ≠ 8 + n → j ≠ 16 + n → R j = mi w j) →
              z_W l G 134 (T.2.1, T.2.2) (fun v M' => Q v M' ∧ M'.2.2.2 = T) 263 [none, some (.ref w), some (.int (nI n)), none, none, some (.int (z_bi (f_any s (mi 373 23) (mi 383) n s.1.1))), none] [] (f', mr, ml, T) := by
            intro R f' hc hf' r1 r2 r3 r4
            have hst : f_st2 s (mi 373 23) (mi 383) n = (nI b, f_price s (mi 373 23) (mi 383) b n, f_seq s (mi 383) b) := by unfold f_st2; rw [hb]; exact if_pos hc
            exact fin f' (z_rw hf' (z_row3 (by rw [hst]; exact r1) (by rw [hst]; exact r2) (by rw [hst]; exact r3) r4))
          refine ⟨fun c1 => ?_, fun c1 => ?_⟩
          · have hu := z_ru (k := n) (x := nI b) hf
            have h39 : z_u2 f w n (nI b) 383 = mi 383 := z_sw hu (by omega)
            have h33 : z_u2 f w n (nI b) 373 = mi 373 := z_sw hu (by omega)
            refine k_priceOf (w := 383) hS (hs0.of fun b q1 q2 => z_sw hu (by omega)) h383 (by rw [h39]; exact h0) (by omega) ?_
            simp (disch := omega) only [e_q0, e_nil, e_cons, e_q, e_qf, e_qt, e_af, z_hd, z_mk1, z_lg, z_s1, z_s2, z_kl, z_en, z_kI, z_fv, z_ic, z_c1, z_sh, z_pop, z_rc, z_tgt, z_tsw, z_lsw, z_nw, z_ac, o_kI, o_kL, o_ldi, o_ldl, o_lda, o_sti, o_sta, o_stl, o_inc, o_b2, o_bz, o_l2, o_lz, o_ls, o_lneg, o_i2l, o_l2i, o_lcmp, o_dup, o_dupx1, o_dup2, o_if, o_if2, o_ifnull, o_get, o_put, o_iald, o_zald, o_aald, o_alen, o_iast, o_zast, o_aast, o_new, o_newa, o_call, o_call1, o_callN, o_obj, o_reti, o_retl, o_ret, o_tsw, o_lsw, va_rf_s, va_rf_n, z_u2_s, z_u2_k, z_u2_f, z_uR_f, z_uL_f, e_ix, e_vp, e_lt, e_le, e_eq, e_lt0, e_eq0, e_b0, e_b1, e_10, e_11, true_or, or_true, false_or, nI_add, z_bi_0, z_bi_1, e_bb, z_uR_s, z_uR_k, z_uL_s, z_uL_k, true_and, and_true, and_self, not_true_eq_false, not_false_eq_true, forall_const, Option.toList, List.cons_append, List.nil_append, List.singleton_append, Nat.reduceAdd, Nat.zero_add, Nat.add_zero, Nat.reduceEqDiff, ↓reduceIte, ite_true, ite_false, reduceCtorEq, Int.cast_ofNat_Int, Int.reduceAdd, Int.reduceToNat, ne_eq, false_imp_iff, true_imp_iff, cl_134, bf_134_0, bf_134_62, bf_134_69, bf_134_79, bf_134_115, bf_134_119, bf_134_120, bf_134_168, bf_134_172, bf_134_178, bf_134_223, bf_134_263, bf_134_290, bf_134_332, bf_134_359, bo_134_0, bo_134_62, bo_134_69, bo_134_79, bo_134_115, bo_134_119, bo_134_120, bo_134_168, bo_134_172, bo_134_178, bo_134_223, bo_134_263, bo_134_290, bo_134_332, bo_134_359, hS, hsf, hw, hf3, hf9]
            have hu2 := z_ru (k := 8 + n) (x := f_price s (mi 373 23) (mi 383) b n) hu
            have i39 : z_u2 (z_u2 f w n (nI b)) w (8 + n) (f_price s (mi 373 23) (mi 383) b n) 383 = mi 383 := z_sw hu2 (by omega)
            skip
            refine k_sequenceOf (w := 383) hS (hs0.of fun b q1 q2 => z_sw hu2 (by omega)) h383 (by omega) ?_
            simp (disch := omega) only [e_q0, e_nil, e_cons, e_q, e_qf, e_qt, e_af, z_hd, z_mk1, z_lg, z_s1, z_s2, z_kl, z_en, z_kI, z_fv, z_ic, z_c1, z_sh, z_pop, z_rc, z_tgt, z_tsw, z_lsw, z_nw, z_ac, o_kI, o_kL, o_ldi, o_ldl, o_lda, o_sti, o_sta, o_stl, o_inc, o_b2, o_bz, o_l2, o_lz, o_ls, o_lneg, o_i2l, o_l2i, o_lcmp, o_dup, o_dupx1, o_dup2, o_if, o_if2, o_ifnull, o_get, o_put, o_iald, o_zald, o_aald, o_alen, o_iast, o_zast, o_aast, o_new, o_newa, o_call, o_call1, o_callN, o_obj, o_reti, o_retl, o_ret, o_tsw, o_lsw, va_rf_s, va_rf_n, z_u2_s, z_u2_k, z_u2_f, z_uR_f, z_uL_f, e_ix, e_vp, e_lt, e_le, e_eq, e_lt0, e_eq0, e_b0, e_b1, e_10, e_11, true_or, or_true, false_or, nI_add, z_bi_0, z_bi_1, e_bb, z_uR_s, z_uR_k, z_uL_s, z_uL_k, true_and, and_true, and_self, not_true_eq_false, not_false_eq_true, forall_const, Option.toList, List.cons_append, List.nil_append, List.singleton_append, Nat.reduceAdd, Nat.zero_add, Nat.add_zero, Nat.reduceEqDiff, ↓reduceIte, ite_true, ite_false, reduceCtorEq, Int.cast_ofNat_Int, Int.reduceAdd, Int.reduceToNat, ne_eq, false_imp_iff, true_imp_iff, cl_134, bf_134_0, bf_134_62, bf_134_69, bf_134_79, bf_134_115, bf_134_119, bf_134_120, bf_134_168, bf_134_172, bf_134_178, bf_134_223, bf_134_263, bf_134_290, bf_134_332, bf_134_359, bo_134_0, bo_134_62, bo_134_69, bo_134_79, bo_134_115, bo_134_119, bo_134_120, bo_134_168, bo_134_172, bo_134_178, bo_134_223, bo_134_263, bo_134_290, bo_134_332, bo_134_359, hS, hsf, hw]
            skip
            refine fin2 _ _ (Or.inl c1) (z_ru hu2) ?_ ?_ ?_ fun j q1 q2 q3 => ?_ <;> simp (disch := omega) only [z_ie, z_in, if_true, ite_true, ↓reduceIte, gr, hf9]
          · refine k_priceOf (w := 383) hS hsf h383 (by rw [hf9]; exact h0) (by omega) ?_
            simp (disch := omega) only [e_q0, e_nil, e_cons, e_q, e_qf, e_qt, e_af, z_hd, z_mk1, z_lg, z_s1, z_s2, z_kl, z_en, z_kI, z_fv, z_ic, z_c1, z_sh, z_pop, z_rc, z_tgt, z_tsw, z_lsw, z_nw, z_ac, o_kI, o_kL, o_ldi, o_ldl, o_lda, o_sti, o_sta, o_stl, o_inc, o_b2, o_bz, o_l2, o_lz, o_ls, o_lneg, o_i2l, o_l2i, o_lcmp, o_dup, o_dupx1, o_dup2, o_if, o_if2, o_ifnull, o_get, o_put, o_iald, o_zald, o_aald, o_alen, o_iast, o_zast, o_aast, o_new, o_newa, o_call, o_call1, o_callN, o_obj, o_reti, o_retl, o_ret, o_tsw, o_lsw, va_rf_s, va_rf_n, z_u2_s, z_u2_k, z_u2_f, z_uR_f, z_uL_f, e_ix, e_vp, e_lt, e_le, e_eq, e_lt0, e_eq0, e_b0, e_b1, e_10, e_11, true_or, or_true, false_or, nI_add, z_bi_0, z_bi_1, e_bb, z_uR_s, z_uR_k, z_uL_s, z_uL_k, true_and, and_true, and_self, not_true_eq_false, not_false_eq_true, forall_const, Option.toList, List.cons_append, List.nil_append, List.singleton_append, Nat.reduceAdd, Nat.zero_add, Nat.add_zero, Nat.reduceEqDiff, ↓reduceIte, ite_true, ite_false, reduceCtorEq, Int.cast_ofNat_Int, Int.reduceAdd, Int.reduceToNat, ne_eq, false_imp_iff, true_imp_iff, cl_134, bf_134_0, bf_134_62, bf_134_69, bf_134_79, bf_134_115, bf_134_119, bf_134_120, bf_134_168, bf_134_172, bf_134_178, bf_134_223, bf_134_263, bf_134_290, bf_134_332, bf_134_359, bo_134_0, bo_134_62, bo_134_69, bo_134_79, bo_134_115, bo_134_119, bo_134_120, bo_134_168, bo_134_172, bo_134_178, bo_134_223, bo_134_263, bo_134_290, bo_134_332, bo_134_359, hS, hsf, hw, hf3, hf9]
            have hst0 : ¬ (f_price s (mi 373 23) (mi 383) b n + mi 383 75 < (f_st1 s (mi 373 23) (mi 383) n).2.1) → f_st2 s (mi 373 23) (mi 383) n = f_st1 s (mi 373 23) (mi 383) n := by
              intro hc
              unfold f_st2; rw [hb]; exact if_neg (fun q => q.elim c1 hc)
            refine ⟨fun c2 => ?_, fun c2 => ?_⟩
            · have hst := hst0 (by rw [z_l32]; simp [c2])
              rw [← hst] at hf
              exact fin f hf
            · have hu := z_ru (k := n) (x := nI b) hf
              have h39 : z_u2 f w n (nI b) 383 = mi 383 := z_sw hu (by omega)
              have h33 : z_u2 f w n (nI b) 373 = mi 373 := z_sw hu (by omega)
              refine k_priceOf (w := 383) hS (hs0.of fun b q1 q2 => z_sw hu (by omega)) h383 (by rw [h39]; exact h0) (by omega) ?_
              simp (disch := omega) only [e_q0, e_nil, e_cons, e_q, e_qf, e_qt, e_af, z_hd, z_mk1, z_lg, z_s1, z_s2, z_kl, z_en, z_kI, z_fv, z_ic, z_c1, z_sh, z_pop, z_rc, z_tgt, z_tsw, z_lsw, z_nw, z_ac, o_kI, o_kL, o_ldi, o_ldl, o_lda, o_sti, o_sta, o_stl, o_inc, o_b2, o_bz, o_l2, o_lz, o_ls, o_lneg, o_i2l, o_l2i, o_lcmp, o_dup, o_dupx1, o_dup2, o_if, o_if2, o_ifnull, o_get, o_put, o_iald, o_zald, o_aald, o_alen, o_iast, o_zast, o_aast, o_new, o_newa, o_call, o_call1, o_callN, o_obj, o_reti, o_retl, o_ret, o_tsw, o_lsw, va_rf_s, va_rf_n, z_u2_s, z_u2_k, z_u2_f, z_uR_f, z_uL_f, e_ix, e_vp, e_lt, e_le, e_eq, e_lt0, e_eq0, e_b0, e_b1, e_10, e_11, true_or, or_true, false_or, nI_add, z_bi_0, z_bi_1, e_bb, z_uR_s, z_uR_k, z_uL_s, z_uL_k, true_and, and_true, and_self, not_true_eq_false, not_false_eq_true, forall_const, Option.toList, List.cons_append, List.nil_append, List.singleton_append, Nat.reduceAdd, Nat.zero_add, Nat.add_zero, Nat.reduceEqDiff, ↓reduceIte, ite_true, ite_false, reduceCtorEq, Int.cast_ofNat_Int, Int.reduceAdd, Int.reduceToNat, ne_eq, false_imp_iff, true_imp_iff, cl_134, bf_134_0, bf_134_62, bf_134_69, bf_134_79, bf_134_115, bf_134_119, bf_134_120, bf_134_168, bf_134_172, bf_134_178, bf_134_223, bf_134_263, bf_134_290, bf_134_332, bf_134_359, bo_134_0, bo_134_62, bo_134_69, bo_134_79, bo_134_115, bo_134_119, bo_134_120, bo_134_168, bo_134_172, bo_134_178, bo_134_223, bo_134_263, bo_134_290, bo_134_332, bo_134_359, hS, hsf, hw, hf3, hf9]
              have hu2 := z_ru (k := 8 + n) (x := f_price s (mi 373 23) (mi 383) b n) hu
              have i39 : z_u2 (z_u2 f w n (nI b)) w (8 + n) (f_price s (mi 373 23) (mi 383) b n) 383 = mi 383 := z_sw hu2 (by omega)
              skip
              refine k_sequenceOf (w := 383) hS (hs0.of fun b q1 q2 => z_sw hu2 (by omega)) h383 (by omega) ?_
              simp (disch := omega) only [e_q0, e_nil, e_cons, e_q, e_qf, e_qt, e_af, z_hd, z_mk1, z_lg, z_s1, z_s2, z_kl, z_en, z_kI, z_fv, z_ic, z_c1, z_sh, z_pop, z_rc, z_tgt, z_tsw, z_lsw, z_nw, z_ac, o_kI, o_kL, o_ldi, o_ldl, o_lda, o_sti, o_sta, o_stl, o_inc, o_b2, o_bz, o_l2, o_lz, o_ls, o_lneg, o_i2l, o_l2i, o_lcmp, o_dup, o_dupx1, o_dup2, o_if, o_if2, o_ifnull, o_get, o_put, o_iald, o_zald, o_aald, o_alen, o_iast, o_zast, o_aast, o_new, o_newa, o_call, o_call1, o_callN, o_obj, o_reti, o_retl, o_ret, o_tsw, o_lsw, va_rf_s, va_rf_n, z_u2_s, z_u2_k, z_u2_f, z_uR_f, z_uL_f, e_ix, e_vp, e_lt, e_le, e_eq, e_lt0, e_eq0, e_b0, e_b1, e_10, e_11, true_or, or_true, false_or, nI_add, z_bi_0, z_bi_1, e_bb, z_uR_s, z_uR_k, z_uL_s, z_uL_k, true_and, and_true, and_self, not_true_eq_false, not_false_eq_true, forall_const, Option.toList, List.cons_append, List.nil_append, List.singleton_append, Nat.reduceAdd, Nat.zero_add, Nat.add_zero, Nat.reduceEqDiff, ↓reduceIte, ite_true, ite_false, reduceCtorEq, Int.cast_ofNat_Int, Int.reduceAdd, Int.reduceToNat, ne_eq, false_imp_iff, true_imp_iff, cl_134, bf_134_0, bf_134_62, bf_134_69, bf_134_79, bf_134_115, bf_134_119, bf_134_120, bf_134_168, bf_134_172, bf_134_178, bf_134_223, bf_134_263, bf_134_290, bf_134_332, bf_134_359, bo_134_0, bo_134_62, bo_134_69, bo_134_79, bo_134_115, bo_134_119, bo_134_120, bo_134_168, bo_134_172, bo_134_178, bo_134_223, bo_134_263, bo_134_290, bo_134_332, bo_134_359, hS, hsf, hw]
              skip
              refine fin2 _ _ (Or.inr (by rw [z_l32]; exact c2)) (z_ru hu2) ?_ ?_ ?_ fun j q1 q2 q3 => ?_ <;> simp (disch := omega) only [z_ie, z_in, if_true, ite_true, ↓reduceIte, gr, hf9]
    · refine z_run ck_134 13 bf_134_79 ?_
      have k2 := k1 k hk (ih ())
      simp (disch := omega) only [e_q0, e_nil, e_cons, e_q, e_qf, e_qt, e_af, z_hd, z_mk1, z_lg, z_s1, z_s2, z_kl, z_en, z_kI, z_fv, z_ic, z_c1, z_sh, z_pop, z_rc, z_tgt, z_tsw, z_lsw, z_nw, z_ac, o_kI, o_kL, o_ldi, o_ldl, o_lda, o_sti, o_sta, o_stl, o_inc, o_b2, o_bz, o_l2, o_lz, o_ls, o_lneg, o_i2l, o_l2i, o_lcmp, o_dup, o_dupx1, o_dup2, o_if, o_if2, o_ifnull, o_get, o_put, o_iald, o_zald, o_aald, o_alen, o_iast, o_zast, o_aast, o_new, o_newa, o_call, o_call1, o_callN, o_obj, o_reti, o_retl, o_ret, o_tsw, o_lsw, va_rf_s, va_rf_n, z_u2_s, z_u2_k, z_u2_f, z_uR_f, z_uL_f, e_ix, e_vp, e_lt, e_le, e_eq, e_lt0, e_eq0, e_b0, e_b1, e_10, e_11, true_or, or_true, false_or, nI_add, z_bi_0, z_bi_1, e_bb, z_uR_s, z_uR_k, z_uL_s, z_uL_k, true_and, and_true, and_self, not_true_eq_false, not_false_eq_true, forall_const, Option.toList, List.cons_append, List.nil_append, List.singleton_append, Nat.reduceAdd, Nat.zero_add, Nat.add_zero, Nat.reduceEqDiff, ↓reduceIte, ite_true, ite_false, reduceCtorEq, Int.cast_ofNat_Int, Int.reduceAdd, Int.reduceToNat, ne_eq, false_imp_iff, true_imp_iff, cl_134, bf_134_0, bf_134_62, bf_134_69, bf_134_79, bf_134_115, bf_134_119, bf_134_120, bf_134_168, bf_134_172, bf_134_178, bf_134_223, bf_134_263, bf_134_290, bf_134_332, bf_134_359, bo_134_0, bo_134_62, bo_134_69, bo_134_79, bo_134_115, bo_134_119, bo_134_120, bo_134_168, bo_134_172, bo_134_178, bo_134_223, bo_134_263, bo_134_290, bo_134_332, bo_134_359, hS, hsf, hw, Nat.not_le.mpr, hk]
      unfold f_any at k2
      refine ⟨fun c1 => ⟨fun c2 => ?_, fun c2 => ?_⟩, fun c1 => ?_⟩
      · rw [c1] at k2
        simp only [c2, ne_eq, not_true_eq_false, decide_false, Bool.false_and, Bool.or_false, z_bi] at k2
        rw [c2]; exact k2
      · refine k_priceOf (w := 383) hS hsf h383 (by rw [hf9]; exact h0) (by omega) ?_
        simp (disch := omega) only [e_q0, e_nil, e_cons, e_q, e_qf, e_qt, e_af, z_hd, z_mk1, z_lg, z_s1, z_s2, z_kl, z_en, z_kI, z_fv, z_ic, z_c1, z_sh, z_pop, z_rc, z_tgt, z_tsw, z_lsw, z_nw, z_ac, o_kI, o_kL, o_ldi, o_ldl, o_lda, o_sti, o_sta, o_stl, o_inc, o_b2, o_bz, o_l2, o_lz, o_ls, o_lneg, o_i2l, o_l2i, o_lcmp, o_dup, o_dupx1, o_dup2, o_if, o_if2, o_ifnull, o_get, o_put, o_iald, o_zald, o_aald, o_alen, o_iast, o_zast, o_aast, o_new, o_newa, o_call, o_call1, o_callN, o_obj, o_reti, o_retl, o_ret, o_tsw, o_lsw, va_rf_s, va_rf_n, z_u2_s, z_u2_k, z_u2_f, z_uR_f, z_uL_f, e_ix, e_vp, e_lt, e_le, e_eq, e_lt0, e_eq0, e_b0, e_b1, e_10, e_11, true_or, or_true, false_or, nI_add, z_bi_0, z_bi_1, e_bb, z_uR_s, z_uR_k, z_uL_s, z_uL_k, true_and, and_true, and_self, not_true_eq_false, not_false_eq_true, forall_const, Option.toList, List.cons_append, List.nil_append, List.singleton_append, Nat.reduceAdd, Nat.zero_add, Nat.add_zero, Nat.reduceEqDiff, ↓reduceIte, ite_true, ite_false, reduceCtorEq, Int.cast_ofNat_Int, Int.reduceAdd, Int.reduceToNat, ne_eq, false_imp_iff, true_imp_iff, cl_134, bf_134_0, bf_134_62, bf_134_69, bf_134_79, bf_134_115, bf_134_119, bf_134_120, bf_134_168, bf_134_172, bf_134_178, bf_134_223, bf_134_263, bf_134_290, bf_134_332, bf_134_359, bo_134_0, bo_134_62, bo_134_69, bo_134_79, bo_134_115, bo_134_119, bo_134_120, bo_134_168, bo_134_172, bo_134_178, bo_134_223, bo_134_263, bo_134_290, bo_134_332, bo_134_359, hS, hsf, hw, hf3, hf9]
        rw [c1] at k2
        simp only [eq_false c2, ne_eq, not_false_eq_true, decide_true, Bool.true_and, Bool.false_or] at k2
        refine ⟨fun c3 => ?_, fun c3 => ?_⟩
        · simp only [c3, not_true_eq_false, decide_false, z_bi] at k2; exact k2
        · simp only [c3, not_false_eq_true, decide_true, z_bi] at k2; exact k2
      · simp only [Bool.not_eq_false] at c1
        rw [c1] at k2
        simp only [Bool.true_or, z_bi] at k2
        exact k2
  refine z_okN cz_134.1 (by rw [cl_134]; exact Nat.le_of_ble_eq_true rfl) cz_134.2 (z_run ck_134 13 bf_134_0 ?_)
  simp (disch := omega) only [e_q0, e_nil, e_cons, e_q, e_qf, e_qt, e_af, z_hd, z_mk1, z_lg, z_s1, z_s2, z_kl, z_en, z_kI, z_fv, z_ic, z_c1, z_sh, z_pop, z_rc, z_tgt, z_tsw, z_lsw, z_nw, z_ac, o_kI, o_kL, o_ldi, o_ldl, o_lda, o_sti, o_sta, o_stl, o_inc, o_b2, o_bz, o_l2, o_lz, o_ls, o_lneg, o_i2l, o_l2i, o_lcmp, o_dup, o_dupx1, o_dup2, o_if, o_if2, o_ifnull, o_get, o_put, o_iald, o_zald, o_aald, o_alen, o_iast, o_zast, o_aast, o_new, o_newa, o_call, o_call1, o_callN, o_obj, o_reti, o_retl, o_ret, o_tsw, o_lsw, va_rf_s, va_rf_n, z_u2_s, z_u2_k, z_u2_f, z_uR_f, z_uL_f, e_ix, e_vp, e_lt, e_le, e_eq, e_lt0, e_eq0, e_b0, e_b1, e_10, e_11, true_or, or_true, false_or, nI_add, z_bi_0, z_bi_1, e_bb, z_uR_s, z_uR_k, z_uL_s, z_uL_k, true_and, and_true, and_self, not_true_eq_false, not_false_eq_true, forall_const, Option.toList, List.cons_append, List.nil_append, List.singleton_append, Nat.reduceAdd, Nat.zero_add, Nat.add_zero, Nat.reduceEqDiff, ↓reduceIte, ite_true, ite_false, reduceCtorEq, Int.cast_ofNat_Int, Int.reduceAdd, Int.reduceToNat, ne_eq, false_imp_iff, true_imp_iff, cl_134, bf_134_0, bf_134_62, bf_134_69, bf_134_79, bf_134_115, bf_134_119, bf_134_120, bf_134_168, bf_134_172, bf_134_178, bf_134_223, bf_134_263, bf_134_290, bf_134_332, bf_134_359, bo_134_0, bo_134_62, bo_134_69, bo_134_79, bo_134_115, bo_134_119, bo_134_120, bo_134_168, bo_134_172, bo_134_178, bo_134_223, bo_134_263, bo_134_290, bo_134_332, bo_134_359, hS, hs, hw]
  rcases hp n hn with hq | ⟨p, hp8, hq⟩
  · have hst : f_st1 s (mi 373 23) (mi 383) n = (z_ng 9, mi 383 (8 + n), mi 383 (16 + n)) := by unfold f_st1 f_par; rw [if_pos hq]
    simp (disch := omega) only [e_q0, e_nil, e_cons, e_q, e_qf, e_qt, e_af, z_hd, z_mk1, z_lg, z_s1, z_s2, z_kl, z_en, z_kI, z_fv, z_ic, z_c1, z_sh, z_pop, z_rc, z_tgt, z_tsw, z_lsw, z_nw, z_ac, o_kI, o_kL, o_ldi, o_ldl, o_lda, o_sti, o_sta, o_stl, o_inc, o_b2, o_bz, o_l2, o_lz, o_ls, o_lneg, o_i2l, o_l2i, o_lcmp, o_dup, o_dupx1, o_dup2, o_if, o_if2, o_ifnull, o_get, o_put, o_iald, o_zald, o_aald, o_alen, o_iast, o_zast, o_aast, o_new, o_newa, o_call, o_call1, o_callN, o_obj, o_reti, o_retl, o_ret, o_tsw, o_lsw, va_rf_s, va_rf_n, z_u2_s, z_u2_k, z_u2_f, z_uR_f, z_uL_f, e_ix, e_vp, e_lt, e_le, e_eq, e_lt0, e_eq0, e_b0, e_b1, e_10, e_11, true_or, or_true, false_or, nI_add, z_bi_0, z_bi_1, e_bb, z_uR_s, z_uR_k, z_uL_s, z_uL_k, true_and, and_true, and_self, not_true_eq_false, not_false_eq_true, forall_const, Option.toList, List.cons_append, List.nil_append, List.singleton_append, Nat.reduceAdd, Nat.zero_add, Nat.add_zero, Nat.reduceEqDiff, ↓reduceIte, ite_true, ite_false, reduceCtorEq, Int.cast_ofNat_Int, Int.reduceAdd, Int.reduceToNat, ne_eq, false_imp_iff, true_imp_iff, cl_134, bf_134_0, bf_134_62, bf_134_69, bf_134_79, bf_134_115, bf_134_119, bf_134_120, bf_134_168, bf_134_172, bf_134_178, bf_134_223, bf_134_263, bf_134_290, bf_134_332, bf_134_359, bo_134_0, bo_134_62, bo_134_69, bo_134_79, bo_134_115, bo_134_119, bo_134_120, bo_134_168, bo_134_172, bo_134_178, bo_134_223, bo_134_263, bo_134_290, bo_134_332, bo_134_359, hS, hs, hw, hq]
    refine loop _ fun c j => ?_
    rw [hst]
    simp only [z_u2_if, f_p3]
    by_cases c1 : c = w
    · subst c1
      by_cases c2 : j = n
      · simp [c2]
      · by_cases c3 : j = 8 + n
        · simp [c3, e2]
        · by_cases c4 : j = 16 + n
          · simp [c4, e3]
          · simp [c2, c3, c4]
    · simp [c1]
  · have hpr : f_par (mi 383) n = some p := by unfold f_par; rw [hq, if_neg (by rw [z_on_n (by omega)]; exact not_false), e_ix (by omega)]
    simp (disch := omega) only [e_q0, e_nil, e_cons, e_q, e_qf, e_qt, e_af, z_hd, z_mk1, z_lg, z_s1, z_s2, z_kl, z_en, z_kI, z_fv, z_ic, z_c1, z_sh, z_pop, z_rc, z_tgt, z_tsw, z_lsw, z_nw, z_ac, o_kI, o_kL, o_ldi, o_ldl, o_lda, o_sti, o_sta, o_stl, o_inc, o_b2, o_bz, o_l2, o_lz, o_ls, o_lneg, o_i2l, o_l2i, o_lcmp, o_dup, o_dupx1, o_dup2, o_if, o_if2, o_ifnull, o_get, o_put, o_iald, o_zald, o_aald, o_alen, o_iast, o_zast, o_aast, o_new, o_newa, o_call, o_call1, o_callN, o_obj, o_reti, o_retl, o_ret, o_tsw, o_lsw, va_rf_s, va_rf_n, z_u2_s, z_u2_k, z_u2_f, z_uR_f, z_uL_f, e_ix, e_vp, e_lt, e_le, e_eq, e_lt0, e_eq0, e_b0, e_b1, e_10, e_11, true_or, or_true, false_or, nI_add, z_bi_0, z_bi_1, e_bb, z_uR_s, z_uR_k, z_uL_s, z_uL_k, true_and, and_true, and_self, not_true_eq_false, not_false_eq_true, forall_const, Option.toList, List.cons_append, List.nil_append, List.singleton_append, Nat.reduceAdd, Nat.zero_add, Nat.add_zero, Nat.reduceEqDiff, ↓reduceIte, ite_true, ite_false, reduceCtorEq, Int.cast_ofNat_Int, Int.reduceAdd, Int.reduceToNat, ne_eq, false_imp_iff, true_imp_iff, cl_134, bf_134_0, bf_134_62, bf_134_69, bf_134_79, bf_134_115, bf_134_119, bf_134_120, bf_134_168, bf_134_172, bf_134_178, bf_134_223, bf_134_263, bf_134_290, bf_134_332, bf_134_359, bo_134_0, bo_134_62, bo_134_69, bo_134_79, bo_134_115, bo_134_119, bo_134_120, bo_134_168, bo_134_172, bo_134_178, bo_134_223, bo_134_263, bo_134_290, bo_134_332, bo_134_359, hS, hs, hw, hq, z_on_n]
    refine k_isGood (w := 383) hS hs h383 h0 (by omega) (by omega) ?_
    simp (disch := omega) only [e_q0, e_nil, e_cons, e_q, e_qf, e_qt, e_af, z_hd, z_mk1, z_lg, z_s1, z_s2, z_kl, z_en, z_kI, z_fv, z_ic, z_c1, z_sh, z_pop, z_rc, z_tgt, z_tsw, z_lsw, z_nw, z_ac, o_kI, o_kL, o_ldi, o_ldl, o_lda, o_sti, o_sta, o_stl, o_inc, o_b2, o_bz, o_l2, o_lz, o_ls, o_lneg, o_i2l, o_l2i, o_lcmp, o_dup, o_dupx1, o_dup2, o_if, o_if2, o_ifnull, o_get, o_put, o_iald, o_zald, o_aald, o_alen, o_iast, o_zast, o_aast, o_new, o_newa, o_call, o_call1, o_callN, o_obj, o_reti, o_retl, o_ret, o_tsw, o_lsw, va_rf_s, va_rf_n, z_u2_s, z_u2_k, z_u2_f, z_uR_f, z_uL_f, e_ix, e_vp, e_lt, e_le, e_eq, e_lt0, e_eq0, e_b0, e_b1, e_10, e_11, true_or, or_true, false_or, nI_add, z_bi_0, z_bi_1, e_bb, z_uR_s, z_uR_k, z_uL_s, z_uL_k, true_and, and_true, and_self, not_true_eq_false, not_false_eq_true, forall_const, Option.toList, List.cons_append, List.nil_append, List.singleton_append, Nat.reduceAdd, Nat.zero_add, Nat.add_zero, Nat.reduceEqDiff, ↓reduceIte, ite_true, ite_false, reduceCtorEq, Int.cast_ofNat_Int, Int.reduceAdd, Int.reduceToNat, ne_eq, false_imp_iff, true_imp_iff, cl_134, bf_134_0, bf_134_62, bf_134_69, bf_134_79, bf_134_115, bf_134_119, bf_134_120, bf_134_168, bf_134_172, bf_134_178, bf_134_223, bf_134_263, bf_134_290, bf_134_332, bf_134_359, bo_134_0, bo_134_62, bo_134_69, bo_134_79, bo_134_115, bo_134_119, bo_134_120, bo_134_168, bo_134_172, bo_134_178, bo_134_223, bo_134_263, bo_134_290, bo_134_332, bo_134_359, hS, hs, hw, hq]
    refine ⟨fun c0 => ?_, fun c0 => ?_⟩
    · have hst : f_st1 s (mi 373 23) (mi 383) n = (z_ng 9, mi 383 (8 + n), mi 383 (16 + n)) := by unfold f_st1; rw [hpr]; simp only [c0]; rfl
      refine loop _ fun c j => ?_
      rw [hst]
      simp only [z_u2_if, f_p3]
      by_cases c1 : c = w
      · subst c1
        by_cases c2 : j = n
        · simp [c2]
        · by_cases c3 : j = 8 + n
          · simp [c3, e2]
          · by_cases c4 : j = 16 + n
            · simp [c4, e3]
            · simp [c2, c3, c4]
      · simp [c1]
    · simp only [Bool.not_eq_false] at c0
      have hst : f_st1 s (mi 373 23) (mi 383) n = (mi 383 n, f_price s (mi 373 23) (mi 383) p n, f_seq s (mi 383) p) := by unfold f_st1; rw [hpr]; simp only [c0]; rfl
      refine k_priceOf (w := 383) hS hs h383 h0 (by omega) ?_
      simp (disch := omega) only [e_q0, e_nil, e_cons, e_q, e_qf, e_qt, e_af, z_hd, z_mk1, z_lg, z_s1, z_s2, z_kl, z_en, z_kI, z_fv, z_ic, z_c1, z_sh, z_pop, z_rc, z_tgt, z_tsw, z_lsw, z_nw, z_ac, o_kI, o_kL, o_ldi, o_ldl, o_lda, o_sti, o_sta, o_stl, o_inc, o_b2, o_bz, o_l2, o_lz, o_ls, o_lneg, o_i2l, o_l2i, o_lcmp, o_dup, o_dupx1, o_dup2, o_if, o_if2, o_ifnull, o_get, o_put, o_iald, o_zald, o_aald, o_alen, o_iast, o_zast, o_aast, o_new, o_newa, o_call, o_call1, o_callN, o_obj, o_reti, o_retl, o_ret, o_tsw, o_lsw, va_rf_s, va_rf_n, z_u2_s, z_u2_k, z_u2_f, z_uR_f, z_uL_f, e_ix, e_vp, e_lt, e_le, e_eq, e_lt0, e_eq0, e_b0, e_b1, e_10, e_11, true_or, or_true, false_or, nI_add, z_bi_0, z_bi_1, e_bb, z_uR_s, z_uR_k, z_uL_s, z_uL_k, true_and, and_true, and_self, not_true_eq_false, not_false_eq_true, forall_const, Option.toList, List.cons_append, List.nil_append, List.singleton_append, Nat.reduceAdd, Nat.zero_add, Nat.add_zero, Nat.reduceEqDiff, ↓reduceIte, ite_true, ite_false, reduceCtorEq, Int.cast_ofNat_Int, Int.reduceAdd, Int.reduceToNat, ne_eq, false_imp_iff, true_imp_iff, cl_134, bf_134_0, bf_134_62, bf_134_69, bf_134_79, bf_134_115, bf_134_119, bf_134_120, bf_134_168, bf_134_172, bf_134_178, bf_134_223, bf_134_263, bf_134_290, bf_134_332, bf_134_359, bo_134_0, bo_134_62, bo_134_69, bo_134_79, bo_134_115, bo_134_119, bo_134_120, bo_134_168, bo_134_172, bo_134_178, bo_134_223, bo_134_263, bo_134_290, bo_134_332, bo_134_359, hS, hs, hw, hq]
      have hu := z_ru (k := 8 + n) (x := f_price s (mi 373 23) (mi 383) p n) (z_ru0 (g := mi) (w := w))
      refine k_sequenceOf (w := 383) hS (hs.of fun b q1 q2 => z_sw hu (by omega)) h383 (by omega) ?_
      simp (disch := omega) only [e_q0, e_nil, e_cons, e_q, e_qf, e_qt, e_af, z_hd, z_mk1, z_lg, z_s1, z_s2, z_kl, z_en, z_kI, z_fv, z_ic, z_c1, z_sh, z_pop, z_rc, z_tgt, z_tsw, z_lsw, z_nw, z_ac, o_kI, o_kL, o_ldi, o_ldl, o_lda, o_sti, o_sta, o_stl, o_inc, o_b2, o_bz, o_l2, o_lz, o_ls, o_lneg, o_i2l, o_l2i, o_lcmp, o_dup, o_dupx1, o_dup2, o_if, o_if2, o_ifnull, o_get, o_put, o_iald, o_zald, o_aald, o_alen, o_iast, o_zast, o_aast, o_new, o_newa, o_call, o_call1, o_callN, o_obj, o_reti, o_retl, o_ret, o_tsw, o_lsw, va_rf_s, va_rf_n, z_u2_s, z_u2_k, z_u2_f, z_uR_f, z_uL_f, e_ix, e_vp, e_lt, e_le, e_eq, e_lt0, e_eq0, e_b0, e_b1, e_10, e_11, true_or, or_true, false_or, nI_add, z_bi_0, z_bi_1, e_bb, z_uR_s, z_uR_k, z_uL_s, z_uL_k, true_and, and_true, and_self, not_true_eq_false, not_false_eq_true, forall_const, Option.toList, List.cons_append, List.nil_append, List.singleton_append, Nat.reduceAdd, Nat.zero_add, Nat.add_zero, Nat.reduceEqDiff, ↓reduceIte, ite_true, ite_false, reduceCtorEq, Int.cast_ofNat_Int, Int.reduceAdd, Int.reduceToNat, ne_eq, false_imp_iff, true_imp_iff, cl_134, bf_134_0, bf_134_62, bf_134_69, bf_134_79, bf_134_115, bf_134_119, bf_134_120, bf_134_168, bf_134_172, bf_134_178, bf_134_223, bf_134_263, bf_134_290, bf_134_332, bf_134_359, bo_134_0, bo_134_62, bo_134_69, bo_134_79, bo_134_115, bo_134_119, bo_134_120, bo_134_168, bo_134_172, bo_134_178, bo_134_223, bo_134_263, bo_134_290, bo_134_332, bo_134_359, hS, hs, hw, hq]
      have h39 : z_u2 mi w (8 + n) (f_price s (mi 373 23) (mi 383) p n) 383 = mi 383 := z_sw hu (by omega)
      refine loop _ (z_rw (z_ru hu) (z_row3 ?_ ?_ ?_ fun j q1 q2 q3 => ?_)) <;> simp (disch := omega) only [z_ie, z_in, if_true, ite_true, ↓reduceIte, hst, e1]
end
end
section
/-! what a round leaves alone -/
theorem f_put_hi {r : ZW} {n : Nat} {v : Int32 × Int32 × Int32 × Int32 × Int32} (hn : n < 8) {j : Nat} (hj : 40 ≤ j) : f_put r n v j = r j := by
  unfold f_put
  rw [if_neg (by omega), if_neg (by omega), if_neg (by omega), if_neg (by omega), if_neg (by omega)]
theorem f_rows_hi {s : ZS} {co : Int32} {A : ZW} : ∀ k, k ≤ 8 → ∀ j, 40 ≤ j → f_rows s co A k j = A j
  | 0, _, j, _ => rfl
  | k + 1, hk, j, hj => by
    unfold f_rows
    split
    · rw [f_put_hi (by omega) hj]; exact f_rows_hi k (by omega) j hj
    · exact f_rows_hi k (by omega) j hj
theorem f_rows_a {s : ZS} {co : Int32} {A : ZW} {k : Nat} (h : f_acts s A k = true) : f_rows s co A (k + 1) = f_put (f_rows s co A k) k (f_new s co A k) := if_pos h
theorem f_rows_n {s : ZS} {co : Int32} {A : ZW} {k : Nat} (h : f_acts s A k = false) : f_rows s co A (k + 1) = f_rows s co A k := if_neg (by rw [h]; simp)
theorem f_put_ne {r : ZW} {n m i : Nat} {v : Int32 × Int32 × Int32 × Int32 × Int32} (hn : n < 8) (hi : i < 8) (hne : i ≠ n) : f_put r n v (8 * m + i) = r (8 * m + i) := by
  unfold f_put
  rw [if_neg (by omega), if_neg (by omega), if_neg (by omega), if_neg (by omega), if_neg (by omega)]
theorem f_rows_at {s : ZS} {co : Int32} {A : ZW} (m i : Nat) (hi : i < 8) : ∀ k, k ≤ i → f_rows s co A k (8 * m + i) = A (8 * m + i)
  | 0, _ => rfl
  | k + 1, hk => by
    unfold f_rows
    split
    · rw [f_put_ne (by omega) hi (by omega)]; exact f_rows_at m i hi k (by omega)
    · exact f_rows_at m i hi k (by omega)
theorem f_go_hi {s : ZS} {co : Int32} {A : ZW} (hn : s.1.1 ≤ 8) {j : Nat} (hj : 40 ≤ j) (h6 : j ≠ 76) (h7 : j ≠ 77) : f_go s co A j = A j := by
  unfold f_go
  rw [if_neg h7, if_neg h6]
  exact f_rows_hi _ hn j hj
theorem f_go_pos {s : ZS} {co : Int32} {A : ZW} (hs : s.1.1 ≤ 8 ∧ s.1.2 ≤ 9) (h : f_pos s A) : f_pos s (f_go s co A) := by
  intro k hk
  rw [f_go_hi hs.1 (by omega) (by omega) (by omega), f_go_hi hs.1 (by omega) (by omega) (by omega)]
  exact h k hk
theorem f_go_z {s : ZS} {co : Int32} {A : ZW} (hs : s.1.1 ≤ 8) (h : z_hi A) : z_hi (f_go s co A) := by
  intro j hj
  rw [f_go_hi hs (by omega) (by omega) (by omega)]
  exact h j hj
theorem f_st1_ok {s : ZS} {co : Int32} {A : ZW} {n : Nat} (hp : A n = z_ng 9 ∨ ∃ j, j < s.1.1 ∧ A n = nI j) : (f_st1 s co A n).1 = z_ng 9 ∨ ∃ j, j < s.1.1 ∧ (f_st1 s co A n).1 = nI j := by
  unfold f_st1
  cases hq : f_par A n with
  | none => exact Or.inl rfl
  | some p =>
    simp only
    split
    · exact hp
    · exact Or.inl rfl
theorem f_st2_ok {s : ZS} {co : Int32} {A : ZW} {n : Nat} (hp : A n = z_ng 9 ∨ ∃ j, j < s.1.1 ∧ A n = nI j) : (f_st2 s co A n).1 = z_ng 9 ∨ ∃ j, j < s.1.1 ∧ (f_st2 s co A n).1 = nI j := by
  unfold f_st2
  cases hq : f_best s co A n s.1.1 with
  | none => exact f_st1_ok hp
  | some b =>
    simp only
    split
    · exact Or.inr ⟨b, f_best_lt _ _ hq, rfl⟩
    · exact f_st1_ok hp
theorem f_new_ok {s : ZS} {co : Int32} {A : ZW} {n : Nat} (hp : A n = z_ng 9 ∨ ∃ j, j < s.1.1 ∧ A n = nI j) : (f_new s co A n).1 = z_ng 9 ∨ ∃ j, j < s.1.1 ∧ (f_new s co A n).1 = nI j := by
  unfold f_new
  split
  · exact Or.inl rfl
  · split
    · exact f_st2_ok hp
    · split
      · exact f_st2_ok hp
      · exact f_st2_ok hp
theorem f_rows_ok {s : ZS} {co : Int32} {A : ZW} (hs : s.1.1 ≤ 8) (hp : f_pok A s.1.1) : ∀ k, k ≤ s.1.1 → f_pok (f_rows s co A k) s.1.1
  | 0, _ => hp
  | k + 1, hk => by
    have ih := f_rows_ok (co := co) hs hp k (by omega)
    unfold f_rows
    split
    · intro i hi
      by_cases e : i = k
      · subst e
        have : f_put (f_rows s co A i) i (f_new s co A i) i = (f_new s co A i).1 := if_pos rfl
        rw [this]
        exact f_new_ok (hp i hi)
      · have := f_put_ne (r := f_rows s co A k) (n := k) (m := 0) (i := i) (v := f_new s co A k) (by omega) (by omega) e
        rw [Nat.mul_zero, Nat.zero_add] at this
        rw [this]
        exact ih i hi
    · exact ih
theorem f_go_ok {s : ZS} {co : Int32} {A : ZW} (hs : s.1.1 ≤ 8) (hp : f_pok A s.1.1) : f_pok (f_go s co A) s.1.1 := by
  intro i hi
  unfold f_go
  rw [if_neg (by omega), if_neg (by omega)]
  exact f_rows_ok hs hp _ (Nat.le_refl _) i hi
/-- a mesh's leaves have cycles -/
def f_cyc (s : ZS) : Prop := ∀ i, i < s.1.1 → s.2 0 i = nI 2 → ¬ s.2 1 i = 0
/-- all that a row needs for a round -/
def f_rok (s : ZS) (r : ZW) : Prop := f_pos s r ∧ f_pok r s.1.1 ∧ z_hi r
theorem f_go_rok {s : ZS} {co : Int32} {A : ZW} (hs : s.1.1 ≤ 8 ∧ s.1.2 ≤ 9) (h : f_rok s A) : f_rok s (f_go s co A) := ⟨f_go_pos hs h.1, f_go_ok hs.1 h.2.1, f_go_z hs.1 h.2.2⟩
theorem f_gos_rok {s : ZS} {co : Int32} (hs : s.1.1 ≤ 8 ∧ s.1.2 ≤ 9) : ∀ k A, f_rok s A → f_rok s (f_gos s co k A)
  | 0, A, h => h
  | k + 1, A, h => f_gos_rok hs k _ (f_go_rok hs h)
theorem f_gos_s {s : ZS} {co : Int32} : ∀ k A, f_gos s co (k + 1) A = f_go s co (f_gos s co k A)
  | 0, A => rfl
  | k + 1, A => f_gos_s k (f_go s co A)
section
variable {l : Launch} {G : ZG} {mi : Nat → Nat → Int32} {mr : Nat → Nat → Option Nat} {ml : Nat → Nat → Int64} {T : (Nat → Nat × Nat) × Nat × Nat} {Q : ZR}
theorem k_goOn {s : ZS} {w : Nat} (hS : SM T mr) (hs : PMs mi s) (hw : T.1 w = (2, 78)) (hw9 : w = 381 ∨ w = 382) (hr : f_rok s (mi w)) (hz : z_hi (mi 383)) (hc : f_cyc s)
    (h : ∀ f, (∀ c j, f c j = if c = w then f_go s (mi 373 23) (mi w) j else if c = 383 then mi w j else mi c j) → Q none (f, mr, ml, T)) : z_Ok l G m_Model_goOn [.ref 373, .ref w] (mi, mr, ml, T) Q := by
  have h8 := hs.2
  have h383 : T.1 383 = (2, 78) := by rw [hS.1.2.2.2.2.2.2.2.2.2.2.1]
  refine z_okN cz_135.1 (by rw [cl_135]; exact Nat.le_of_ble_eq_true rfl) cz_135.2 (z_run ck_135 9 bf_135_0 ?_)
  simp (disch := omega) only [e_q0, e_nil, e_cons, e_q, e_qf, e_qt, e_af, z_hd, z_mk1, z_lg, z_s1, z_s2, z_kl, z_en, z_kI, z_fv, z_ic, z_c1, z_sh, z_pop, z_rc, z_tgt, z_tsw, z_lsw, z_nw, z_ac, o_kI, o_kL, o_ldi, o_ldl, o_lda, o_sti, o_sta, o_stl, o_inc, o_b2, o_bz, o_l2, o_lz, o_ls, o_lneg, o_i2l, o_l2i, o_lcmp, o_dup, o_dupx1, o_dup2, o_if, o_if2, o_ifnull, o_get, o_put, o_iald, o_zald, o_aald, o_alen, o_iast, o_zast, o_aast, o_new, o_newa, o_call, o_call1, o_callN, o_obj, o_reti, o_retl, o_ret, o_tsw, o_lsw, va_rf_s, va_rf_n, z_u2_s, z_u2_k, z_u2_f, z_uR_f, z_uL_f, e_ix, e_vp, e_lt, e_le, e_eq, e_lt0, e_eq0, e_b0, e_b1, e_10, e_11, true_or, or_true, false_or, nI_add, z_bi_0, z_bi_1, e_bb, z_uR_s, z_uR_k, z_uL_s, z_uL_k, true_and, and_true, and_self, not_true_eq_false, not_false_eq_true, forall_const, Option.toList, List.cons_append, List.nil_append, List.singleton_append, Nat.reduceAdd, Nat.zero_add, Nat.add_zero, Nat.reduceEqDiff, ↓reduceIte, ite_true, ite_false, reduceCtorEq, Int.cast_ofNat_Int, Int.reduceAdd, Int.reduceToNat, ne_eq, false_imp_iff, true_imp_iff, cl_135, bf_135_0, bf_135_12, bf_135_57, bf_135_61, bf_135_62, bf_135_63, bf_135_69, bf_135_82, bf_135_83, bo_135_0, bo_135_12, bo_135_57, bo_135_61, bo_135_62, bo_135_63, bo_135_69, bo_135_82, bo_135_83, hS, hs, hw]
  refine k_copy (a := w) (b := 383) hw h383 (by omega) fun f1 hf1 => ?_
  have h1 : f1 383 = mi w := funext fun j => by
    rw [hf1]
    by_cases c : j < 78
    · rw [if_pos ⟨rfl, c⟩]
    · rw [if_neg (fun q => c q.2), hz j (by omega), hr.2.2 j (by omega)]
  have h2 : ∀ c, c ≠ 383 → f1 c = mi c := fun c q => funext fun j => by rw [hf1, if_neg (fun z => q z.1)]
  clear hf1
  simp (disch := omega) only [e_q0, e_nil, e_cons, e_q, e_qf, e_qt, e_af, z_hd, z_mk1, z_lg, z_s1, z_s2, z_kl, z_en, z_kI, z_fv, z_ic, z_c1, z_sh, z_pop, z_rc, z_tgt, z_tsw, z_lsw, z_nw, z_ac, o_kI, o_kL, o_ldi, o_ldl, o_lda, o_sti, o_sta, o_stl, o_inc, o_b2, o_bz, o_l2, o_lz, o_ls, o_lneg, o_i2l, o_l2i, o_lcmp, o_dup, o_dupx1, o_dup2, o_if, o_if2, o_ifnull, o_get, o_put, o_iald, o_zald, o_aald, o_alen, o_iast, o_zast, o_aast, o_new, o_newa, o_call, o_call1, o_callN, o_obj, o_reti, o_retl, o_ret, o_tsw, o_lsw, va_rf_s, va_rf_n, z_u2_s, z_u2_k, z_u2_f, z_uR_f, z_uL_f, e_ix, e_vp, e_lt, e_le, e_eq, e_lt0, e_eq0, e_b0, e_b1, e_10, e_11, true_or, or_true, false_or, nI_add, z_bi_0, z_bi_1, e_bb, z_uR_s, z_uR_k, z_uL_s, z_uL_k, true_and, and_true, and_self, not_true_eq_false, not_false_eq_true, forall_const, Option.toList, List.cons_append, List.nil_append, List.singleton_append, Nat.reduceAdd, Nat.zero_add, Nat.add_zero, Nat.reduceEqDiff, ↓reduceIte, ite_true, ite_false, reduceCtorEq, Int.cast_ofNat_Int, Int.reduceAdd, Int.reduceToNat, ne_eq, false_imp_iff, true_imp_iff, cl_135, bf_135_0, bf_135_12, bf_135_57, bf_135_61, bf_135_62, bf_135_63, bf_135_69, bf_135_82, bf_135_83, bo_135_0, bo_135_12, bo_135_57, bo_135_61, bo_135_62, bo_135_63, bo_135_69, bo_135_82, bo_135_83, hS, hs, hw]
  refine z_for (P := fun k f => (∀ c j, f c j = if c = w then f_rows s (mi 373 23) (mi w) k j else f1 c j) → z_W l G 135 (T.2.1, T.2.2) (fun v M' => Q v M' ∧ M'.2.2.2 = T) 12 [some (.ref 373), some (.ref w), some (.int (z_bi (f_asks s (mi 373 23) (mi w) k))), some (.int (nI k))] [] (f, mr, ml, T)) s.1.1 (fun f hf => ?_) (fun k hk ih f hf => ?_) 0 (by omega) f1 (fun c j => by
      by_cases q : c = w
      · rw [if_pos q, q, h2 w (by omega)]; rfl
      · rw [if_neg q])
  · have hsf : PMs f s := hs.of fun b q1 q2 => by rw [z_sw hf (by omega), h2 b (by omega)]
    refine z_run ck_135 9 bf_135_12 ?_
    simp (disch := omega) only [e_q0, e_nil, e_cons, e_q, e_qf, e_qt, e_af, z_hd, z_mk1, z_lg, z_s1, z_s2, z_kl, z_en, z_kI, z_fv, z_ic, z_c1, z_sh, z_pop, z_rc, z_tgt, z_tsw, z_lsw, z_nw, z_ac, o_kI, o_kL, o_ldi, o_ldl, o_lda, o_sti, o_sta, o_stl, o_inc, o_b2, o_bz, o_l2, o_lz, o_ls, o_lneg, o_i2l, o_l2i, o_lcmp, o_dup, o_dupx1, o_dup2, o_if, o_if2, o_ifnull, o_get, o_put, o_iald, o_zald, o_aald, o_alen, o_iast, o_zast, o_aast, o_new, o_newa, o_call, o_call1, o_callN, o_obj, o_reti, o_retl, o_ret, o_tsw, o_lsw, va_rf_s, va_rf_n, z_u2_s, z_u2_k, z_u2_f, z_uR_f, z_uL_f, e_ix, e_vp, e_lt, e_le, e_eq, e_lt0, e_eq0, e_b0, e_b1, e_10, e_11, true_or, or_true, false_or, nI_add, z_bi_0, z_bi_1, e_bb, z_uR_s, z_uR_k, z_uL_s, z_uL_k, true_and, and_true, and_self, not_true_eq_false, not_false_eq_true, forall_const, Option.toList, List.cons_append, List.nil_append, List.singleton_append, Nat.reduceAdd, Nat.zero_add, Nat.add_zero, Nat.reduceEqDiff, ↓reduceIte, ite_true, ite_false, reduceCtorEq, Int.cast_ofNat_Int, Int.reduceAdd, Int.reduceToNat, ne_eq, false_imp_iff, true_imp_iff, cl_135, bf_135_0, bf_135_12, bf_135_57, bf_135_61, bf_135_62, bf_135_63, bf_135_69, bf_135_82, bf_135_83, bo_135_0, bo_135_12, bo_135_57, bo_135_61, bo_135_62, bo_135_63, bo_135_69, bo_135_82, bo_135_83, hS, hsf, hw, Nat.le_refl]
    have g6 : f w 76 = mi w 76 := by rw [z_sr hf]; exact f_rows_hi _ h8.1 _ (by omega)
    have g7 : f w 77 = mi w 77 := by rw [z_sr hf]; exact f_rows_hi _ h8.1 _ (by omega)
    have fin : ∀ x, x = (if f_asks s (mi 373 23) (mi w) s.1.1 then nI 1 else nI 0) → Q none (z_u2 (z_u2 f w 76 (mi w 76 + x)) w 77 (mi w 77 + nI 1), mr, ml, T) := by
      intro x hx
      refine h _ fun c j => ?_
      rw [z_ru (z_ru hf)]
      by_cases q : c = w
      · rw [if_pos q, if_pos q]; unfold f_go; rw [hx]
      · rw [if_neg q, if_neg q]
        by_cases q3 : c = 383
        · rw [if_pos q3, q3, h1]
        · rw [if_neg q3, h2 c q3]
    simp only [g6, g7]
    exact ⟨fun q => fin _ (by rw [q]; rfl), fun q => fin _ (by simp only [Bool.not_eq_false] at q; rw [q]; rfl)⟩
  · have hsf : PMs f s := hs.of fun b q1 q2 => by rw [z_sw hf (by omega), h2 b (by omega)]
    have hf9 : f 383 = mi w := by rw [z_sw hf (by omega), h1]
    have hf3 : f 373 = mi 373 := by rw [z_sw hf (by omega), h2 373 (by omega)]
    refine z_run ck_135 9 bf_135_12 ?_
    simp (disch := omega) only [e_q0, e_nil, e_cons, e_q, e_qf, e_qt, e_af, z_hd, z_mk1, z_lg, z_s1, z_s2, z_kl, z_en, z_kI, z_fv, z_ic, z_c1, z_sh, z_pop, z_rc, z_tgt, z_tsw, z_lsw, z_nw, z_ac, o_kI, o_kL, o_ldi, o_ldl, o_lda, o_sti, o_sta, o_stl, o_inc, o_b2, o_bz, o_l2, o_lz, o_ls, o_lneg, o_i2l, o_l2i, o_lcmp, o_dup, o_dupx1, o_dup2, o_if, o_if2, o_ifnull, o_get, o_put, o_iald, o_zald, o_aald, o_alen, o_iast, o_zast, o_aast, o_new, o_newa, o_call, o_call1, o_callN, o_obj, o_reti, o_retl, o_ret, o_tsw, o_lsw, va_rf_s, va_rf_n, z_u2_s, z_u2_k, z_u2_f, z_uR_f, z_uL_f, e_ix, e_vp, e_lt, e_le, e_eq, e_lt0, e_eq0, e_b0, e_b1, e_10, e_11, true_or, or_true, false_or, nI_add, z_bi_0, z_bi_1, e_bb, z_uR_s, z_uR_k, z_uL_s, z_uL_k, true_and, and_true, and_self, not_true_eq_false, not_false_eq_true, forall_const, Option.toList, List.cons_append, List.nil_append, List.singleton_append, Nat.reduceAdd, Nat.zero_add, Nat.add_zero, Nat.reduceEqDiff, ↓reduceIte, ite_true, ite_false, reduceCtorEq, Int.cast_ofNat_Int, Int.reduceAdd, Int.reduceToNat, ne_eq, false_imp_iff, true_imp_iff, cl_135, bf_135_0, bf_135_12, bf_135_57, bf_135_61, bf_135_62, bf_135_63, bf_135_69, bf_135_82, bf_135_83, bo_135_0, bo_135_12, bo_135_57, bo_135_61, bo_135_62, bo_135_63, bo_135_69, bo_135_82, bo_135_83, hS, hsf, hw, Nat.not_le.mpr, hk, hf9]
    have idle : f_acts s (mi w) k = false → z_W l G 135 (T.2.1, T.2.2) (fun v M' => Q v M' ∧ M'.2.2.2 = T) 12 [some (.ref 373), some (.ref w), some (.int (z_bi (f_asks s (mi 373 23) (mi w) k))), some (.int (nI (k + 1)))] [] (f, mr, ml, T) := by
      intro q
      have := ih f (fun c j => by rw [f_rows_n q]; exact hf c j)
      unfold f_asks at this
      rw [q, Bool.false_and, Bool.or_false] at this
      exact this
    refine ⟨fun c1 => idle (by simp [f_acts, c1]), fun c1 => k_isAwake hS hsf (by omega) (hc k hk) ?_⟩
    simp (disch := omega) only [e_q0, e_nil, e_cons, e_q, e_qf, e_qt, e_af, z_hd, z_mk1, z_lg, z_s1, z_s2, z_kl, z_en, z_kI, z_fv, z_ic, z_c1, z_sh, z_pop, z_rc, z_tgt, z_tsw, z_lsw, z_nw, z_ac, o_kI, o_kL, o_ldi, o_ldl, o_lda, o_sti, o_sta, o_stl, o_inc, o_b2, o_bz, o_l2, o_lz, o_ls, o_lneg, o_i2l, o_l2i, o_lcmp, o_dup, o_dupx1, o_dup2, o_if, o_if2, o_ifnull, o_get, o_put, o_iald, o_zald, o_aald, o_alen, o_iast, o_zast, o_aast, o_new, o_newa, o_call, o_call1, o_callN, o_obj, o_reti, o_retl, o_ret, o_tsw, o_lsw, va_rf_s, va_rf_n, z_u2_s, z_u2_k, z_u2_f, z_uR_f, z_uL_f, e_ix, e_vp, e_lt, e_le, e_eq, e_lt0, e_eq0, e_b0, e_b1, e_10, e_11, true_or, or_true, false_or, nI_add, z_bi_0, z_bi_1, e_bb, z_uR_s, z_uR_k, z_uL_s, z_uL_k, true_and, and_true, and_self, not_true_eq_false, not_false_eq_true, forall_const, Option.toList, List.cons_append, List.nil_append, List.singleton_append, Nat.reduceAdd, Nat.zero_add, Nat.add_zero, Nat.reduceEqDiff, ↓reduceIte, ite_true, ite_false, reduceCtorEq, Int.cast_ofNat_Int, Int.reduceAdd, Int.reduceToNat, ne_eq, false_imp_iff, true_imp_iff, cl_135, bf_135_0, bf_135_12, bf_135_57, bf_135_61, bf_135_62, bf_135_63, bf_135_69, bf_135_82, bf_135_83, bo_135_0, bo_135_12, bo_135_57, bo_135_61, bo_135_62, bo_135_63, bo_135_69, bo_135_82, bo_135_83, hS, hsf, hw, hf9]
    refine ⟨fun c2 => idle (by simp [f_acts, c2]), fun c2 => ?_⟩
    simp only [Bool.not_eq_false] at c2
    have hact : f_acts s (mi w) k = true := by simp [f_acts, c1, c2]
    have at' : ∀ m, f w (8 * m + k) = f 383 (8 * m + k) := fun m => by rw [z_sr hf, hf9]; exact f_rows_at m k (by omega) k (Nat.le_refl _)
    refine k_hears hS hsf hw hw9 hk (by rw [hf9]; exact hr.1) (by rw [hf9]; exact hr.2.1) (by have := at' 0; rwa [Nat.mul_zero, Nat.zero_add] at this) (at' 1) (at' 2) (at' 3) (at' 4) fun f' hf' => ?_
    have next := ih f' (fun c j => by
      rw [hf', hf9, hf3]
      by_cases q : c = w
      · rw [if_pos q, if_pos q, z_sr hf, f_rows_a hact]
      · rw [if_neg q, if_neg q, hf, if_neg q])
    unfold f_asks at next
    rw [hact, Bool.true_and] at next
    simp (disch := omega) only [e_q0, e_nil, e_cons, e_q, e_qf, e_qt, e_af, z_hd, z_mk1, z_lg, z_s1, z_s2, z_kl, z_en, z_kI, z_fv, z_ic, z_c1, z_sh, z_pop, z_rc, z_tgt, z_tsw, z_lsw, z_nw, z_ac, o_kI, o_kL, o_ldi, o_ldl, o_lda, o_sti, o_sta, o_stl, o_inc, o_b2, o_bz, o_l2, o_lz, o_ls, o_lneg, o_i2l, o_l2i, o_lcmp, o_dup, o_dupx1, o_dup2, o_if, o_if2, o_ifnull, o_get, o_put, o_iald, o_zald, o_aald, o_alen, o_iast, o_zast, o_aast, o_new, o_newa, o_call, o_call1, o_callN, o_obj, o_reti, o_retl, o_ret, o_tsw, o_lsw, va_rf_s, va_rf_n, z_u2_s, z_u2_k, z_u2_f, z_uR_f, z_uL_f, e_ix, e_vp, e_lt, e_le, e_eq, e_lt0, e_eq0, e_b0, e_b1, e_10, e_11, true_or, or_true, false_or, nI_add, z_bi_0, z_bi_1, e_bb, z_uR_s, z_uR_k, z_uL_s, z_uL_k, true_and, and_true, and_self, not_true_eq_false, not_false_eq_true, forall_const, Option.toList, List.cons_append, List.nil_append, List.singleton_append, Nat.reduceAdd, Nat.zero_add, Nat.add_zero, Nat.reduceEqDiff, ↓reduceIte, ite_true, ite_false, reduceCtorEq, Int.cast_ofNat_Int, Int.reduceAdd, Int.reduceToNat, ne_eq, false_imp_iff, true_imp_iff, cl_135, bf_135_0, bf_135_12, bf_135_57, bf_135_61, bf_135_62, bf_135_63, bf_135_69, bf_135_82, bf_135_83, bo_135_0, bo_135_12, bo_135_57, bo_135_61, bo_135_62, bo_135_63, bo_135_69, bo_135_82, bo_135_83, hS, hw, hf9, hf3]
    refine ⟨fun c3 => ⟨fun c4 => ?_, fun c4 => ?_⟩, fun c3 => ?_⟩
    · rw [c3, c4] at next; exact next
    · simp only [Bool.not_eq_false] at c4; rw [c4] at next; exact next
    · simp only [Bool.not_eq_false] at c3; rw [c3, Bool.or_true] at next; exact next
theorem k_tryRounds {s : ZS} {m : Nat} (hS : SM T mr) (hs : PMs mi s) (hm : m < 1000) (hr : f_rok s (mi 382)) (hz : z_hi (mi 383)) (hc : f_cyc s)
    (h : ∀ f, (∀ c, c ≠ 382 → c ≠ 383 → f c = mi c) → f 382 = f_gos s (mi 373 23) m (mi 382) → z_hi (f 383) → Q none (f, mr, ml, T)) : z_Ok l G m_Model_tryRounds [.ref 373, .int (nI m)] (mi, mr, ml, T) Q := by
  have h8 := hs.2
  have hw : T.1 382 = (2, 78) := by rw [hS.1.2.2.2.2.2.2.2.2.2.1]
  refine z_okN cz_136.1 (by rw [cl_136]; exact Nat.le_of_ble_eq_true rfl) cz_136.2 (z_run ck_136 3 bf_136_0 ?_)
  simp (disch := omega) only [e_q0, e_nil, e_cons, e_q, e_qf, e_qt, e_af, z_hd, z_mk1, z_lg, z_s1, z_s2, z_kl, z_en, z_kI, z_fv, z_ic, z_c1, z_sh, z_pop, z_rc, z_tgt, z_tsw, z_lsw, z_nw, z_ac, o_kI, o_kL, o_ldi, o_ldl, o_lda, o_sti, o_sta, o_stl, o_inc, o_b2, o_bz, o_l2, o_lz, o_ls, o_lneg, o_i2l, o_l2i, o_lcmp, o_dup, o_dupx1, o_dup2, o_if, o_if2, o_ifnull, o_get, o_put, o_iald, o_zald, o_aald, o_alen, o_iast, o_zast, o_aast, o_new, o_newa, o_call, o_call1, o_callN, o_obj, o_reti, o_retl, o_ret, o_tsw, o_lsw, va_rf_s, va_rf_n, z_u2_s, z_u2_k, z_u2_f, z_uR_f, z_uL_f, e_ix, e_vp, e_lt, e_le, e_eq, e_lt0, e_eq0, e_b0, e_b1, e_10, e_11, true_or, or_true, false_or, nI_add, z_bi_0, z_bi_1, e_bb, z_uR_s, z_uR_k, z_uL_s, z_uL_k, true_and, and_true, and_self, not_true_eq_false, not_false_eq_true, forall_const, Option.toList, List.cons_append, List.nil_append, List.singleton_append, Nat.reduceAdd, Nat.zero_add, Nat.add_zero, Nat.reduceEqDiff, ↓reduceIte, ite_true, ite_false, reduceCtorEq, Int.cast_ofNat_Int, Int.reduceAdd, Int.reduceToNat, ne_eq, false_imp_iff, true_imp_iff, cl_136, bf_136_0, bf_136_2, bf_136_21, bo_136_0, bo_136_2, bo_136_21, hS, hs, hw]
  refine z_for (P := fun k f => ((∀ c, c ≠ 382 → c ≠ 383 → f c = mi c) ∧ f 382 = f_gos s (mi 373 23) k (mi 382) ∧ z_hi (f 383)) → z_W l G 136 (T.2.1, T.2.2) (fun v M' => Q v M' ∧ M'.2.2.2 = T) 2 [some (.ref 373), some (.int (nI m)), some (.int (nI k))] [] (f, mr, ml, T)) m (fun f hf => ?_) (fun k hk ih f hf => ?_) 0 (by omega) mi ⟨fun _ _ _ => rfl, rfl, hz⟩
  · refine z_run ck_136 3 bf_136_2 ?_
    simp (disch := omega) only [e_q0, e_nil, e_cons, e_q, e_qf, e_qt, e_af, z_hd, z_mk1, z_lg, z_s1, z_s2, z_kl, z_en, z_kI, z_fv, z_ic, z_c1, z_sh, z_pop, z_rc, z_tgt, z_tsw, z_lsw, z_nw, z_ac, o_kI, o_kL, o_ldi, o_ldl, o_lda, o_sti, o_sta, o_stl, o_inc, o_b2, o_bz, o_l2, o_lz, o_ls, o_lneg, o_i2l, o_l2i, o_lcmp, o_dup, o_dupx1, o_dup2, o_if, o_if2, o_ifnull, o_get, o_put, o_iald, o_zald, o_aald, o_alen, o_iast, o_zast, o_aast, o_new, o_newa, o_call, o_call1, o_callN, o_obj, o_reti, o_retl, o_ret, o_tsw, o_lsw, va_rf_s, va_rf_n, z_u2_s, z_u2_k, z_u2_f, z_uR_f, z_uL_f, e_ix, e_vp, e_lt, e_le, e_eq, e_lt0, e_eq0, e_b0, e_b1, e_10, e_11, true_or, or_true, false_or, nI_add, z_bi_0, z_bi_1, e_bb, z_uR_s, z_uR_k, z_uL_s, z_uL_k, true_and, and_true, and_self, not_true_eq_false, not_false_eq_true, forall_const, Option.toList, List.cons_append, List.nil_append, List.singleton_append, Nat.reduceAdd, Nat.zero_add, Nat.add_zero, Nat.reduceEqDiff, ↓reduceIte, ite_true, ite_false, reduceCtorEq, Int.cast_ofNat_Int, Int.reduceAdd, Int.reduceToNat, ne_eq, false_imp_iff, true_imp_iff, cl_136, bf_136_0, bf_136_2, bf_136_21, bo_136_0, bo_136_2, bo_136_21, hS, Nat.le_refl]
    exact h f hf.1 hf.2.1 hf.2.2
  · have hsf : PMs f s := hs.of fun b q1 q2 => hf.1 b (by omega) (by omega)
    refine z_run ck_136 3 bf_136_2 ?_
    simp (disch := omega) only [e_q0, e_nil, e_cons, e_q, e_qf, e_qt, e_af, z_hd, z_mk1, z_lg, z_s1, z_s2, z_kl, z_en, z_kI, z_fv, z_ic, z_c1, z_sh, z_pop, z_rc, z_tgt, z_tsw, z_lsw, z_nw, z_ac, o_kI, o_kL, o_ldi, o_ldl, o_lda, o_sti, o_sta, o_stl, o_inc, o_b2, o_bz, o_l2, o_lz, o_ls, o_lneg, o_i2l, o_l2i, o_lcmp, o_dup, o_dupx1, o_dup2, o_if, o_if2, o_ifnull, o_get, o_put, o_iald, o_zald, o_aald, o_alen, o_iast, o_zast, o_aast, o_new, o_newa, o_call, o_call1, o_callN, o_obj, o_reti, o_retl, o_ret, o_tsw, o_lsw, va_rf_s, va_rf_n, z_u2_s, z_u2_k, z_u2_f, z_uR_f, z_uL_f, e_ix, e_vp, e_lt, e_le, e_eq, e_lt0, e_eq0, e_b0, e_b1, e_10, e_11, true_or, or_true, false_or, nI_add, z_bi_0, z_bi_1, e_bb, z_uR_s, z_uR_k, z_uL_s, z_uL_k, true_and, and_true, and_self, not_true_eq_false, not_false_eq_true, forall_const, Option.toList, List.cons_append, List.nil_append, List.singleton_append, Nat.reduceAdd, Nat.zero_add, Nat.add_zero, Nat.reduceEqDiff, ↓reduceIte, ite_true, ite_false, reduceCtorEq, Int.cast_ofNat_Int, Int.reduceAdd, Int.reduceToNat, ne_eq, false_imp_iff, true_imp_iff, cl_136, bf_136_0, bf_136_2, bf_136_21, bo_136_0, bo_136_2, bo_136_21, hS, Nat.not_le.mpr, hk]
    refine k_goOn (w := 382) hS hsf hw (Or.inr rfl) (by rw [hf.2.1]; exact f_gos_rok h8 _ _ hr) hf.2.2 hc fun f' hf' => ?_
    simp (disch := omega) only [e_q0, e_nil, e_cons, e_q, e_qf, e_qt, e_af, z_hd, z_mk1, z_lg, z_s1, z_s2, z_kl, z_en, z_kI, z_fv, z_ic, z_c1, z_sh, z_pop, z_rc, z_tgt, z_tsw, z_lsw, z_nw, z_ac, o_kI, o_kL, o_ldi, o_ldl, o_lda, o_sti, o_sta, o_stl, o_inc, o_b2, o_bz, o_l2, o_lz, o_ls, o_lneg, o_i2l, o_l2i, o_lcmp, o_dup, o_dupx1, o_dup2, o_if, o_if2, o_ifnull, o_get, o_put, o_iald, o_zald, o_aald, o_alen, o_iast, o_zast, o_aast, o_new, o_newa, o_call, o_call1, o_callN, o_obj, o_reti, o_retl, o_ret, o_tsw, o_lsw, va_rf_s, va_rf_n, z_u2_s, z_u2_k, z_u2_f, z_uR_f, z_uL_f, e_ix, e_vp, e_lt, e_le, e_eq, e_lt0, e_eq0, e_b0, e_b1, e_10, e_11, true_or, or_true, false_or, nI_add, z_bi_0, z_bi_1, e_bb, z_uR_s, z_uR_k, z_uL_s, z_uL_k, true_and, and_true, and_self, not_true_eq_false, not_false_eq_true, forall_const, Option.toList, List.cons_append, List.nil_append, List.singleton_append, Nat.reduceAdd, Nat.zero_add, Nat.add_zero, Nat.reduceEqDiff, ↓reduceIte, ite_true, ite_false, reduceCtorEq, Int.cast_ofNat_Int, Int.reduceAdd, Int.reduceToNat, ne_eq, false_imp_iff, true_imp_iff, cl_136, bf_136_0, bf_136_2, bf_136_21, bo_136_0, bo_136_2, bo_136_21, hS]
    refine ih f' ⟨fun c q1 q2 => funext fun j => by rw [hf', if_neg q1, if_neg q2, hf.1 c q1 q2], funext fun j => ?_, ?_⟩
    · rw [hf', if_pos rfl, f_gos_s, hf.1 373 (by omega) (by omega), hf.2.1]
    · intro j hj
      rw [hf', if_neg (by omega), if_pos rfl, hf.2.1]
      exact (f_gos_rok h8 _ _ hr).2.2 j hj
end
end
section
section
variable {l : Launch} {G : ZG} {mi : Nat → Nat → Int32} {mr : Nat → Nat → Option Nat} {ml : Nat → Nat → Int64} {T : (Nat → Nat × Nat) × Nat × Nat} {Q : ZR}
theorem f_end_0 {s : ZS} {r : ZW} {k a : Nat} (h : s.2 0 a = 0) : f_end s r k a = a := by cases k <;> simp [f_end, h]
theorem f_end_n {s : ZS} {r : ZW} {k a : Nat} (h : f_par r a = none) : f_end s r k a = a := by cases k <;> simp [f_end, h]
theorem f_end_p {s : ZS} {r : ZW} {k a p : Nat} (h : ¬ s.2 0 a = 0) (hp : f_par r a = some p) : f_end s r (k + 1) a = f_end s r k p := by simp [f_end, h, hp]
theorem f_end_lt {s : ZS} {r : ZW} {n : Nat} (hp : f_pok r n) (hn : n ≤ 8) : ∀ k a, a < n → f_end s r k a < n
  | 0, a, h => h
  | k + 1, a, h => by
    unfold f_end
    split
    · exact h
    · cases hq : f_par r a with
      | none => exact h
      | some p =>
        refine f_end_lt hp hn k p ?_
        unfold f_par at hq
        rcases hp a h with q | ⟨j, hj, q⟩
        · rw [if_pos q] at hq; cases hq
        · rw [q, if_neg (by rw [z_on_n (by omega)]; exact not_false), e_ix (by omega)] at hq
          cases hq; exact hj
theorem k_endOf {s : ZS} {w i : Nat} (hS : SM T mr) (hs : PMs mi s) (hw : T.1 w = (2, 78)) (hi : i < s.1.1) (hp : f_pok (mi w) s.1.1)
    (h : Q (some (.int (z_on (f_endOf s (mi 373 23) (mi w) i)))) (mi, mr, ml, T)) : z_Ok l G m_Model_endOf [.ref 373, .ref w, .int (nI i)] (mi, mr, ml, T) Q := by
  have h8 := hs.2
  have fin : ∀ a o1 o2 o3, a < s.1.1 → a = f_end s (mi w) s.1.1 i → z_W l G 137 (T.2.1, T.2.2) (fun v M' => Q v M' ∧ M'.2.2.2 = T) 45 [some (.ref 373), o1, o2, some (.int (nI a)), o3] [] (mi, mr, ml, T) := by
    intro a o1 o2 o3 ha ha2
    unfold f_endOf at h
    rw [← ha2] at h
    refine z_run ck_137 5 bf_137_45 ?_
    simp (disch := omega) only [e_q0, e_nil, e_cons, e_q, e_qf, e_qt, e_af, z_hd, z_mk1, z_lg, z_s1, z_s2, z_kl, z_en, z_kI, z_fv, z_ic, z_c1, z_sh, z_pop, z_rc, z_tgt, z_tsw, z_lsw, z_nw, z_ac, o_kI, o_kL, o_ldi, o_ldl, o_lda, o_sti, o_sta, o_stl, o_inc, o_b2, o_bz, o_l2, o_lz, o_ls, o_lneg, o_i2l, o_l2i, o_lcmp, o_dup, o_dupx1, o_dup2, o_if, o_if2, o_ifnull, o_get, o_put, o_iald, o_zald, o_aald, o_alen, o_iast, o_zast, o_aast, o_new, o_newa, o_call, o_call1, o_callN, o_obj, o_reti, o_retl, o_ret, o_tsw, o_lsw, va_rf_s, va_rf_n, z_u2_s, z_u2_k, z_u2_f, z_uR_f, z_uL_f, e_ix, e_vp, e_lt, e_le, e_eq, e_lt0, e_eq0, e_b0, e_b1, e_10, e_11, true_or, or_true, false_or, nI_add, z_bi_0, z_bi_1, e_bb, z_uR_s, z_uR_k, z_uL_s, z_uL_k, true_and, and_true, and_self, not_true_eq_false, not_false_eq_true, forall_const, Option.toList, List.cons_append, List.nil_append, List.singleton_append, Nat.reduceAdd, Nat.zero_add, Nat.add_zero, Nat.reduceEqDiff, ↓reduceIte, ite_true, ite_false, reduceCtorEq, Int.cast_ofNat_Int, Int.reduceAdd, Int.reduceToNat, ne_eq, false_imp_iff, true_imp_iff, cl_137, bf_137_0, bf_137_5, bf_137_45, bf_137_69, bf_137_71, bo_137_0, bo_137_5, bo_137_45, bo_137_69, bo_137_71, hS, hs, hw]
    refine ⟨fun c1 => k_has ?_, fun c1 => ?_⟩
    · simp (disch := omega) only [e_q0, e_nil, e_cons, e_q, e_qf, e_qt, e_af, z_hd, z_mk1, z_lg, z_s1, z_s2, z_kl, z_en, z_kI, z_fv, z_ic, z_c1, z_sh, z_pop, z_rc, z_tgt, z_tsw, z_lsw, z_nw, z_ac, o_kI, o_kL, o_ldi, o_ldl, o_lda, o_sti, o_sta, o_stl, o_inc, o_b2, o_bz, o_l2, o_lz, o_ls, o_lneg, o_i2l, o_l2i, o_lcmp, o_dup, o_dupx1, o_dup2, o_if, o_if2, o_ifnull, o_get, o_put, o_iald, o_zald, o_aald, o_alen, o_iast, o_zast, o_aast, o_new, o_newa, o_call, o_call1, o_callN, o_obj, o_reti, o_retl, o_ret, o_tsw, o_lsw, va_rf_s, va_rf_n, z_u2_s, z_u2_k, z_u2_f, z_uR_f, z_uL_f, e_ix, e_vp, e_lt, e_le, e_eq, e_lt0, e_eq0, e_b0, e_b1, e_10, e_11, true_or, or_true, false_or, nI_add, z_bi_0, z_bi_1, e_bb, z_uR_s, z_uR_k, z_uL_s, z_uL_k, true_and, and_true, and_self, not_true_eq_false, not_false_eq_true, forall_const, Option.toList, List.cons_append, List.nil_append, List.singleton_append, Nat.reduceAdd, Nat.zero_add, Nat.add_zero, Nat.reduceEqDiff, ↓reduceIte, ite_true, ite_false, reduceCtorEq, Int.cast_ofNat_Int, Int.reduceAdd, Int.reduceToNat, ne_eq, false_imp_iff, true_imp_iff, cl_137, bf_137_0, bf_137_5, bf_137_45, bf_137_69, bf_137_71, bo_137_0, bo_137_5, bo_137_45, bo_137_69, bo_137_71, hS, hs, hw]
      rw [if_pos c1] at h
      refine ⟨fun c2 => ?_, fun c2 => ?_⟩
      · rw [c2] at h; exact h
      · simp only [Bool.not_eq_false] at c2; rw [c2] at h; exact h
    · rw [if_neg c1] at h; exact h
  refine z_okN cz_137.1 (by rw [cl_137]; exact Nat.le_of_ble_eq_true rfl) cz_137.2 (z_run ck_137 5 bf_137_0 ?_)
  simp (disch := omega) only [e_q0, e_nil, e_cons, e_q, e_qf, e_qt, e_af, z_hd, z_mk1, z_lg, z_s1, z_s2, z_kl, z_en, z_kI, z_fv, z_ic, z_c1, z_sh, z_pop, z_rc, z_tgt, z_tsw, z_lsw, z_nw, z_ac, o_kI, o_kL, o_ldi, o_ldl, o_lda, o_sti, o_sta, o_stl, o_inc, o_b2, o_bz, o_l2, o_lz, o_ls, o_lneg, o_i2l, o_l2i, o_lcmp, o_dup, o_dupx1, o_dup2, o_if, o_if2, o_ifnull, o_get, o_put, o_iald, o_zald, o_aald, o_alen, o_iast, o_zast, o_aast, o_new, o_newa, o_call, o_call1, o_callN, o_obj, o_reti, o_retl, o_ret, o_tsw, o_lsw, va_rf_s, va_rf_n, z_u2_s, z_u2_k, z_u2_f, z_uR_f, z_uL_f, e_ix, e_vp, e_lt, e_le, e_eq, e_lt0, e_eq0, e_b0, e_b1, e_10, e_11, true_or, or_true, false_or, nI_add, z_bi_0, z_bi_1, e_bb, z_uR_s, z_uR_k, z_uL_s, z_uL_k, true_and, and_true, and_self, not_true_eq_false, not_false_eq_true, forall_const, Option.toList, List.cons_append, List.nil_append, List.singleton_append, Nat.reduceAdd, Nat.zero_add, Nat.add_zero, Nat.reduceEqDiff, ↓reduceIte, ite_true, ite_false, reduceCtorEq, Int.cast_ofNat_Int, Int.reduceAdd, Int.reduceToNat, ne_eq, false_imp_iff, true_imp_iff, cl_137, bf_137_0, bf_137_5, bf_137_45, bf_137_69, bf_137_71, bo_137_0, bo_137_5, bo_137_45, bo_137_69, bo_137_71, hS, hs, hw]
  refine z_for (P := fun k (a : Nat) => (a < s.1.1 ∧ f_end s (mi w) (s.1.1 - k) a = f_end s (mi w) s.1.1 i) → z_W l G 137 (T.2.1, T.2.2) (fun v M' => Q v M' ∧ M'.2.2.2 = T) 5 [some (.ref 373), some (.ref w), none, some (.int (nI a)), some (.int (nI k))] [] (mi, mr, ml, T)) s.1.1 (fun a ha => ?_) (fun k hk ih a ha => ?_) 0 (by omega) i ⟨hi, by rw [Nat.sub_zero]⟩
  · refine z_run ck_137 0 bf_137_5 ?_
    simp (disch := omega) only [e_q0, e_nil, e_cons, e_q, e_qf, e_qt, e_af, z_hd, z_mk1, z_lg, z_s1, z_s2, z_kl, z_en, z_kI, z_fv, z_ic, z_c1, z_sh, z_pop, z_rc, z_tgt, z_tsw, z_lsw, z_nw, z_ac, o_kI, o_kL, o_ldi, o_ldl, o_lda, o_sti, o_sta, o_stl, o_inc, o_b2, o_bz, o_l2, o_lz, o_ls, o_lneg, o_i2l, o_l2i, o_lcmp, o_dup, o_dupx1, o_dup2, o_if, o_if2, o_ifnull, o_get, o_put, o_iald, o_zald, o_aald, o_alen, o_iast, o_zast, o_aast, o_new, o_newa, o_call, o_call1, o_callN, o_obj, o_reti, o_retl, o_ret, o_tsw, o_lsw, va_rf_s, va_rf_n, z_u2_s, z_u2_k, z_u2_f, z_uR_f, z_uL_f, e_ix, e_vp, e_lt, e_le, e_eq, e_lt0, e_eq0, e_b0, e_b1, e_10, e_11, true_or, or_true, false_or, nI_add, z_bi_0, z_bi_1, e_bb, z_uR_s, z_uR_k, z_uL_s, z_uL_k, true_and, and_true, and_self, not_true_eq_false, not_false_eq_true, forall_const, Option.toList, List.cons_append, List.nil_append, List.singleton_append, Nat.reduceAdd, Nat.zero_add, Nat.add_zero, Nat.reduceEqDiff, ↓reduceIte, ite_true, ite_false, reduceCtorEq, Int.cast_ofNat_Int, Int.reduceAdd, Int.reduceToNat, ne_eq, false_imp_iff, true_imp_iff, cl_137, bf_137_0, bf_137_5, bf_137_45, bf_137_69, bf_137_71, bo_137_0, bo_137_5, bo_137_45, bo_137_69, bo_137_71, hS, hs, hw, Nat.le_refl]
    refine fin a _ _ _ ha.1 ?_
    rw [← ha.2, Nat.sub_self]; rfl
  · obtain ⟨a1, a2⟩ := ha
    refine z_run ck_137 0 bf_137_5 ?_
    simp (disch := omega) only [e_q0, e_nil, e_cons, e_q, e_qf, e_qt, e_af, z_hd, z_mk1, z_lg, z_s1, z_s2, z_kl, z_en, z_kI, z_fv, z_ic, z_c1, z_sh, z_pop, z_rc, z_tgt, z_tsw, z_lsw, z_nw, z_ac, o_kI, o_kL, o_ldi, o_ldl, o_lda, o_sti, o_sta, o_stl, o_inc, o_b2, o_bz, o_l2, o_lz, o_ls, o_lneg, o_i2l, o_l2i, o_lcmp, o_dup, o_dupx1, o_dup2, o_if, o_if2, o_ifnull, o_get, o_put, o_iald, o_zald, o_aald, o_alen, o_iast, o_zast, o_aast, o_new, o_newa, o_call, o_call1, o_callN, o_obj, o_reti, o_retl, o_ret, o_tsw, o_lsw, va_rf_s, va_rf_n, z_u2_s, z_u2_k, z_u2_f, z_uR_f, z_uL_f, e_ix, e_vp, e_lt, e_le, e_eq, e_lt0, e_eq0, e_b0, e_b1, e_10, e_11, true_or, or_true, false_or, nI_add, z_bi_0, z_bi_1, e_bb, z_uR_s, z_uR_k, z_uL_s, z_uL_k, true_and, and_true, and_self, not_true_eq_false, not_false_eq_true, forall_const, Option.toList, List.cons_append, List.nil_append, List.singleton_append, Nat.reduceAdd, Nat.zero_add, Nat.add_zero, Nat.reduceEqDiff, ↓reduceIte, ite_true, ite_false, reduceCtorEq, Int.cast_ofNat_Int, Int.reduceAdd, Int.reduceToNat, ne_eq, false_imp_iff, true_imp_iff, cl_137, bf_137_0, bf_137_5, bf_137_45, bf_137_69, bf_137_71, bo_137_0, bo_137_5, bo_137_45, bo_137_69, bo_137_71, hS, hs, hw, Nat.not_le.mpr, hk]
    rw [show s.1.1 - k = (s.1.1 - (k + 1)) + 1 by omega] at a2
    refine ⟨fun c1 => fin a _ _ _ a1 (by rw [f_end_0 c1] at a2; exact a2), fun c1 => ⟨fun c2 => fin a _ _ _ a1 ?_, fun c2 => ?_⟩⟩
    · rw [f_end_n (if_pos c2)] at a2; exact a2
    · rcases hp a a1 with q | ⟨j, hj, q⟩
      · exact absurd q c2
      · rw [q]
        refine ih j ⟨hj, ?_⟩
        rw [f_end_p c1 (p := j) (by unfold f_par; rw [if_neg c2, q, e_ix (by omega)])] at a2
        exact a2
theorem z_on_none {x : Option Nat} (h : ∀ k, x = some k → k < 1000) : (z_on x = z_ng 9) = (x = none) := by
  cases x with
  | none => simp [z_on]
  | some k => simp only [z_on, reduceCtorEq]; exact z_on_n (h k rfl)
theorem f_endOf_lt {s : ZS} {co : Int32} {r : ZW} {i k : Nat} (hp : f_pok r s.1.1) (hn : s.1.1 ≤ 8) (hi : i < s.1.1) (h : f_endOf s co r i = some k) : k < s.1.1 := by
  unfold f_endOf at h
  split at h
  · split at h
    · cases h; exact f_end_lt hp hn _ _ hi
    · cases h
  · cases h
theorem k_reached {s : ZS} {w : Nat} (hS : SM T mr) (hs : PMs mi s) (hw : T.1 w = (2, 78)) (hp : f_pok (mi w) s.1.1)
    (h : Q (some (.int (f_reached s (mi 373 23) (mi w) s.1.1))) (mi, mr, ml, T)) : z_Ok l G m_Model_reached [.ref 373, .ref w] (mi, mr, ml, T) Q := by
  have h8 := hs.2
  refine z_okN cz_138.1 (by rw [cl_138]; exact Nat.le_of_ble_eq_true rfl) cz_138.2 (z_run ck_138 5 bf_138_0 ?_)
  simp (disch := omega) only [e_q0, e_nil, e_cons, e_q, e_qf, e_qt, e_af, z_hd, z_mk1, z_lg, z_s1, z_s2, z_kl, z_en, z_kI, z_fv, z_ic, z_c1, z_sh, z_pop, z_rc, z_tgt, z_tsw, z_lsw, z_nw, z_ac, o_kI, o_kL, o_ldi, o_ldl, o_lda, o_sti, o_sta, o_stl, o_inc, o_b2, o_bz, o_l2, o_lz, o_ls, o_lneg, o_i2l, o_l2i, o_lcmp, o_dup, o_dupx1, o_dup2, o_if, o_if2, o_ifnull, o_get, o_put, o_iald, o_zald, o_aald, o_alen, o_iast, o_zast, o_aast, o_new, o_newa, o_call, o_call1, o_callN, o_obj, o_reti, o_retl, o_ret, o_tsw, o_lsw, va_rf_s, va_rf_n, z_u2_s, z_u2_k, z_u2_f, z_uR_f, z_uL_f, e_ix, e_vp, e_lt, e_le, e_eq, e_lt0, e_eq0, e_b0, e_b1, e_10, e_11, true_or, or_true, false_or, nI_add, z_bi_0, z_bi_1, e_bb, z_uR_s, z_uR_k, z_uL_s, z_uL_k, true_and, and_true, and_self, not_true_eq_false, not_false_eq_true, forall_const, Option.toList, List.cons_append, List.nil_append, List.singleton_append, Nat.reduceAdd, Nat.zero_add, Nat.add_zero, Nat.reduceEqDiff, ↓reduceIte, ite_true, ite_false, reduceCtorEq, Int.cast_ofNat_Int, Int.reduceAdd, Int.reduceToNat, ne_eq, false_imp_iff, true_imp_iff, cl_138, bf_138_0, bf_138_4, bf_138_30, bf_138_31, bf_138_39, bo_138_0, bo_138_4, bo_138_30, bo_138_31, bo_138_39, hS, hs, hw]
  refine z_for (P := fun k (_ : Unit) => z_W l G 138 (T.2.1, T.2.2) (fun v M' => Q v M' ∧ M'.2.2.2 = T) 4 [some (.ref 373), some (.ref w), some (.int (f_reached s (mi 373 23) (mi w) k)), some (.int (nI k))] [] (mi, mr, ml, T)) s.1.1 (fun _ => ?_) (fun k hk ih _ => ?_) 0 (by omega) ()
  · refine z_run ck_138 5 bf_138_4 ?_
    simp (disch := omega) only [e_q0, e_nil, e_cons, e_q, e_qf, e_qt, e_af, z_hd, z_mk1, z_lg, z_s1, z_s2, z_kl, z_en, z_kI, z_fv, z_ic, z_c1, z_sh, z_pop, z_rc, z_tgt, z_tsw, z_lsw, z_nw, z_ac, o_kI, o_kL, o_ldi, o_ldl, o_lda, o_sti, o_sta, o_stl, o_inc, o_b2, o_bz, o_l2, o_lz, o_ls, o_lneg, o_i2l, o_l2i, o_lcmp, o_dup, o_dupx1, o_dup2, o_if, o_if2, o_ifnull, o_get, o_put, o_iald, o_zald, o_aald, o_alen, o_iast, o_zast, o_aast, o_new, o_newa, o_call, o_call1, o_callN, o_obj, o_reti, o_retl, o_ret, o_tsw, o_lsw, va_rf_s, va_rf_n, z_u2_s, z_u2_k, z_u2_f, z_uR_f, z_uL_f, e_ix, e_vp, e_lt, e_le, e_eq, e_lt0, e_eq0, e_b0, e_b1, e_10, e_11, true_or, or_true, false_or, nI_add, z_bi_0, z_bi_1, e_bb, z_uR_s, z_uR_k, z_uL_s, z_uL_k, true_and, and_true, and_self, not_true_eq_false, not_false_eq_true, forall_const, Option.toList, List.cons_append, List.nil_append, List.singleton_append, Nat.reduceAdd, Nat.zero_add, Nat.add_zero, Nat.reduceEqDiff, ↓reduceIte, ite_true, ite_false, reduceCtorEq, Int.cast_ofNat_Int, Int.reduceAdd, Int.reduceToNat, ne_eq, false_imp_iff, true_imp_iff, cl_138, bf_138_0, bf_138_4, bf_138_30, bf_138_31, bf_138_39, bo_138_0, bo_138_4, bo_138_30, bo_138_31, bo_138_39, hS, hs, hw, Nat.le_refl]
    exact h
  · refine z_run ck_138 5 bf_138_4 ?_
    simp (disch := omega) only [e_q0, e_nil, e_cons, e_q, e_qf, e_qt, e_af, z_hd, z_mk1, z_lg, z_s1, z_s2, z_kl, z_en, z_kI, z_fv, z_ic, z_c1, z_sh, z_pop, z_rc, z_tgt, z_tsw, z_lsw, z_nw, z_ac, o_kI, o_kL, o_ldi, o_ldl, o_lda, o_sti, o_sta, o_stl, o_inc, o_b2, o_bz, o_l2, o_lz, o_ls, o_lneg, o_i2l, o_l2i, o_lcmp, o_dup, o_dupx1, o_dup2, o_if, o_if2, o_ifnull, o_get, o_put, o_iald, o_zald, o_aald, o_alen, o_iast, o_zast, o_aast, o_new, o_newa, o_call, o_call1, o_callN, o_obj, o_reti, o_retl, o_ret, o_tsw, o_lsw, va_rf_s, va_rf_n, z_u2_s, z_u2_k, z_u2_f, z_uR_f, z_uL_f, e_ix, e_vp, e_lt, e_le, e_eq, e_lt0, e_eq0, e_b0, e_b1, e_10, e_11, true_or, or_true, false_or, nI_add, z_bi_0, z_bi_1, e_bb, z_uR_s, z_uR_k, z_uL_s, z_uL_k, true_and, and_true, and_self, not_true_eq_false, not_false_eq_true, forall_const, Option.toList, List.cons_append, List.nil_append, List.singleton_append, Nat.reduceAdd, Nat.zero_add, Nat.add_zero, Nat.reduceEqDiff, ↓reduceIte, ite_true, ite_false, reduceCtorEq, Int.cast_ofNat_Int, Int.reduceAdd, Int.reduceToNat, ne_eq, false_imp_iff, true_imp_iff, cl_138, bf_138_0, bf_138_4, bf_138_30, bf_138_31, bf_138_39, bo_138_0, bo_138_4, bo_138_30, bo_138_31, bo_138_39, hS, hs, hw, Nat.not_le.mpr, hk]
    refine k_endOf hS hs hw hk hp ?_
    have hi := ih ()
    unfold f_reached at hi
    simp (disch := omega) only [e_q0, e_nil, e_cons, e_q, e_qf, e_qt, e_af, z_hd, z_mk1, z_lg, z_s1, z_s2, z_kl, z_en, z_kI, z_fv, z_ic, z_c1, z_sh, z_pop, z_rc, z_tgt, z_tsw, z_lsw, z_nw, z_ac, o_kI, o_kL, o_ldi, o_ldl, o_lda, o_sti, o_sta, o_stl, o_inc, o_b2, o_bz, o_l2, o_lz, o_ls, o_lneg, o_i2l, o_l2i, o_lcmp, o_dup, o_dupx1, o_dup2, o_if, o_if2, o_ifnull, o_get, o_put, o_iald, o_zald, o_aald, o_alen, o_iast, o_zast, o_aast, o_new, o_newa, o_call, o_call1, o_callN, o_obj, o_reti, o_retl, o_ret, o_tsw, o_lsw, va_rf_s, va_rf_n, z_u2_s, z_u2_k, z_u2_f, z_uR_f, z_uL_f, e_ix, e_vp, e_lt, e_le, e_eq, e_lt0, e_eq0, e_b0, e_b1, e_10, e_11, true_or, or_true, false_or, nI_add, z_bi_0, z_bi_1, e_bb, z_uR_s, z_uR_k, z_uL_s, z_uL_k, true_and, and_true, and_self, not_true_eq_false, not_false_eq_true, forall_const, Option.toList, List.cons_append, List.nil_append, List.singleton_append, Nat.reduceAdd, Nat.zero_add, Nat.add_zero, Nat.reduceEqDiff, ↓reduceIte, ite_true, ite_false, reduceCtorEq, Int.cast_ofNat_Int, Int.reduceAdd, Int.reduceToNat, ne_eq, false_imp_iff, true_imp_iff, cl_138, bf_138_0, bf_138_4, bf_138_30, bf_138_31, bf_138_39, bo_138_0, bo_138_4, bo_138_30, bo_138_31, bo_138_39, hS, hs, hw]
    rw [z_on_none (fun j hj => by have := f_endOf_lt hp h8.1 hk hj; omega)]
    refine ⟨fun c => ?_, fun c => ?_⟩
    · rw [c] at hi; exact hi
    · cases hq : f_endOf s (mi 373 23) (mi w) k with
      | none => exact absurd hq c
      | some a => rw [hq] at hi; exact hi
theorem f_load_le {s : ZS} {co : Int32} {r : ZW} {g : Nat} : ∀ k, f_load s co r g k ≤ k
  | 0 => Nat.le_refl _
  | k + 1 => by
    have := f_load_le (s := s) (co := co) (r := r) (g := g) k
    unfold f_load
    split <;> omega
theorem k_loadOf {s : ZS} {w g : Nat} (hS : SM T mr) (hs : PMs mi s) (hw : T.1 w = (2, 78)) (hg : g < 8) (hp : f_pok (mi w) s.1.1)
    (h : Q (some (.int (nI (f_load s (mi 373 23) (mi w) g s.1.1)))) (mi, mr, ml, T)) : z_Ok l G m_Model_loadOf [.ref 373, .ref w, .int (nI g)] (mi, mr, ml, T) Q := by
  have h8 := hs.2
  refine z_okN cz_139.1 (by rw [cl_139]; exact Nat.le_of_ble_eq_true rfl) cz_139.2 (z_run ck_139 5 bf_139_0 ?_)
  simp (disch := omega) only [e_q0, e_nil, e_cons, e_q, e_qf, e_qt, e_af, z_hd, z_mk1, z_lg, z_s1, z_s2, z_kl, z_en, z_kI, z_fv, z_ic, z_c1, z_sh, z_pop, z_rc, z_tgt, z_tsw, z_lsw, z_nw, z_ac, o_kI, o_kL, o_ldi, o_ldl, o_lda, o_sti, o_sta, o_stl, o_inc, o_b2, o_bz, o_l2, o_lz, o_ls, o_lneg, o_i2l, o_l2i, o_lcmp, o_dup, o_dupx1, o_dup2, o_if, o_if2, o_ifnull, o_get, o_put, o_iald, o_zald, o_aald, o_alen, o_iast, o_zast, o_aast, o_new, o_newa, o_call, o_call1, o_callN, o_obj, o_reti, o_retl, o_ret, o_tsw, o_lsw, va_rf_s, va_rf_n, z_u2_s, z_u2_k, z_u2_f, z_uR_f, z_uL_f, e_ix, e_vp, e_lt, e_le, e_eq, e_lt0, e_eq0, e_b0, e_b1, e_10, e_11, true_or, or_true, false_or, nI_add, z_bi_0, z_bi_1, e_bb, z_uR_s, z_uR_k, z_uL_s, z_uL_k, true_and, and_true, and_self, not_true_eq_false, not_false_eq_true, forall_const, Option.toList, List.cons_append, List.nil_append, List.singleton_append, Nat.reduceAdd, Nat.zero_add, Nat.add_zero, Nat.reduceEqDiff, ↓reduceIte, ite_true, ite_false, reduceCtorEq, Int.cast_ofNat_Int, Int.reduceAdd, Int.reduceToNat, ne_eq, false_imp_iff, true_imp_iff, cl_139, bf_139_0, bf_139_5, bf_139_36, bf_139_37, bf_139_45, bo_139_0, bo_139_5, bo_139_36, bo_139_37, bo_139_45, hS, hs, hw]
  refine z_for (P := fun k (_ : Unit) => z_W l G 139 (T.2.1, T.2.2) (fun v M' => Q v M' ∧ M'.2.2.2 = T) 5 [some (.ref 373), some (.ref w), some (.int (nI g)), some (.int (nI (f_load s (mi 373 23) (mi w) g k))), some (.int (nI k))] [] (mi, mr, ml, T)) s.1.1 (fun _ => ?_) (fun k hk ih _ => ?_) 0 (by omega) ()
  · refine z_run ck_139 5 bf_139_5 ?_
    simp (disch := omega) only [e_q0, e_nil, e_cons, e_q, e_qf, e_qt, e_af, z_hd, z_mk1, z_lg, z_s1, z_s2, z_kl, z_en, z_kI, z_fv, z_ic, z_c1, z_sh, z_pop, z_rc, z_tgt, z_tsw, z_lsw, z_nw, z_ac, o_kI, o_kL, o_ldi, o_ldl, o_lda, o_sti, o_sta, o_stl, o_inc, o_b2, o_bz, o_l2, o_lz, o_ls, o_lneg, o_i2l, o_l2i, o_lcmp, o_dup, o_dupx1, o_dup2, o_if, o_if2, o_ifnull, o_get, o_put, o_iald, o_zald, o_aald, o_alen, o_iast, o_zast, o_aast, o_new, o_newa, o_call, o_call1, o_callN, o_obj, o_reti, o_retl, o_ret, o_tsw, o_lsw, va_rf_s, va_rf_n, z_u2_s, z_u2_k, z_u2_f, z_uR_f, z_uL_f, e_ix, e_vp, e_lt, e_le, e_eq, e_lt0, e_eq0, e_b0, e_b1, e_10, e_11, true_or, or_true, false_or, nI_add, z_bi_0, z_bi_1, e_bb, z_uR_s, z_uR_k, z_uL_s, z_uL_k, true_and, and_true, and_self, not_true_eq_false, not_false_eq_true, forall_const, Option.toList, List.cons_append, List.nil_append, List.singleton_append, Nat.reduceAdd, Nat.zero_add, Nat.add_zero, Nat.reduceEqDiff, ↓reduceIte, ite_true, ite_false, reduceCtorEq, Int.cast_ofNat_Int, Int.reduceAdd, Int.reduceToNat, ne_eq, false_imp_iff, true_imp_iff, cl_139, bf_139_0, bf_139_5, bf_139_36, bf_139_37, bf_139_45, bo_139_0, bo_139_5, bo_139_36, bo_139_37, bo_139_45, hS, hs, hw, Nat.le_refl]
    exact h
  · refine z_run ck_139 5 bf_139_5 ?_
    simp (disch := omega) only [e_q0, e_nil, e_cons, e_q, e_qf, e_qt, e_af, z_hd, z_mk1, z_lg, z_s1, z_s2, z_kl, z_en, z_kI, z_fv, z_ic, z_c1, z_sh, z_pop, z_rc, z_tgt, z_tsw, z_lsw, z_nw, z_ac, o_kI, o_kL, o_ldi, o_ldl, o_lda, o_sti, o_sta, o_stl, o_inc, o_b2, o_bz, o_l2, o_lz, o_ls, o_lneg, o_i2l, o_l2i, o_lcmp, o_dup, o_dupx1, o_dup2, o_if, o_if2, o_ifnull, o_get, o_put, o_iald, o_zald, o_aald, o_alen, o_iast, o_zast, o_aast, o_new, o_newa, o_call, o_call1, o_callN, o_obj, o_reti, o_retl, o_ret, o_tsw, o_lsw, va_rf_s, va_rf_n, z_u2_s, z_u2_k, z_u2_f, z_uR_f, z_uL_f, e_ix, e_vp, e_lt, e_le, e_eq, e_lt0, e_eq0, e_b0, e_b1, e_10, e_11, true_or, or_true, false_or, nI_add, z_bi_0, z_bi_1, e_bb, z_uR_s, z_uR_k, z_uL_s, z_uL_k, true_and, and_true, and_self, not_true_eq_false, not_false_eq_true, forall_const, Option.toList, List.cons_append, List.nil_append, List.singleton_append, Nat.reduceAdd, Nat.zero_add, Nat.add_zero, Nat.reduceEqDiff, ↓reduceIte, ite_true, ite_false, reduceCtorEq, Int.cast_ofNat_Int, Int.reduceAdd, Int.reduceToNat, ne_eq, false_imp_iff, true_imp_iff, cl_139, bf_139_0, bf_139_5, bf_139_36, bf_139_37, bf_139_45, bo_139_0, bo_139_5, bo_139_36, bo_139_37, bo_139_45, hS, hs, hw, Nat.not_le.mpr, hk]
    have hi := ih ()
    unfold f_load at hi
    refine ⟨fun c1 => ?_, fun c1 => k_endOf hS hs hw hk hp ?_⟩
    · rw [if_neg (fun q => q.1 c1)] at hi; exact hi
    · simp (disch := omega) only [e_q0, e_nil, e_cons, e_q, e_qf, e_qt, e_af, z_hd, z_mk1, z_lg, z_s1, z_s2, z_kl, z_en, z_kI, z_fv, z_ic, z_c1, z_sh, z_pop, z_rc, z_tgt, z_tsw, z_lsw, z_nw, z_ac, o_kI, o_kL, o_ldi, o_ldl, o_lda, o_sti, o_sta, o_stl, o_inc, o_b2, o_bz, o_l2, o_lz, o_ls, o_lneg, o_i2l, o_l2i, o_lcmp, o_dup, o_dupx1, o_dup2, o_if, o_if2, o_ifnull, o_get, o_put, o_iald, o_zald, o_aald, o_alen, o_iast, o_zast, o_aast, o_new, o_newa, o_call, o_call1, o_callN, o_obj, o_reti, o_retl, o_ret, o_tsw, o_lsw, va_rf_s, va_rf_n, z_u2_s, z_u2_k, z_u2_f, z_uR_f, z_uL_f, e_ix, e_vp, e_lt, e_le, e_eq, e_lt0, e_eq0, e_b0, e_b1, e_10, e_11, true_or, or_true, false_or, nI_add, z_bi_0, z_bi_1, e_bb, z_uR_s, z_uR_k, z_uL_s, z_uL_k, true_and, and_true, and_self, not_true_eq_false, not_false_eq_true, forall_const, Option.toList, List.cons_append, List.nil_append, List.singleton_append, Nat.reduceAdd, Nat.zero_add, Nat.add_zero, Nat.reduceEqDiff, ↓reduceIte, ite_true, ite_false, reduceCtorEq, Int.cast_ofNat_Int, Int.reduceAdd, Int.reduceToNat, ne_eq, false_imp_iff, true_imp_iff, cl_139, bf_139_0, bf_139_5, bf_139_36, bf_139_37, bf_139_45, bo_139_0, bo_139_5, bo_139_36, bo_139_37, bo_139_45, hS, hs, hw]
      have e : (z_on (f_endOf s (mi 373 23) (mi w) k) = nI g) = (f_endOf s (mi 373 23) (mi w) k = some g) := by
        cases hq : f_endOf s (mi 373 23) (mi w) k with
        | none => simp only [z_on, reduceCtorEq]; exact eq_false fun q => by have := z_on_n (k := g) (by omega); rw [← this]; exact q.symm
        | some a =>
          have := f_endOf_lt hp h8.1 hk hq
          simp only [z_on, Option.some.injEq]; exact e_eq (by omega) (by omega)
      rw [e]
      refine ⟨fun c2 => ?_, fun c2 => ?_⟩
      · rw [if_pos ⟨c1, c2⟩] at hi; exact hi
      · rw [if_neg (fun q => c2 q.2)] at hi; exact hi
theorem k_those {s : ZS} {x : Int32} (hS : SM T mr) (hs : PMs mi s) (h : Q (some (.int (f_those s x s.1.1))) (mi, mr, ml, T)) : z_Ok l G m_Model_those [.ref 373, .int x] (mi, mr, ml, T) Q := by
  have h8 := hs.2
  refine z_okN cz_140.1 (by rw [cl_140]; exact Nat.le_of_ble_eq_true rfl) cz_140.2 (z_run ck_140 5 bf_140_0 ?_)
  simp (disch := omega) only [e_q0, e_nil, e_cons, e_q, e_qf, e_qt, e_af, z_hd, z_mk1, z_lg, z_s1, z_s2, z_kl, z_en, z_kI, z_fv, z_ic, z_c1, z_sh, z_pop, z_rc, z_tgt, z_tsw, z_lsw, z_nw, z_ac, o_kI, o_kL, o_ldi, o_ldl, o_lda, o_sti, o_sta, o_stl, o_inc, o_b2, o_bz, o_l2, o_lz, o_ls, o_lneg, o_i2l, o_l2i, o_lcmp, o_dup, o_dupx1, o_dup2, o_if, o_if2, o_ifnull, o_get, o_put, o_iald, o_zald, o_aald, o_alen, o_iast, o_zast, o_aast, o_new, o_newa, o_call, o_call1, o_callN, o_obj, o_reti, o_retl, o_ret, o_tsw, o_lsw, va_rf_s, va_rf_n, z_u2_s, z_u2_k, z_u2_f, z_uR_f, z_uL_f, e_ix, e_vp, e_lt, e_le, e_eq, e_lt0, e_eq0, e_b0, e_b1, e_10, e_11, true_or, or_true, false_or, nI_add, z_bi_0, z_bi_1, e_bb, z_uR_s, z_uR_k, z_uL_s, z_uL_k, true_and, and_true, and_self, not_true_eq_false, not_false_eq_true, forall_const, Option.toList, List.cons_append, List.nil_append, List.singleton_append, Nat.reduceAdd, Nat.zero_add, Nat.add_zero, Nat.reduceEqDiff, ↓reduceIte, ite_true, ite_false, reduceCtorEq, Int.cast_ofNat_Int, Int.reduceAdd, Int.reduceToNat, ne_eq, false_imp_iff, true_imp_iff, cl_140, bf_140_0, bf_140_4, bf_140_29, bf_140_30, bf_140_38, bo_140_0, bo_140_4, bo_140_29, bo_140_30, bo_140_38, hS, hs]
  refine z_for (P := fun k (_ : Unit) => z_W l G 140 (T.2.1, T.2.2) (fun v M' => Q v M' ∧ M'.2.2.2 = T) 4 [some (.ref 373), some (.int x), some (.int (f_those s x k)), some (.int (nI k))] [] (mi, mr, ml, T)) s.1.1 (fun _ => ?_) (fun k hk ih _ => ?_) 0 (by omega) ()
  · refine z_run ck_140 5 bf_140_4 ?_
    simp (disch := omega) only [e_q0, e_nil, e_cons, e_q, e_qf, e_qt, e_af, z_hd, z_mk1, z_lg, z_s1, z_s2, z_kl, z_en, z_kI, z_fv, z_ic, z_c1, z_sh, z_pop, z_rc, z_tgt, z_tsw, z_lsw, z_nw, z_ac, o_kI, o_kL, o_ldi, o_ldl, o_lda, o_sti, o_sta, o_stl, o_inc, o_b2, o_bz, o_l2, o_lz, o_ls, o_lneg, o_i2l, o_l2i, o_lcmp, o_dup, o_dupx1, o_dup2, o_if, o_if2, o_ifnull, o_get, o_put, o_iald, o_zald, o_aald, o_alen, o_iast, o_zast, o_aast, o_new, o_newa, o_call, o_call1, o_callN, o_obj, o_reti, o_retl, o_ret, o_tsw, o_lsw, va_rf_s, va_rf_n, z_u2_s, z_u2_k, z_u2_f, z_uR_f, z_uL_f, e_ix, e_vp, e_lt, e_le, e_eq, e_lt0, e_eq0, e_b0, e_b1, e_10, e_11, true_or, or_true, false_or, nI_add, z_bi_0, z_bi_1, e_bb, z_uR_s, z_uR_k, z_uL_s, z_uL_k, true_and, and_true, and_self, not_true_eq_false, not_false_eq_true, forall_const, Option.toList, List.cons_append, List.nil_append, List.singleton_append, Nat.reduceAdd, Nat.zero_add, Nat.add_zero, Nat.reduceEqDiff, ↓reduceIte, ite_true, ite_false, reduceCtorEq, Int.cast_ofNat_Int, Int.reduceAdd, Int.reduceToNat, ne_eq, false_imp_iff, true_imp_iff, cl_140, bf_140_0, bf_140_4, bf_140_29, bf_140_30, bf_140_38, bo_140_0, bo_140_4, bo_140_29, bo_140_30, bo_140_38, hS, hs, Nat.le_refl]
    exact h
  · refine z_run ck_140 5 bf_140_4 ?_
    simp (disch := omega) only [e_q0, e_nil, e_cons, e_q, e_qf, e_qt, e_af, z_hd, z_mk1, z_lg, z_s1, z_s2, z_kl, z_en, z_kI, z_fv, z_ic, z_c1, z_sh, z_pop, z_rc, z_tgt, z_tsw, z_lsw, z_nw, z_ac, o_kI, o_kL, o_ldi, o_ldl, o_lda, o_sti, o_sta, o_stl, o_inc, o_b2, o_bz, o_l2, o_lz, o_ls, o_lneg, o_i2l, o_l2i, o_lcmp, o_dup, o_dupx1, o_dup2, o_if, o_if2, o_ifnull, o_get, o_put, o_iald, o_zald, o_aald, o_alen, o_iast, o_zast, o_aast, o_new, o_newa, o_call, o_call1, o_callN, o_obj, o_reti, o_retl, o_ret, o_tsw, o_lsw, va_rf_s, va_rf_n, z_u2_s, z_u2_k, z_u2_f, z_uR_f, z_uL_f, e_ix, e_vp, e_lt, e_le, e_eq, e_lt0, e_eq0, e_b0, e_b1, e_10, e_11, true_or, or_true, false_or, nI_add, z_bi_0, z_bi_1, e_bb, z_uR_s, z_uR_k, z_uL_s, z_uL_k, true_and, and_true, and_self, not_true_eq_false, not_false_eq_true, forall_const, Option.toList, List.cons_append, List.nil_append, List.singleton_append, Nat.reduceAdd, Nat.zero_add, Nat.add_zero, Nat.reduceEqDiff, ↓reduceIte, ite_true, ite_false, reduceCtorEq, Int.cast_ofNat_Int, Int.reduceAdd, Int.reduceToNat, ne_eq, false_imp_iff, true_imp_iff, cl_140, bf_140_0, bf_140_4, bf_140_29, bf_140_30, bf_140_38, bo_140_0, bo_140_4, bo_140_29, bo_140_30, bo_140_38, hS, hs, Nat.not_le.mpr, hk]
    have hi := ih ()
    unfold f_those at hi
    exact ⟨fun c => by rw [if_pos c] at hi; exact hi, fun c => by rw [if_neg c] at hi; exact hi⟩
theorem k_downs {s : ZS} (hS : SM T mr) (hs : PMs mi s) (h : Q (some (.int (f_downs (mi 381) s.1.2))) (mi, mr, ml, T)) : z_Ok l G m_Model_downs [.ref 373] (mi, mr, ml, T) Q := by
  have h8 := hs.2
  refine z_okN cz_141.1 (by rw [cl_141]; exact Nat.le_of_ble_eq_true rfl) cz_141.2 (z_run ck_141 3 bf_141_0 ?_)
  simp (disch := omega) only [e_q0, e_nil, e_cons, e_q, e_qf, e_qt, e_af, z_hd, z_mk1, z_lg, z_s1, z_s2, z_kl, z_en, z_kI, z_fv, z_ic, z_c1, z_sh, z_pop, z_rc, z_tgt, z_tsw, z_lsw, z_nw, z_ac, o_kI, o_kL, o_ldi, o_ldl, o_lda, o_sti, o_sta, o_stl, o_inc, o_b2, o_bz, o_l2, o_lz, o_ls, o_lneg, o_i2l, o_l2i, o_lcmp, o_dup, o_dupx1, o_dup2, o_if, o_if2, o_ifnull, o_get, o_put, o_iald, o_zald, o_aald, o_alen, o_iast, o_zast, o_aast, o_new, o_newa, o_call, o_call1, o_callN, o_obj, o_reti, o_retl, o_ret, o_tsw, o_lsw, va_rf_s, va_rf_n, z_u2_s, z_u2_k, z_u2_f, z_uR_f, z_uL_f, e_ix, e_vp, e_lt, e_le, e_eq, e_lt0, e_eq0, e_b0, e_b1, e_10, e_11, true_or, or_true, false_or, nI_add, z_bi_0, z_bi_1, e_bb, z_uR_s, z_uR_k, z_uL_s, z_uL_k, true_and, and_true, and_self, not_true_eq_false, not_false_eq_true, forall_const, Option.toList, List.cons_append, List.nil_append, List.singleton_append, Nat.reduceAdd, Nat.zero_add, Nat.add_zero, Nat.reduceEqDiff, ↓reduceIte, ite_true, ite_false, reduceCtorEq, Int.cast_ofNat_Int, Int.reduceAdd, Int.reduceToNat, ne_eq, false_imp_iff, true_imp_iff, cl_141, bf_141_0, bf_141_4, bf_141_32, bo_141_0, bo_141_4, bo_141_32, hS, hs]
  refine z_for (P := fun k (_ : Unit) => z_W l G 141 (T.2.1, T.2.2) (fun v M' => Q v M' ∧ M'.2.2.2 = T) 4 [some (.ref 373), some (.int (f_downs (mi 381) k)), some (.int (nI k))] [] (mi, mr, ml, T)) s.1.2 (fun _ => ?_) (fun k hk ih _ => ?_) 0 (by omega) ()
  · refine z_run ck_141 3 bf_141_4 ?_
    simp (disch := omega) only [e_q0, e_nil, e_cons, e_q, e_qf, e_qt, e_af, z_hd, z_mk1, z_lg, z_s1, z_s2, z_kl, z_en, z_kI, z_fv, z_ic, z_c1, z_sh, z_pop, z_rc, z_tgt, z_tsw, z_lsw, z_nw, z_ac, o_kI, o_kL, o_ldi, o_ldl, o_lda, o_sti, o_sta, o_stl, o_inc, o_b2, o_bz, o_l2, o_lz, o_ls, o_lneg, o_i2l, o_l2i, o_lcmp, o_dup, o_dupx1, o_dup2, o_if, o_if2, o_ifnull, o_get, o_put, o_iald, o_zald, o_aald, o_alen, o_iast, o_zast, o_aast, o_new, o_newa, o_call, o_call1, o_callN, o_obj, o_reti, o_retl, o_ret, o_tsw, o_lsw, va_rf_s, va_rf_n, z_u2_s, z_u2_k, z_u2_f, z_uR_f, z_uL_f, e_ix, e_vp, e_lt, e_le, e_eq, e_lt0, e_eq0, e_b0, e_b1, e_10, e_11, true_or, or_true, false_or, nI_add, z_bi_0, z_bi_1, e_bb, z_uR_s, z_uR_k, z_uL_s, z_uL_k, true_and, and_true, and_self, not_true_eq_false, not_false_eq_true, forall_const, Option.toList, List.cons_append, List.nil_append, List.singleton_append, Nat.reduceAdd, Nat.zero_add, Nat.add_zero, Nat.reduceEqDiff, ↓reduceIte, ite_true, ite_false, reduceCtorEq, Int.cast_ofNat_Int, Int.reduceAdd, Int.reduceToNat, ne_eq, false_imp_iff, true_imp_iff, cl_141, bf_141_0, bf_141_4, bf_141_32, bo_141_0, bo_141_4, bo_141_32, hS, hs, Nat.le_refl]
    exact h
  · refine z_run ck_141 3 bf_141_4 ?_
    simp (disch := omega) only [e_q0, e_nil, e_cons, e_q, e_qf, e_qt, e_af, z_hd, z_mk1, z_lg, z_s1, z_s2, z_kl, z_en, z_kI, z_fv, z_ic, z_c1, z_sh, z_pop, z_rc, z_tgt, z_tsw, z_lsw, z_nw, z_ac, o_kI, o_kL, o_ldi, o_ldl, o_lda, o_sti, o_sta, o_stl, o_inc, o_b2, o_bz, o_l2, o_lz, o_ls, o_lneg, o_i2l, o_l2i, o_lcmp, o_dup, o_dupx1, o_dup2, o_if, o_if2, o_ifnull, o_get, o_put, o_iald, o_zald, o_aald, o_alen, o_iast, o_zast, o_aast, o_new, o_newa, o_call, o_call1, o_callN, o_obj, o_reti, o_retl, o_ret, o_tsw, o_lsw, va_rf_s, va_rf_n, z_u2_s, z_u2_k, z_u2_f, z_uR_f, z_uL_f, e_ix, e_vp, e_lt, e_le, e_eq, e_lt0, e_eq0, e_b0, e_b1, e_10, e_11, true_or, or_true, false_or, nI_add, z_bi_0, z_bi_1, e_bb, z_uR_s, z_uR_k, z_uL_s, z_uL_k, true_and, and_true, and_self, not_true_eq_false, not_false_eq_true, forall_const, Option.toList, List.cons_append, List.nil_append, List.singleton_append, Nat.reduceAdd, Nat.zero_add, Nat.add_zero, Nat.reduceEqDiff, ↓reduceIte, ite_true, ite_false, reduceCtorEq, Int.cast_ofNat_Int, Int.reduceAdd, Int.reduceToNat, ne_eq, false_imp_iff, true_imp_iff, cl_141, bf_141_0, bf_141_4, bf_141_32, bo_141_0, bo_141_4, bo_141_32, hS, hs, Nat.not_le.mpr, hk]
    exact ih ()
theorem k_ones {x : Int32} (h : Q (some (.int (f_ones x 9))) (mi, mr, ml, T)) : z_Ok l G m_Model_ones [.int x] (mi, mr, ml, T) Q := by
  refine z_okN cz_105.1 (by rw [cl_105]; exact Nat.le_of_ble_eq_true rfl) cz_105.2 (z_run ck_105 3 bf_105_0 ?_)
  simp (disch := omega) only [e_q0, e_nil, e_cons, e_q, e_qf, e_qt, e_af, z_hd, z_mk1, z_lg, z_s1, z_s2, z_kl, z_en, z_kI, z_fv, z_ic, z_c1, z_sh, z_pop, z_rc, z_tgt, z_tsw, z_lsw, z_nw, z_ac, o_kI, o_kL, o_ldi, o_ldl, o_lda, o_sti, o_sta, o_stl, o_inc, o_b2, o_bz, o_l2, o_lz, o_ls, o_lneg, o_i2l, o_l2i, o_lcmp, o_dup, o_dupx1, o_dup2, o_if, o_if2, o_ifnull, o_get, o_put, o_iald, o_zald, o_aald, o_alen, o_iast, o_zast, o_aast, o_new, o_newa, o_call, o_call1, o_callN, o_obj, o_reti, o_retl, o_ret, o_tsw, o_lsw, va_rf_s, va_rf_n, z_u2_s, z_u2_k, z_u2_f, z_uR_f, z_uL_f, e_ix, e_vp, e_lt, e_le, e_eq, e_lt0, e_eq0, e_b0, e_b1, e_10, e_11, true_or, or_true, false_or, nI_add, z_bi_0, z_bi_1, e_bb, z_uR_s, z_uR_k, z_uL_s, z_uL_k, true_and, and_true, and_self, not_true_eq_false, not_false_eq_true, forall_const, Option.toList, List.cons_append, List.nil_append, List.singleton_append, Nat.reduceAdd, Nat.zero_add, Nat.add_zero, Nat.reduceEqDiff, ↓reduceIte, ite_true, ite_false, reduceCtorEq, Int.cast_ofNat_Int, Int.reduceAdd, Int.reduceToNat, ne_eq, false_imp_iff, true_imp_iff, cl_105, bf_105_0, bf_105_4, bf_105_24, bo_105_0, bo_105_4, bo_105_24]
  refine z_for (P := fun k (_ : Unit) => z_W l G 105 (T.2.1, T.2.2) (fun v M' => Q v M' ∧ M'.2.2.2 = T) 4 [some (.int x), some (.int (f_ones x k)), some (.int (nI k))] [] (mi, mr, ml, T)) 9 (fun _ => ?_) (fun k hk ih _ => ?_) 0 (by omega) ()
  · refine z_run ck_105 3 bf_105_4 ?_
    simp (disch := omega) only [e_q0, e_nil, e_cons, e_q, e_qf, e_qt, e_af, z_hd, z_mk1, z_lg, z_s1, z_s2, z_kl, z_en, z_kI, z_fv, z_ic, z_c1, z_sh, z_pop, z_rc, z_tgt, z_tsw, z_lsw, z_nw, z_ac, o_kI, o_kL, o_ldi, o_ldl, o_lda, o_sti, o_sta, o_stl, o_inc, o_b2, o_bz, o_l2, o_lz, o_ls, o_lneg, o_i2l, o_l2i, o_lcmp, o_dup, o_dupx1, o_dup2, o_if, o_if2, o_ifnull, o_get, o_put, o_iald, o_zald, o_aald, o_alen, o_iast, o_zast, o_aast, o_new, o_newa, o_call, o_call1, o_callN, o_obj, o_reti, o_retl, o_ret, o_tsw, o_lsw, va_rf_s, va_rf_n, z_u2_s, z_u2_k, z_u2_f, z_uR_f, z_uL_f, e_ix, e_vp, e_lt, e_le, e_eq, e_lt0, e_eq0, e_b0, e_b1, e_10, e_11, true_or, or_true, false_or, nI_add, z_bi_0, z_bi_1, e_bb, z_uR_s, z_uR_k, z_uL_s, z_uL_k, true_and, and_true, and_self, not_true_eq_false, not_false_eq_true, forall_const, Option.toList, List.cons_append, List.nil_append, List.singleton_append, Nat.reduceAdd, Nat.zero_add, Nat.add_zero, Nat.reduceEqDiff, ↓reduceIte, ite_true, ite_false, reduceCtorEq, Int.cast_ofNat_Int, Int.reduceAdd, Int.reduceToNat, ne_eq, false_imp_iff, true_imp_iff, cl_105, bf_105_0, bf_105_4, bf_105_24, bo_105_0, bo_105_4, bo_105_24, Nat.le_refl]
    exact h
  · refine z_run ck_105 3 bf_105_4 ?_
    simp (disch := omega) only [e_q0, e_nil, e_cons, e_q, e_qf, e_qt, e_af, z_hd, z_mk1, z_lg, z_s1, z_s2, z_kl, z_en, z_kI, z_fv, z_ic, z_c1, z_sh, z_pop, z_rc, z_tgt, z_tsw, z_lsw, z_nw, z_ac, o_kI, o_kL, o_ldi, o_ldl, o_lda, o_sti, o_sta, o_stl, o_inc, o_b2, o_bz, o_l2, o_lz, o_ls, o_lneg, o_i2l, o_l2i, o_lcmp, o_dup, o_dupx1, o_dup2, o_if, o_if2, o_ifnull, o_get, o_put, o_iald, o_zald, o_aald, o_alen, o_iast, o_zast, o_aast, o_new, o_newa, o_call, o_call1, o_callN, o_obj, o_reti, o_retl, o_ret, o_tsw, o_lsw, va_rf_s, va_rf_n, z_u2_s, z_u2_k, z_u2_f, z_uR_f, z_uL_f, e_ix, e_vp, e_lt, e_le, e_eq, e_lt0, e_eq0, e_b0, e_b1, e_10, e_11, true_or, or_true, false_or, nI_add, z_bi_0, z_bi_1, e_bb, z_uR_s, z_uR_k, z_uL_s, z_uL_k, true_and, and_true, and_self, not_true_eq_false, not_false_eq_true, forall_const, Option.toList, List.cons_append, List.nil_append, List.singleton_append, Nat.reduceAdd, Nat.zero_add, Nat.add_zero, Nat.reduceEqDiff, ↓reduceIte, ite_true, ite_false, reduceCtorEq, Int.cast_ofNat_Int, Int.reduceAdd, Int.reduceToNat, ne_eq, false_imp_iff, true_imp_iff, cl_105, bf_105_0, bf_105_4, bf_105_24, bo_105_0, bo_105_4, bo_105_24, Nat.not_le.mpr, hk]
    exact ih ()
theorem k_power {x : Int32} {n : Nat} (hn : n < 1000) (h : Q (some (.int (f_pow x n))) (mi, mr, ml, T)) : z_Ok l G m_Model_power [.int x, .int (nI n)] (mi, mr, ml, T) Q := by
  refine z_okN cz_106.1 (by rw [cl_106]; exact Nat.le_of_ble_eq_true rfl) cz_106.2 (z_run ck_106 3 bf_106_0 ?_)
  simp (disch := omega) only [e_q0, e_nil, e_cons, e_q, e_qf, e_qt, e_af, z_hd, z_mk1, z_lg, z_s1, z_s2, z_kl, z_en, z_kI, z_fv, z_ic, z_c1, z_sh, z_pop, z_rc, z_tgt, z_tsw, z_lsw, z_nw, z_ac, o_kI, o_kL, o_ldi, o_ldl, o_lda, o_sti, o_sta, o_stl, o_inc, o_b2, o_bz, o_l2, o_lz, o_ls, o_lneg, o_i2l, o_l2i, o_lcmp, o_dup, o_dupx1, o_dup2, o_if, o_if2, o_ifnull, o_get, o_put, o_iald, o_zald, o_aald, o_alen, o_iast, o_zast, o_aast, o_new, o_newa, o_call, o_call1, o_callN, o_obj, o_reti, o_retl, o_ret, o_tsw, o_lsw, va_rf_s, va_rf_n, z_u2_s, z_u2_k, z_u2_f, z_uR_f, z_uL_f, e_ix, e_vp, e_lt, e_le, e_eq, e_lt0, e_eq0, e_b0, e_b1, e_10, e_11, true_or, or_true, false_or, nI_add, z_bi_0, z_bi_1, e_bb, z_uR_s, z_uR_k, z_uL_s, z_uL_k, true_and, and_true, and_self, not_true_eq_false, not_false_eq_true, forall_const, Option.toList, List.cons_append, List.nil_append, List.singleton_append, Nat.reduceAdd, Nat.zero_add, Nat.add_zero, Nat.reduceEqDiff, ↓reduceIte, ite_true, ite_false, reduceCtorEq, Int.cast_ofNat_Int, Int.reduceAdd, Int.reduceToNat, ne_eq, false_imp_iff, true_imp_iff, cl_106, bf_106_0, bf_106_4, bf_106_19, bo_106_0, bo_106_4, bo_106_19]
  refine z_for (P := fun k (_ : Unit) => z_W l G 106 (T.2.1, T.2.2) (fun v M' => Q v M' ∧ M'.2.2.2 = T) 4 [some (.int x), some (.int (nI n)), some (.int (f_pow x k)), some (.int (nI k))] [] (mi, mr, ml, T)) n (fun _ => ?_) (fun k hk ih _ => ?_) 0 (by omega) ()
  · refine z_run ck_106 3 bf_106_4 ?_
    simp (disch := omega) only [e_q0, e_nil, e_cons, e_q, e_qf, e_qt, e_af, z_hd, z_mk1, z_lg, z_s1, z_s2, z_kl, z_en, z_kI, z_fv, z_ic, z_c1, z_sh, z_pop, z_rc, z_tgt, z_tsw, z_lsw, z_nw, z_ac, o_kI, o_kL, o_ldi, o_ldl, o_lda, o_sti, o_sta, o_stl, o_inc, o_b2, o_bz, o_l2, o_lz, o_ls, o_lneg, o_i2l, o_l2i, o_lcmp, o_dup, o_dupx1, o_dup2, o_if, o_if2, o_ifnull, o_get, o_put, o_iald, o_zald, o_aald, o_alen, o_iast, o_zast, o_aast, o_new, o_newa, o_call, o_call1, o_callN, o_obj, o_reti, o_retl, o_ret, o_tsw, o_lsw, va_rf_s, va_rf_n, z_u2_s, z_u2_k, z_u2_f, z_uR_f, z_uL_f, e_ix, e_vp, e_lt, e_le, e_eq, e_lt0, e_eq0, e_b0, e_b1, e_10, e_11, true_or, or_true, false_or, nI_add, z_bi_0, z_bi_1, e_bb, z_uR_s, z_uR_k, z_uL_s, z_uL_k, true_and, and_true, and_self, not_true_eq_false, not_false_eq_true, forall_const, Option.toList, List.cons_append, List.nil_append, List.singleton_append, Nat.reduceAdd, Nat.zero_add, Nat.add_zero, Nat.reduceEqDiff, ↓reduceIte, ite_true, ite_false, reduceCtorEq, Int.cast_ofNat_Int, Int.reduceAdd, Int.reduceToNat, ne_eq, false_imp_iff, true_imp_iff, cl_106, bf_106_0, bf_106_4, bf_106_19, bo_106_0, bo_106_4, bo_106_19, Nat.le_refl]
    exact h
  · refine z_run ck_106 3 bf_106_4 ?_
    simp (disch := omega) only [e_q0, e_nil, e_cons, e_q, e_qf, e_qt, e_af, z_hd, z_mk1, z_lg, z_s1, z_s2, z_kl, z_en, z_kI, z_fv, z_ic, z_c1, z_sh, z_pop, z_rc, z_tgt, z_tsw, z_lsw, z_nw, z_ac, o_kI, o_kL, o_ldi, o_ldl, o_lda, o_sti, o_sta, o_stl, o_inc, o_b2, o_bz, o_l2, o_lz, o_ls, o_lneg, o_i2l, o_l2i, o_lcmp, o_dup, o_dupx1, o_dup2, o_if, o_if2, o_ifnull, o_get, o_put, o_iald, o_zald, o_aald, o_alen, o_iast, o_zast, o_aast, o_new, o_newa, o_call, o_call1, o_callN, o_obj, o_reti, o_retl, o_ret, o_tsw, o_lsw, va_rf_s, va_rf_n, z_u2_s, z_u2_k, z_u2_f, z_uR_f, z_uL_f, e_ix, e_vp, e_lt, e_le, e_eq, e_lt0, e_eq0, e_b0, e_b1, e_10, e_11, true_or, or_true, false_or, nI_add, z_bi_0, z_bi_1, e_bb, z_uR_s, z_uR_k, z_uL_s, z_uL_k, true_and, and_true, and_self, not_true_eq_false, not_false_eq_true, forall_const, Option.toList, List.cons_append, List.nil_append, List.singleton_append, Nat.reduceAdd, Nat.zero_add, Nat.add_zero, Nat.reduceEqDiff, ↓reduceIte, ite_true, ite_false, reduceCtorEq, Int.cast_ofNat_Int, Int.reduceAdd, Int.reduceToNat, ne_eq, false_imp_iff, true_imp_iff, cl_106, bf_106_0, bf_106_4, bf_106_19, bo_106_0, bo_106_4, bo_106_19, Nat.not_le.mpr, hk]
    exact ih ()
theorem k_factorial {n : Nat} (hn : n < 1000) (h : Q (some (.int (f_fac n))) (mi, mr, ml, T)) : z_Ok l G m_Model_factorial [.int (nI n)] (mi, mr, ml, T) Q := by
  refine z_okN cz_107.1 (by rw [cl_107]; exact Nat.le_of_ble_eq_true rfl) cz_107.2 (z_run ck_107 3 bf_107_0 ?_)
  simp (disch := omega) only [e_q0, e_nil, e_cons, e_q, e_qf, e_qt, e_af, z_hd, z_mk1, z_lg, z_s1, z_s2, z_kl, z_en, z_kI, z_fv, z_ic, z_c1, z_sh, z_pop, z_rc, z_tgt, z_tsw, z_lsw, z_nw, z_ac, o_kI, o_kL, o_ldi, o_ldl, o_lda, o_sti, o_sta, o_stl, o_inc, o_b2, o_bz, o_l2, o_lz, o_ls, o_lneg, o_i2l, o_l2i, o_lcmp, o_dup, o_dupx1, o_dup2, o_if, o_if2, o_ifnull, o_get, o_put, o_iald, o_zald, o_aald, o_alen, o_iast, o_zast, o_aast, o_new, o_newa, o_call, o_call1, o_callN, o_obj, o_reti, o_retl, o_ret, o_tsw, o_lsw, va_rf_s, va_rf_n, z_u2_s, z_u2_k, z_u2_f, z_uR_f, z_uL_f, e_ix, e_vp, e_lt, e_le, e_eq, e_lt0, e_eq0, e_b0, e_b1, e_10, e_11, true_or, or_true, false_or, nI_add, z_bi_0, z_bi_1, e_bb, z_uR_s, z_uR_k, z_uL_s, z_uL_k, true_and, and_true, and_self, not_true_eq_false, not_false_eq_true, forall_const, Option.toList, List.cons_append, List.nil_append, List.singleton_append, Nat.reduceAdd, Nat.zero_add, Nat.add_zero, Nat.reduceEqDiff, ↓reduceIte, ite_true, ite_false, reduceCtorEq, Int.cast_ofNat_Int, Int.reduceAdd, Int.reduceToNat, ne_eq, false_imp_iff, true_imp_iff, cl_107, bf_107_0, bf_107_4, bf_107_19, bo_107_0, bo_107_4, bo_107_19]
  by_cases hn2 : n ≤ 1
  · refine z_run ck_107 3 bf_107_4 ?_
    simp (disch := omega) only [e_q0, e_nil, e_cons, e_q, e_qf, e_qt, e_af, z_hd, z_mk1, z_lg, z_s1, z_s2, z_kl, z_en, z_kI, z_fv, z_ic, z_c1, z_sh, z_pop, z_rc, z_tgt, z_tsw, z_lsw, z_nw, z_ac, o_kI, o_kL, o_ldi, o_ldl, o_lda, o_sti, o_sta, o_stl, o_inc, o_b2, o_bz, o_l2, o_lz, o_ls, o_lneg, o_i2l, o_l2i, o_lcmp, o_dup, o_dupx1, o_dup2, o_if, o_if2, o_ifnull, o_get, o_put, o_iald, o_zald, o_aald, o_alen, o_iast, o_zast, o_aast, o_new, o_newa, o_call, o_call1, o_callN, o_obj, o_reti, o_retl, o_ret, o_tsw, o_lsw, va_rf_s, va_rf_n, z_u2_s, z_u2_k, z_u2_f, z_uR_f, z_uL_f, e_ix, e_vp, e_lt, e_le, e_eq, e_lt0, e_eq0, e_b0, e_b1, e_10, e_11, true_or, or_true, false_or, nI_add, z_bi_0, z_bi_1, e_bb, z_uR_s, z_uR_k, z_uL_s, z_uL_k, true_and, and_true, and_self, not_true_eq_false, not_false_eq_true, forall_const, Option.toList, List.cons_append, List.nil_append, List.singleton_append, Nat.reduceAdd, Nat.zero_add, Nat.add_zero, Nat.reduceEqDiff, ↓reduceIte, ite_true, ite_false, reduceCtorEq, Int.cast_ofNat_Int, Int.reduceAdd, Int.reduceToNat, ne_eq, false_imp_iff, true_imp_iff, cl_107, bf_107_0, bf_107_4, bf_107_19, bo_107_0, bo_107_4, bo_107_19]
    rcases (show n = 0 ∨ n = 1 by omega) with rfl | rfl
    · exact ⟨fun _ => h, fun q => absurd q (by omega)⟩
    · exact ⟨fun _ => h, fun q => absurd q (by omega)⟩
  · refine z_for (P := fun k (_ : Unit) => z_W l G 107 (T.2.1, T.2.2) (fun v M' => Q v M' ∧ M'.2.2.2 = T) 4 [some (.int (nI n)), some (.int (f_fac (k + 1))), some (.int (nI (k + 2)))] [] (mi, mr, ml, T)) (n - 1) (fun _ => ?_) (fun k hk ih _ => ?_) 0 (by omega) ()
    · refine z_run ck_107 3 bf_107_4 ?_
      simp (disch := omega) only [e_q0, e_nil, e_cons, e_q, e_qf, e_qt, e_af, z_hd, z_mk1, z_lg, z_s1, z_s2, z_kl, z_en, z_kI, z_fv, z_ic, z_c1, z_sh, z_pop, z_rc, z_tgt, z_tsw, z_lsw, z_nw, z_ac, o_kI, o_kL, o_ldi, o_ldl, o_lda, o_sti, o_sta, o_stl, o_inc, o_b2, o_bz, o_l2, o_lz, o_ls, o_lneg, o_i2l, o_l2i, o_lcmp, o_dup, o_dupx1, o_dup2, o_if, o_if2, o_ifnull, o_get, o_put, o_iald, o_zald, o_aald, o_alen, o_iast, o_zast, o_aast, o_new, o_newa, o_call, o_call1, o_callN, o_obj, o_reti, o_retl, o_ret, o_tsw, o_lsw, va_rf_s, va_rf_n, z_u2_s, z_u2_k, z_u2_f, z_uR_f, z_uL_f, e_ix, e_vp, e_lt, e_le, e_eq, e_lt0, e_eq0, e_b0, e_b1, e_10, e_11, true_or, or_true, false_or, nI_add, z_bi_0, z_bi_1, e_bb, z_uR_s, z_uR_k, z_uL_s, z_uL_k, true_and, and_true, and_self, not_true_eq_false, not_false_eq_true, forall_const, Option.toList, List.cons_append, List.nil_append, List.singleton_append, Nat.reduceAdd, Nat.zero_add, Nat.add_zero, Nat.reduceEqDiff, ↓reduceIte, ite_true, ite_false, reduceCtorEq, Int.cast_ofNat_Int, Int.reduceAdd, Int.reduceToNat, ne_eq, false_imp_iff, true_imp_iff, cl_107, bf_107_0, bf_107_4, bf_107_19, bo_107_0, bo_107_4, bo_107_19]
      rw [show n - 1 + 1 = n by omega]
      exact ⟨fun _ => h, fun q => absurd q (by omega)⟩
    · refine z_run ck_107 3 bf_107_4 ?_
      simp (disch := omega) only [e_q0, e_nil, e_cons, e_q, e_qf, e_qt, e_af, z_hd, z_mk1, z_lg, z_s1, z_s2, z_kl, z_en, z_kI, z_fv, z_ic, z_c1, z_sh, z_pop, z_rc, z_tgt, z_tsw, z_lsw, z_nw, z_ac, o_kI, o_kL, o_ldi, o_ldl, o_lda, o_sti, o_sta, o_stl, o_inc, o_b2, o_bz, o_l2, o_lz, o_ls, o_lneg, o_i2l, o_l2i, o_lcmp, o_dup, o_dupx1, o_dup2, o_if, o_if2, o_ifnull, o_get, o_put, o_iald, o_zald, o_aald, o_alen, o_iast, o_zast, o_aast, o_new, o_newa, o_call, o_call1, o_callN, o_obj, o_reti, o_retl, o_ret, o_tsw, o_lsw, va_rf_s, va_rf_n, z_u2_s, z_u2_k, z_u2_f, z_uR_f, z_uL_f, e_ix, e_vp, e_lt, e_le, e_eq, e_lt0, e_eq0, e_b0, e_b1, e_10, e_11, true_or, or_true, false_or, nI_add, z_bi_0, z_bi_1, e_bb, z_uR_s, z_uR_k, z_uL_s, z_uL_k, true_and, and_true, and_self, not_true_eq_false, not_false_eq_true, forall_const, Option.toList, List.cons_append, List.nil_append, List.singleton_append, Nat.reduceAdd, Nat.zero_add, Nat.add_zero, Nat.reduceEqDiff, ↓reduceIte, ite_true, ite_false, reduceCtorEq, Int.cast_ofNat_Int, Int.reduceAdd, Int.reduceToNat, ne_eq, false_imp_iff, true_imp_iff, cl_107, bf_107_0, bf_107_4, bf_107_19, bo_107_0, bo_107_4, bo_107_19]
      exact ⟨fun q => absurd q (by omega), fun _ => ih ()⟩
theorem e_wide {x y : Int32} : (x.toInt64 ≤ y.toInt64) = (x ≤ y) := by rw [Int64.le_iff_toInt_le, Int32.le_iff_toInt_le, Int32.toInt_toInt64, Int32.toInt_toInt64]
theorem e_lNI {n : Nat} (h : n < 2147483648) : lN n = (nI n).toInt64 := (nI_l h).symm
theorem e_pred {x : Int32} {n : Nat} (h : n < 1000) : (x ≤ nI n - nI 1) = (x < nI n) := by
  rw [Int32.le_iff_toInt_le, Int32.lt_iff_toInt_lt, pk_sub_toInt (by omega) (by omega), nI_toInt (by omega)]
  exact propext ⟨fun q => by omega, fun q => by omega⟩
/-- x is the number of a thing below n -/
def f_idx (x : Int32) (n : Nat) : Bool := decide (nI 0 ≤ x) && decide (x < nI n)
theorem k_isNode {s : ZS} {x : Int32} (hS : SM T mr) (hs : PMs mi s) (h : Q (some (.int (z_bi (f_idx x s.1.1)))) (mi, mr, ml, T)) : z_Ok l G m_Model_isNode [.ref 373, .int x] (mi, mr, ml, T) Q := by
  have h8 := hs.2
  refine z_okN cz_109.1 (by rw [cl_109]; exact Nat.le_of_ble_eq_true rfl) cz_109.2 (z_run ck_109 2 bf_109_0 ?_)
  simp (disch := omega) only [e_q0, e_nil, e_cons, e_q, e_qf, e_qt, e_af, z_hd, z_mk1, z_lg, z_s1, z_s2, z_kl, z_en, z_kI, z_fv, z_ic, z_c1, z_sh, z_pop, z_rc, z_tgt, z_tsw, z_lsw, z_nw, z_ac, o_kI, o_kL, o_ldi, o_ldl, o_lda, o_sti, o_sta, o_stl, o_inc, o_b2, o_bz, o_l2, o_lz, o_ls, o_lneg, o_i2l, o_l2i, o_lcmp, o_dup, o_dupx1, o_dup2, o_if, o_if2, o_ifnull, o_get, o_put, o_iald, o_zald, o_aald, o_alen, o_iast, o_zast, o_aast, o_new, o_newa, o_call, o_call1, o_callN, o_obj, o_reti, o_retl, o_ret, o_tsw, o_lsw, va_rf_s, va_rf_n, z_u2_s, z_u2_k, z_u2_f, z_uR_f, z_uL_f, e_ix, e_vp, e_lt, e_le, e_eq, e_lt0, e_eq0, e_b0, e_b1, e_10, e_11, true_or, or_true, false_or, nI_add, z_bi_0, z_bi_1, e_bb, z_uR_s, z_uR_k, z_uL_s, z_uL_k, true_and, and_true, and_self, not_true_eq_false, not_false_eq_true, forall_const, Option.toList, List.cons_append, List.nil_append, List.singleton_append, Nat.reduceAdd, Nat.zero_add, Nat.add_zero, Nat.reduceEqDiff, ↓reduceIte, ite_true, ite_false, reduceCtorEq, Int.cast_ofNat_Int, Int.reduceAdd, Int.reduceToNat, ne_eq, false_imp_iff, true_imp_iff, cl_109, bf_109_0, bo_109_0, hS, hs]
  rw [e_lNI (by omega)]
  refine k_in ?_
  simp (disch := omega) only [e_q0, e_nil, e_cons, e_q, e_qf, e_qt, e_af, z_hd, z_mk1, z_lg, z_s1, z_s2, z_kl, z_en, z_kI, z_fv, z_ic, z_c1, z_sh, z_pop, z_rc, z_tgt, z_tsw, z_lsw, z_nw, z_ac, o_kI, o_kL, o_ldi, o_ldl, o_lda, o_sti, o_sta, o_stl, o_inc, o_b2, o_bz, o_l2, o_lz, o_ls, o_lneg, o_i2l, o_l2i, o_lcmp, o_dup, o_dupx1, o_dup2, o_if, o_if2, o_ifnull, o_get, o_put, o_iald, o_zald, o_aald, o_alen, o_iast, o_zast, o_aast, o_new, o_newa, o_call, o_call1, o_callN, o_obj, o_reti, o_retl, o_ret, o_tsw, o_lsw, va_rf_s, va_rf_n, z_u2_s, z_u2_k, z_u2_f, z_uR_f, z_uL_f, e_ix, e_vp, e_lt, e_le, e_eq, e_lt0, e_eq0, e_b0, e_b1, e_10, e_11, true_or, or_true, false_or, nI_add, z_bi_0, z_bi_1, e_bb, z_uR_s, z_uR_k, z_uL_s, z_uL_k, true_and, and_true, and_self, not_true_eq_false, not_false_eq_true, forall_const, Option.toList, List.cons_append, List.nil_append, List.singleton_append, Nat.reduceAdd, Nat.zero_add, Nat.add_zero, Nat.reduceEqDiff, ↓reduceIte, ite_true, ite_false, reduceCtorEq, Int.cast_ofNat_Int, Int.reduceAdd, Int.reduceToNat, ne_eq, false_imp_iff, true_imp_iff, cl_109, bf_109_0, bo_109_0, hS, hs, e_wide, e_pred]
  exact h
theorem k_isLink {s : ZS} {x : Int32} (hS : SM T mr) (hs : PMs mi s) (h : Q (some (.int (z_bi (f_idx x s.1.2)))) (mi, mr, ml, T)) : z_Ok l G m_Model_isLink [.ref 373, .int x] (mi, mr, ml, T) Q := by
  have h8 := hs.2
  refine z_okN cz_111.1 (by rw [cl_111]; exact Nat.le_of_ble_eq_true rfl) cz_111.2 (z_run ck_111 2 bf_111_0 ?_)
  simp (disch := omega) only [e_q0, e_nil, e_cons, e_q, e_qf, e_qt, e_af, z_hd, z_mk1, z_lg, z_s1, z_s2, z_kl, z_en, z_kI, z_fv, z_ic, z_c1, z_sh, z_pop, z_rc, z_tgt, z_tsw, z_lsw, z_nw, z_ac, o_kI, o_kL, o_ldi, o_ldl, o_lda, o_sti, o_sta, o_stl, o_inc, o_b2, o_bz, o_l2, o_lz, o_ls, o_lneg, o_i2l, o_l2i, o_lcmp, o_dup, o_dupx1, o_dup2, o_if, o_if2, o_ifnull, o_get, o_put, o_iald, o_zald, o_aald, o_alen, o_iast, o_zast, o_aast, o_new, o_newa, o_call, o_call1, o_callN, o_obj, o_reti, o_retl, o_ret, o_tsw, o_lsw, va_rf_s, va_rf_n, z_u2_s, z_u2_k, z_u2_f, z_uR_f, z_uL_f, e_ix, e_vp, e_lt, e_le, e_eq, e_lt0, e_eq0, e_b0, e_b1, e_10, e_11, true_or, or_true, false_or, nI_add, z_bi_0, z_bi_1, e_bb, z_uR_s, z_uR_k, z_uL_s, z_uL_k, true_and, and_true, and_self, not_true_eq_false, not_false_eq_true, forall_const, Option.toList, List.cons_append, List.nil_append, List.singleton_append, Nat.reduceAdd, Nat.zero_add, Nat.add_zero, Nat.reduceEqDiff, ↓reduceIte, ite_true, ite_false, reduceCtorEq, Int.cast_ofNat_Int, Int.reduceAdd, Int.reduceToNat, ne_eq, false_imp_iff, true_imp_iff, cl_111, bf_111_0, bo_111_0, hS, hs]
  rw [e_lNI (by omega)]
  refine k_in ?_
  simp (disch := omega) only [e_q0, e_nil, e_cons, e_q, e_qf, e_qt, e_af, z_hd, z_mk1, z_lg, z_s1, z_s2, z_kl, z_en, z_kI, z_fv, z_ic, z_c1, z_sh, z_pop, z_rc, z_tgt, z_tsw, z_lsw, z_nw, z_ac, o_kI, o_kL, o_ldi, o_ldl, o_lda, o_sti, o_sta, o_stl, o_inc, o_b2, o_bz, o_l2, o_lz, o_ls, o_lneg, o_i2l, o_l2i, o_lcmp, o_dup, o_dupx1, o_dup2, o_if, o_if2, o_ifnull, o_get, o_put, o_iald, o_zald, o_aald, o_alen, o_iast, o_zast, o_aast, o_new, o_newa, o_call, o_call1, o_callN, o_obj, o_reti, o_retl, o_ret, o_tsw, o_lsw, va_rf_s, va_rf_n, z_u2_s, z_u2_k, z_u2_f, z_uR_f, z_uL_f, e_ix, e_vp, e_lt, e_le, e_eq, e_lt0, e_eq0, e_b0, e_b1, e_10, e_11, true_or, or_true, false_or, nI_add, z_bi_0, z_bi_1, e_bb, z_uR_s, z_uR_k, z_uL_s, z_uL_k, true_and, and_true, and_self, not_true_eq_false, not_false_eq_true, forall_const, Option.toList, List.cons_append, List.nil_append, List.singleton_append, Nat.reduceAdd, Nat.zero_add, Nat.add_zero, Nat.reduceEqDiff, ↓reduceIte, ite_true, ite_false, reduceCtorEq, Int.cast_ofNat_Int, Int.reduceAdd, Int.reduceToNat, ne_eq, false_imp_iff, true_imp_iff, cl_111, bf_111_0, bo_111_0, hS, hs, e_wide, e_pred]
  exact h
theorem f_idx_t {x : Int32} {n : Nat} (hn : n < 1000) (h : f_idx x n = true) : ∃ j, j < n ∧ x = nI j := by
  simp only [f_idx, Bool.and_eq_true, decide_eq_true_eq] at h
  have h1 := Int32.le_iff_toInt_le.mp h.1
  have h2 := Int32.lt_iff_toInt_lt.mp h.2
  rw [nI_toInt (by omega)] at h1 h2
  refine ⟨x.toInt.toNat, by omega, Int32.toInt_inj.mp ?_⟩
  rw [nI_toInt (by omega)]
  omega
theorem f_idx_nI {j n : Nat} (hn : n < 1000) (h : j < n) : f_idx (nI j) n = true := by
  simp only [f_idx, Bool.and_eq_true, decide_eq_true_eq]
  rw [e_le (by omega) (by omega), e_lt (by omega) (by omega)]
  omega
/-- x is the number of a gateway -/
def f_gate (s : ZS) (x : Int32) : Bool := f_idx x s.1.1 && decide (s.2 0 (z_ix x) = 0)
theorem k_isGateway {s : ZS} {x : Int32} (hS : SM T mr) (hs : PMs mi s) (h : Q (some (.int (z_bi (f_gate s x)))) (mi, mr, ml, T)) : z_Ok l G m_Model_isGateway [.ref 373, .int x] (mi, mr, ml, T) Q := by
  have h8 := hs.2
  refine z_okN cz_110.1 (by rw [cl_110]; exact Nat.le_of_ble_eq_true rfl) cz_110.2 (z_run ck_110 4 bf_110_0 ?_)
  simp (disch := omega) only [e_q0, e_nil, e_cons, e_q, e_qf, e_qt, e_af, z_hd, z_mk1, z_lg, z_s1, z_s2, z_kl, z_en, z_kI, z_fv, z_ic, z_c1, z_sh, z_pop, z_rc, z_tgt, z_tsw, z_lsw, z_nw, z_ac, o_kI, o_kL, o_ldi, o_ldl, o_lda, o_sti, o_sta, o_stl, o_inc, o_b2, o_bz, o_l2, o_lz, o_ls, o_lneg, o_i2l, o_l2i, o_lcmp, o_dup, o_dupx1, o_dup2, o_if, o_if2, o_ifnull, o_get, o_put, o_iald, o_zald, o_aald, o_alen, o_iast, o_zast, o_aast, o_new, o_newa, o_call, o_call1, o_callN, o_obj, o_reti, o_retl, o_ret, o_tsw, o_lsw, va_rf_s, va_rf_n, z_u2_s, z_u2_k, z_u2_f, z_uR_f, z_uL_f, e_ix, e_vp, e_lt, e_le, e_eq, e_lt0, e_eq0, e_b0, e_b1, e_10, e_11, true_or, or_true, false_or, nI_add, z_bi_0, z_bi_1, e_bb, z_uR_s, z_uR_k, z_uL_s, z_uL_k, true_and, and_true, and_self, not_true_eq_false, not_false_eq_true, forall_const, Option.toList, List.cons_append, List.nil_append, List.singleton_append, Nat.reduceAdd, Nat.zero_add, Nat.add_zero, Nat.reduceEqDiff, ↓reduceIte, ite_true, ite_false, reduceCtorEq, Int.cast_ofNat_Int, Int.reduceAdd, Int.reduceToNat, ne_eq, false_imp_iff, true_imp_iff, cl_110, bf_110_0, bf_110_21, bf_110_22, bo_110_0, bo_110_21, bo_110_22, hS, hs]
  refine k_isNode hS hs ?_
  unfold f_gate at h
  cases hq : f_idx x s.1.1 with
  | false =>
    rw [hq] at h
    simp (disch := omega) only [e_q0, e_nil, e_cons, e_q, e_qf, e_qt, e_af, z_hd, z_mk1, z_lg, z_s1, z_s2, z_kl, z_en, z_kI, z_fv, z_ic, z_c1, z_sh, z_pop, z_rc, z_tgt, z_tsw, z_lsw, z_nw, z_ac, o_kI, o_kL, o_ldi, o_ldl, o_lda, o_sti, o_sta, o_stl, o_inc, o_b2, o_bz, o_l2, o_lz, o_ls, o_lneg, o_i2l, o_l2i, o_lcmp, o_dup, o_dupx1, o_dup2, o_if, o_if2, o_ifnull, o_get, o_put, o_iald, o_zald, o_aald, o_alen, o_iast, o_zast, o_aast, o_new, o_newa, o_call, o_call1, o_callN, o_obj, o_reti, o_retl, o_ret, o_tsw, o_lsw, va_rf_s, va_rf_n, z_u2_s, z_u2_k, z_u2_f, z_uR_f, z_uL_f, e_ix, e_vp, e_lt, e_le, e_eq, e_lt0, e_eq0, e_b0, e_b1, e_10, e_11, true_or, or_true, false_or, nI_add, z_bi_0, z_bi_1, e_bb, z_uR_s, z_uR_k, z_uL_s, z_uL_k, true_and, and_true, and_self, not_true_eq_false, not_false_eq_true, forall_const, Option.toList, List.cons_append, List.nil_append, List.singleton_append, Nat.reduceAdd, Nat.zero_add, Nat.add_zero, Nat.reduceEqDiff, ↓reduceIte, ite_true, ite_false, reduceCtorEq, Int.cast_ofNat_Int, Int.reduceAdd, Int.reduceToNat, ne_eq, false_imp_iff, true_imp_iff, cl_110, bf_110_0, bf_110_21, bf_110_22, bo_110_0, bo_110_21, bo_110_22, hS, hs]
    exact h
  | true =>
    obtain ⟨j, hj, rfl⟩ := f_idx_t (by omega) hq
    rw [hq, e_ix (by omega)] at h
    simp (disch := omega) only [e_q0, e_nil, e_cons, e_q, e_qf, e_qt, e_af, z_hd, z_mk1, z_lg, z_s1, z_s2, z_kl, z_en, z_kI, z_fv, z_ic, z_c1, z_sh, z_pop, z_rc, z_tgt, z_tsw, z_lsw, z_nw, z_ac, o_kI, o_kL, o_ldi, o_ldl, o_lda, o_sti, o_sta, o_stl, o_inc, o_b2, o_bz, o_l2, o_lz, o_ls, o_lneg, o_i2l, o_l2i, o_lcmp, o_dup, o_dupx1, o_dup2, o_if, o_if2, o_ifnull, o_get, o_put, o_iald, o_zald, o_aald, o_alen, o_iast, o_zast, o_aast, o_new, o_newa, o_call, o_call1, o_callN, o_obj, o_reti, o_retl, o_ret, o_tsw, o_lsw, va_rf_s, va_rf_n, z_u2_s, z_u2_k, z_u2_f, z_uR_f, z_uL_f, e_ix, e_vp, e_lt, e_le, e_eq, e_lt0, e_eq0, e_b0, e_b1, e_10, e_11, true_or, or_true, false_or, nI_add, z_bi_0, z_bi_1, e_bb, z_uR_s, z_uR_k, z_uL_s, z_uL_k, true_and, and_true, and_self, not_true_eq_false, not_false_eq_true, forall_const, Option.toList, List.cons_append, List.nil_append, List.singleton_append, Nat.reduceAdd, Nat.zero_add, Nat.add_zero, Nat.reduceEqDiff, ↓reduceIte, ite_true, ite_false, reduceCtorEq, Int.cast_ofNat_Int, Int.reduceAdd, Int.reduceToNat, ne_eq, false_imp_iff, true_imp_iff, cl_110, bf_110_0, bf_110_21, bf_110_22, bo_110_0, bo_110_21, bo_110_22, hS, hs]
    exact ⟨fun c => z_f1 h (by simp [c]), fun c => z_f0 h (by simp [c])⟩
end
end
section
theorem f_lts {x : Int32} {k : Nat} (hk : k < 1000) (h : x < nI 0) : ¬ x = nI k := by
  intro q
  rw [q, e_lt (by omega) (by omega)] at h
  omega
theorem f_gts {x : Int32} {k m : Nat} (hm : m < 1000) (hk : k ≤ m) (h : nI m < x) : ¬ x = nI k := by
  intro q
  rw [q, e_lt (by omega) (by omega)] at h
  omega
section
variable {l : Launch} {G : ZG} {mi : Nat → Nat → Int32} {mr : Nat → Nat → Option Nat} {ml : Nat → Nat → Int64} {T : (Nat → Nat × Nat) × Nat × Nat} {Q : ZR}
theorem f_tell_out {s : ZS} {co : Int32} {r : ZW} {i : Nat} {x : Int32} (h : x < nI 0 ∨ nI 9 < x) : f_tell s co r i x = z_ng 2 := by
  have e : ∀ k, k ≤ 9 → ¬ x = nI k := fun k hk => h.elim (f_lts (by omega)) (f_gts (by omega) hk)
  unfold f_tell
  simp only [e 0 (by omega), e 1 (by omega), e 2 (by omega), e 3 (by omega), e 4 (by omega), e 5 (by omega), e 6 (by omega), e 7 (by omega), e 8 (by omega), e 9 (by omega), if_false, ite_false, ↓reduceIte]
set_option maxHeartbeats 4000000 in
theorem k_tell {s : ZS} {w i : Nat} {what : Int32} (hS : SM T mr) (hs : PMs mi s) (hw : T.1 w = (2, 78)) (hi : i < s.1.1) (hp : f_pok (mi w) s.1.1)
    (h : Q (some (.int (f_tell s (mi 373 23) (mi w) i what))) (mi, mr, ml, T)) : z_Ok l G m_Model_tell [.ref 373, .ref w, .int (nI i), .int what] (mi, mr, ml, T) Q := by
  have h8 := hs.2
  have mid : z_W l G 143 (T.2.1, T.2.2) (fun v M' => Q v M' ∧ M'.2.2.2 = T) 38 [some (.ref 373), some (.ref w), some (.int (nI i)), some (.int what), some (.int (z_bi (decide (s.2 0 i = 0)))), some (.int (z_bi (f_par1 s (mi w) i)))] [] (mi, mr, ml, T) := by
    refine z_run ck_143 33 bf_143_38 ?_
    simp (disch := omega) only [e_q0, e_nil, e_cons, e_q, e_qf, e_qt, e_af, z_hd, z_mk1, z_lg, z_s1, z_s2, z_kl, z_en, z_kI, z_fv, z_ic, z_c1, z_sh, z_pop, z_rc, z_tgt, z_tsw, z_lsw, z_nw, z_ac, o_kI, o_kL, o_ldi, o_ldl, o_lda, o_sti, o_sta, o_stl, o_inc, o_b2, o_bz, o_l2, o_lz, o_ls, o_lneg, o_i2l, o_l2i, o_lcmp, o_dup, o_dupx1, o_dup2, o_if, o_if2, o_ifnull, o_get, o_put, o_iald, o_zald, o_aald, o_alen, o_iast, o_zast, o_aast, o_new, o_newa, o_call, o_call1, o_callN, o_obj, o_reti, o_retl, o_ret, o_tsw, o_lsw, va_rf_s, va_rf_n, z_u2_s, z_u2_k, z_u2_f, z_uR_f, z_uL_f, e_ix, e_vp, e_lt, e_le, e_eq, e_lt0, e_eq0, e_b0, e_b1, e_10, e_11, true_or, or_true, false_or, nI_add, z_bi_0, z_bi_1, e_bb, z_uR_s, z_uR_k, z_uL_s, z_uL_k, true_and, and_true, and_self, not_true_eq_false, not_false_eq_true, forall_const, Option.toList, List.cons_append, List.nil_append, List.singleton_append, Nat.reduceAdd, Nat.zero_add, Nat.add_zero, Nat.reduceEqDiff, ↓reduceIte, ite_true, ite_false, reduceCtorEq, Int.cast_ofNat_Int, Int.reduceAdd, Int.reduceToNat, ne_eq, false_imp_iff, true_imp_iff, cl_143, bf_143_0, bf_143_13, bf_143_14, bf_143_35, bf_143_36, bf_143_38, bf_143_92, bf_143_99, bf_143_113, bf_143_119, bf_143_120, bf_143_139, bf_143_140, bf_143_141, bf_143_154, bf_143_156, bf_143_157, bf_143_171, bf_143_173, bf_143_174, bf_143_188, bf_143_190, bf_143_191, bf_143_201, bf_143_207, bf_143_208, bf_143_218, bf_143_224, bf_143_225, bf_143_232, bf_143_246, bf_143_248, bf_143_249, bo_143_0, bo_143_13, bo_143_14, bo_143_35, bo_143_36, bo_143_38, bo_143_92, bo_143_99, bo_143_113, bo_143_119, bo_143_120, bo_143_139, bo_143_140, bo_143_141, bo_143_154, bo_143_156, bo_143_157, bo_143_171, bo_143_173, bo_143_174, bo_143_188, bo_143_190, bo_143_191, bo_143_201, bo_143_207, bo_143_208, bo_143_218, bo_143_224, bo_143_225, bo_143_232, bo_143_246, bo_143_248, bo_143_249, hS, hs, hw, decide_eq_false_iff_not, Bool.not_eq_false, decide_eq_true_eq, Classical.not_not, Bool.not_eq_true]
    refine ⟨fun c => ?_, fun c => ?_, ?_, ?_, ?_, ?_, ?_, ?_, ?_, ?_, ?_, ?_⟩
    · rw [f_tell_out (Or.inl c)] at h; exact h
    · rw [f_tell_out (Or.inr c)] at h; exact h
    all_goals (rintro rfl; simp (disch := omega) only [f_tell, e_eq, Nat.reduceEqDiff, ↓reduceIte] at h)
    · exact h
    · exact ⟨fun c => z_fv' h (if_neg c).symm, fun c => z_fv' h (if_pos c).symm⟩
    · exact ⟨fun c => z_fv' h (if_pos c).symm, fun c => z_fv' h (if_neg c).symm⟩
    · exact ⟨fun c => z_fv' h (by simp [c]), fun c => z_fv' h (by simp [c])⟩
    · exact ⟨fun c => z_fv' h (by simp [c]), fun c => z_fv' h (by simp [c])⟩
    · exact ⟨fun c => z_fv' h (by simp [c]), fun c => z_fv' h (by simp [c])⟩
    · exact ⟨fun c => z_fv' h (if_neg c).symm, fun c => z_fv' h (if_pos c).symm⟩
    · exact ⟨fun c => z_fv' h (if_neg c).symm, fun c => z_fv' h (if_pos c).symm⟩
    · refine k_endOf hS hs hw hi hp ?_
      simp (disch := omega) only [e_q0, e_nil, e_cons, e_q, e_qf, e_qt, e_af, z_hd, z_mk1, z_lg, z_s1, z_s2, z_kl, z_en, z_kI, z_fv, z_ic, z_c1, z_sh, z_pop, z_rc, z_tgt, z_tsw, z_lsw, z_nw, z_ac, o_kI, o_kL, o_ldi, o_ldl, o_lda, o_sti, o_sta, o_stl, o_inc, o_b2, o_bz, o_l2, o_lz, o_ls, o_lneg, o_i2l, o_l2i, o_lcmp, o_dup, o_dupx1, o_dup2, o_if, o_if2, o_ifnull, o_get, o_put, o_iald, o_zald, o_aald, o_alen, o_iast, o_zast, o_aast, o_new, o_newa, o_call, o_call1, o_callN, o_obj, o_reti, o_retl, o_ret, o_tsw, o_lsw, va_rf_s, va_rf_n, z_u2_s, z_u2_k, z_u2_f, z_uR_f, z_uL_f, e_ix, e_vp, e_lt, e_le, e_eq, e_lt0, e_eq0, e_b0, e_b1, e_10, e_11, true_or, or_true, false_or, nI_add, z_bi_0, z_bi_1, e_bb, z_uR_s, z_uR_k, z_uL_s, z_uL_k, true_and, and_true, and_self, not_true_eq_false, not_false_eq_true, forall_const, Option.toList, List.cons_append, List.nil_append, List.singleton_append, Nat.reduceAdd, Nat.zero_add, Nat.add_zero, Nat.reduceEqDiff, ↓reduceIte, ite_true, ite_false, reduceCtorEq, Int.cast_ofNat_Int, Int.reduceAdd, Int.reduceToNat, ne_eq, false_imp_iff, true_imp_iff, cl_143, bf_143_0, bf_143_13, bf_143_14, bf_143_35, bf_143_36, bf_143_38, bf_143_92, bf_143_99, bf_143_113, bf_143_119, bf_143_120, bf_143_139, bf_143_140, bf_143_141, bf_143_154, bf_143_156, bf_143_157, bf_143_171, bf_143_173, bf_143_174, bf_143_188, bf_143_190, bf_143_191, bf_143_201, bf_143_207, bf_143_208, bf_143_218, bf_143_224, bf_143_225, bf_143_232, bf_143_246, bf_143_248, bf_143_249, bo_143_0, bo_143_13, bo_143_14, bo_143_35, bo_143_36, bo_143_38, bo_143_92, bo_143_99, bo_143_113, bo_143_119, bo_143_120, bo_143_139, bo_143_140, bo_143_141, bo_143_154, bo_143_156, bo_143_157, bo_143_171, bo_143_173, bo_143_174, bo_143_188, bo_143_190, bo_143_191, bo_143_201, bo_143_207, bo_143_208, bo_143_218, bo_143_224, bo_143_225, bo_143_232, bo_143_246, bo_143_248, bo_143_249, hS, hs, hw, decide_eq_false_iff_not, Bool.not_eq_false, decide_eq_true_eq, Classical.not_not, Bool.not_eq_true]
      exact h
    · refine ⟨fun c => z_fv' h (if_neg c).symm, fun c => k_loadOf hS hs hw (by omega) hp ?_⟩
      rw [if_pos c] at h
      simp (disch := omega) only [e_q0, e_nil, e_cons, e_q, e_qf, e_qt, e_af, z_hd, z_mk1, z_lg, z_s1, z_s2, z_kl, z_en, z_kI, z_fv, z_ic, z_c1, z_sh, z_pop, z_rc, z_tgt, z_tsw, z_lsw, z_nw, z_ac, o_kI, o_kL, o_ldi, o_ldl, o_lda, o_sti, o_sta, o_stl, o_inc, o_b2, o_bz, o_l2, o_lz, o_ls, o_lneg, o_i2l, o_l2i, o_lcmp, o_dup, o_dupx1, o_dup2, o_if, o_if2, o_ifnull, o_get, o_put, o_iald, o_zald, o_aald, o_alen, o_iast, o_zast, o_aast, o_new, o_newa, o_call, o_call1, o_callN, o_obj, o_reti, o_retl, o_ret, o_tsw, o_lsw, va_rf_s, va_rf_n, z_u2_s, z_u2_k, z_u2_f, z_uR_f, z_uL_f, e_ix, e_vp, e_lt, e_le, e_eq, e_lt0, e_eq0, e_b0, e_b1, e_10, e_11, true_or, or_true, false_or, nI_add, z_bi_0, z_bi_1, e_bb, z_uR_s, z_uR_k, z_uL_s, z_uL_k, true_and, and_true, and_self, not_true_eq_false, not_false_eq_true, forall_const, Option.toList, List.cons_append, List.nil_append, List.singleton_append, Nat.reduceAdd, Nat.zero_add, Nat.add_zero, Nat.reduceEqDiff, ↓reduceIte, ite_true, ite_false, reduceCtorEq, Int.cast_ofNat_Int, Int.reduceAdd, Int.reduceToNat, ne_eq, false_imp_iff, true_imp_iff, cl_143, bf_143_0, bf_143_13, bf_143_14, bf_143_35, bf_143_36, bf_143_38, bf_143_92, bf_143_99, bf_143_113, bf_143_119, bf_143_120, bf_143_139, bf_143_140, bf_143_141, bf_143_154, bf_143_156, bf_143_157, bf_143_171, bf_143_173, bf_143_174, bf_143_188, bf_143_190, bf_143_191, bf_143_201, bf_143_207, bf_143_208, bf_143_218, bf_143_224, bf_143_225, bf_143_232, bf_143_246, bf_143_248, bf_143_249, bo_143_0, bo_143_13, bo_143_14, bo_143_35, bo_143_36, bo_143_38, bo_143_92, bo_143_99, bo_143_113, bo_143_119, bo_143_120, bo_143_139, bo_143_140, bo_143_141, bo_143_154, bo_143_156, bo_143_157, bo_143_171, bo_143_173, bo_143_174, bo_143_188, bo_143_190, bo_143_191, bo_143_201, bo_143_207, bo_143_208, bo_143_218, bo_143_224, bo_143_225, bo_143_232, bo_143_246, bo_143_248, bo_143_249, hS, hs, hw, decide_eq_false_iff_not, Bool.not_eq_false, decide_eq_true_eq, Classical.not_not, Bool.not_eq_true]
      exact h
  refine z_okN cz_143.1 (by rw [cl_143]; exact Nat.le_of_ble_eq_true rfl) cz_143.2 (z_run ck_143 33 bf_143_0 ?_)
  simp (disch := omega) only [e_q0, e_nil, e_cons, e_q, e_qf, e_qt, e_af, z_hd, z_mk1, z_lg, z_s1, z_s2, z_kl, z_en, z_kI, z_fv, z_ic, z_c1, z_sh, z_pop, z_rc, z_tgt, z_tsw, z_lsw, z_nw, z_ac, o_kI, o_kL, o_ldi, o_ldl, o_lda, o_sti, o_sta, o_stl, o_inc, o_b2, o_bz, o_l2, o_lz, o_ls, o_lneg, o_i2l, o_l2i, o_lcmp, o_dup, o_dupx1, o_dup2, o_if, o_if2, o_ifnull, o_get, o_put, o_iald, o_zald, o_aald, o_alen, o_iast, o_zast, o_aast, o_new, o_newa, o_call, o_call1, o_callN, o_obj, o_reti, o_retl, o_ret, o_tsw, o_lsw, va_rf_s, va_rf_n, z_u2_s, z_u2_k, z_u2_f, z_uR_f, z_uL_f, e_ix, e_vp, e_lt, e_le, e_eq, e_lt0, e_eq0, e_b0, e_b1, e_10, e_11, true_or, or_true, false_or, nI_add, z_bi_0, z_bi_1, e_bb, z_uR_s, z_uR_k, z_uL_s, z_uL_k, true_and, and_true, and_self, not_true_eq_false, not_false_eq_true, forall_const, Option.toList, List.cons_append, List.nil_append, List.singleton_append, Nat.reduceAdd, Nat.zero_add, Nat.add_zero, Nat.reduceEqDiff, ↓reduceIte, ite_true, ite_false, reduceCtorEq, Int.cast_ofNat_Int, Int.reduceAdd, Int.reduceToNat, ne_eq, false_imp_iff, true_imp_iff, cl_143, bf_143_0, bf_143_13, bf_143_14, bf_143_35, bf_143_36, bf_143_38, bf_143_92, bf_143_99, bf_143_113, bf_143_119, bf_143_120, bf_143_139, bf_143_140, bf_143_141, bf_143_154, bf_143_156, bf_143_157, bf_143_171, bf_143_173, bf_143_174, bf_143_188, bf_143_190, bf_143_191, bf_143_201, bf_143_207, bf_143_208, bf_143_218, bf_143_224, bf_143_225, bf_143_232, bf_143_246, bf_143_248, bf_143_249, bo_143_0, bo_143_13, bo_143_14, bo_143_35, bo_143_36, bo_143_38, bo_143_92, bo_143_99, bo_143_113, bo_143_119, bo_143_120, bo_143_139, bo_143_140, bo_143_141, bo_143_154, bo_143_156, bo_143_157, bo_143_171, bo_143_173, bo_143_174, bo_143_188, bo_143_190, bo_143_191, bo_143_201, bo_143_207, bo_143_208, bo_143_218, bo_143_224, bo_143_225, bo_143_232, bo_143_246, bo_143_248, bo_143_249, hS, hs, hw, decide_eq_false_iff_not, Bool.not_eq_false, decide_eq_true_eq, Classical.not_not, Bool.not_eq_true]
  unfold f_par1 at mid
  refine ⟨fun c => ?_, fun c => ⟨fun d => ?_, fun d => ?_⟩⟩
  · simp only [c, not_true_eq_false, decide_true, decide_false, Bool.false_and, z_bi] at mid; exact mid
  · simp only [eq_false c, d, not_true_eq_false, not_false_eq_true, decide_true, decide_false, Bool.and_false, z_bi] at mid; exact mid
  · simp only [eq_false c, eq_false d, not_true_eq_false, not_false_eq_true, decide_true, decide_false, Bool.and_true, z_bi] at mid; exact mid
theorem k_node {s : ZS} {x what : Int32} (hS : SM T mr) (hs : PMs mi s) (hp : f_pok (mi 381) s.1.1)
    (h : Q (some (.int (if f_idx x s.1.1 then f_tell s (mi 373 23) (mi 381) (z_ix x) what else z_ng 1))) (mi, mr, ml, T)) : z_Ok l G m_Model_node [.ref 373, .int x, .int what] (mi, mr, ml, T) Q := by
  have h8 := hs.2
  have hw : T.1 381 = (2, 78) := by rw [hS.1.2.2.2.2.2.2.2.2.1]
  refine z_okN cz_144.1 (by rw [cl_144]; exact Nat.le_of_ble_eq_true rfl) cz_144.2 (z_run ck_144 4 bf_144_0 ?_)
  simp (disch := omega) only [e_q0, e_nil, e_cons, e_q, e_qf, e_qt, e_af, z_hd, z_mk1, z_lg, z_s1, z_s2, z_kl, z_en, z_kI, z_fv, z_ic, z_c1, z_sh, z_pop, z_rc, z_tgt, z_tsw, z_lsw, z_nw, z_ac, o_kI, o_kL, o_ldi, o_ldl, o_lda, o_sti, o_sta, o_stl, o_inc, o_b2, o_bz, o_l2, o_lz, o_ls, o_lneg, o_i2l, o_l2i, o_lcmp, o_dup, o_dupx1, o_dup2, o_if, o_if2, o_ifnull, o_get, o_put, o_iald, o_zald, o_aald, o_alen, o_iast, o_zast, o_aast, o_new, o_newa, o_call, o_call1, o_callN, o_obj, o_reti, o_retl, o_ret, o_tsw, o_lsw, va_rf_s, va_rf_n, z_u2_s, z_u2_k, z_u2_f, z_uR_f, z_uL_f, e_ix, e_vp, e_lt, e_le, e_eq, e_lt0, e_eq0, e_b0, e_b1, e_10, e_11, true_or, or_true, false_or, nI_add, z_bi_0, z_bi_1, e_bb, z_uR_s, z_uR_k, z_uL_s, z_uL_k, true_and, and_true, and_self, not_true_eq_false, not_false_eq_true, forall_const, Option.toList, List.cons_append, List.nil_append, List.singleton_append, Nat.reduceAdd, Nat.zero_add, Nat.add_zero, Nat.reduceEqDiff, ↓reduceIte, ite_true, ite_false, reduceCtorEq, Int.cast_ofNat_Int, Int.reduceAdd, Int.reduceToNat, ne_eq, false_imp_iff, true_imp_iff, cl_144, bf_144_0, bf_144_21, bf_144_22, bo_144_0, bo_144_21, bo_144_22, hS, hs, hw]
  refine k_isNode hS hs ?_
  cases hq : f_idx x s.1.1 with
  | false =>
    rw [hq] at h
    simp (disch := omega) only [e_q0, e_nil, e_cons, e_q, e_qf, e_qt, e_af, z_hd, z_mk1, z_lg, z_s1, z_s2, z_kl, z_en, z_kI, z_fv, z_ic, z_c1, z_sh, z_pop, z_rc, z_tgt, z_tsw, z_lsw, z_nw, z_ac, o_kI, o_kL, o_ldi, o_ldl, o_lda, o_sti, o_sta, o_stl, o_inc, o_b2, o_bz, o_l2, o_lz, o_ls, o_lneg, o_i2l, o_l2i, o_lcmp, o_dup, o_dupx1, o_dup2, o_if, o_if2, o_ifnull, o_get, o_put, o_iald, o_zald, o_aald, o_alen, o_iast, o_zast, o_aast, o_new, o_newa, o_call, o_call1, o_callN, o_obj, o_reti, o_retl, o_ret, o_tsw, o_lsw, va_rf_s, va_rf_n, z_u2_s, z_u2_k, z_u2_f, z_uR_f, z_uL_f, e_ix, e_vp, e_lt, e_le, e_eq, e_lt0, e_eq0, e_b0, e_b1, e_10, e_11, true_or, or_true, false_or, nI_add, z_bi_0, z_bi_1, e_bb, z_uR_s, z_uR_k, z_uL_s, z_uL_k, true_and, and_true, and_self, not_true_eq_false, not_false_eq_true, forall_const, Option.toList, List.cons_append, List.nil_append, List.singleton_append, Nat.reduceAdd, Nat.zero_add, Nat.add_zero, Nat.reduceEqDiff, ↓reduceIte, ite_true, ite_false, reduceCtorEq, Int.cast_ofNat_Int, Int.reduceAdd, Int.reduceToNat, ne_eq, false_imp_iff, true_imp_iff, cl_144, bf_144_0, bf_144_21, bf_144_22, bo_144_0, bo_144_21, bo_144_22, hS, hs, hw]
    exact h
  | true =>
    obtain ⟨j, hj, rfl⟩ := f_idx_t (by omega) hq
    rw [hq, e_ix (by omega)] at h
    simp (disch := omega) only [e_q0, e_nil, e_cons, e_q, e_qf, e_qt, e_af, z_hd, z_mk1, z_lg, z_s1, z_s2, z_kl, z_en, z_kI, z_fv, z_ic, z_c1, z_sh, z_pop, z_rc, z_tgt, z_tsw, z_lsw, z_nw, z_ac, o_kI, o_kL, o_ldi, o_ldl, o_lda, o_sti, o_sta, o_stl, o_inc, o_b2, o_bz, o_l2, o_lz, o_ls, o_lneg, o_i2l, o_l2i, o_lcmp, o_dup, o_dupx1, o_dup2, o_if, o_if2, o_ifnull, o_get, o_put, o_iald, o_zald, o_aald, o_alen, o_iast, o_zast, o_aast, o_new, o_newa, o_call, o_call1, o_callN, o_obj, o_reti, o_retl, o_ret, o_tsw, o_lsw, va_rf_s, va_rf_n, z_u2_s, z_u2_k, z_u2_f, z_uR_f, z_uL_f, e_ix, e_vp, e_lt, e_le, e_eq, e_lt0, e_eq0, e_b0, e_b1, e_10, e_11, true_or, or_true, false_or, nI_add, z_bi_0, z_bi_1, e_bb, z_uR_s, z_uR_k, z_uL_s, z_uL_k, true_and, and_true, and_self, not_true_eq_false, not_false_eq_true, forall_const, Option.toList, List.cons_append, List.nil_append, List.singleton_append, Nat.reduceAdd, Nat.zero_add, Nat.add_zero, Nat.reduceEqDiff, ↓reduceIte, ite_true, ite_false, reduceCtorEq, Int.cast_ofNat_Int, Int.reduceAdd, Int.reduceToNat, ne_eq, false_imp_iff, true_imp_iff, cl_144, bf_144_0, bf_144_21, bf_144_22, bo_144_0, bo_144_21, bo_144_22, hS, hs, hw]
    refine k_tell hS hs hw hj hp ?_
    simp (disch := omega) only [e_q0, e_nil, e_cons, e_q, e_qf, e_qt, e_af, z_hd, z_mk1, z_lg, z_s1, z_s2, z_kl, z_en, z_kI, z_fv, z_ic, z_c1, z_sh, z_pop, z_rc, z_tgt, z_tsw, z_lsw, z_nw, z_ac, o_kI, o_kL, o_ldi, o_ldl, o_lda, o_sti, o_sta, o_stl, o_inc, o_b2, o_bz, o_l2, o_lz, o_ls, o_lneg, o_i2l, o_l2i, o_lcmp, o_dup, o_dupx1, o_dup2, o_if, o_if2, o_ifnull, o_get, o_put, o_iald, o_zald, o_aald, o_alen, o_iast, o_zast, o_aast, o_new, o_newa, o_call, o_call1, o_callN, o_obj, o_reti, o_retl, o_ret, o_tsw, o_lsw, va_rf_s, va_rf_n, z_u2_s, z_u2_k, z_u2_f, z_uR_f, z_uL_f, e_ix, e_vp, e_lt, e_le, e_eq, e_lt0, e_eq0, e_b0, e_b1, e_10, e_11, true_or, or_true, false_or, nI_add, z_bi_0, z_bi_1, e_bb, z_uR_s, z_uR_k, z_uL_s, z_uL_k, true_and, and_true, and_self, not_true_eq_false, not_false_eq_true, forall_const, Option.toList, List.cons_append, List.nil_append, List.singleton_append, Nat.reduceAdd, Nat.zero_add, Nat.add_zero, Nat.reduceEqDiff, ↓reduceIte, ite_true, ite_false, reduceCtorEq, Int.cast_ofNat_Int, Int.reduceAdd, Int.reduceToNat, ne_eq, false_imp_iff, true_imp_iff, cl_144, bf_144_0, bf_144_21, bf_144_22, bo_144_0, bo_144_21, bo_144_22, hS, hs, hw]
    exact h
theorem f_linkp_out {s : ZS} {r : ZW} {k : Nat} {x : Int32} (h : x < nI 0 ∨ nI 6 < x) : f_linkp s r k x = z_ng 2 := by
  have e : ∀ k, k ≤ 6 → ¬ x = nI k := fun k hk => h.elim (f_lts (by omega)) (f_gts (by omega) hk)
  unfold f_linkp
  simp only [e 0 (by omega), e 1 (by omega), e 2 (by omega), e 3 (by omega), e 4 (by omega), e 5 (by omega), e 6 (by omega), if_false, ite_false, ↓reduceIte]
theorem k_link {s : ZS} {x what : Int32} (hS : SM T mr) (hs : PMs mi s) (h0 : f_pos s (mi 381))
    (h : Q (some (.int (if f_idx x s.1.2 then f_linkp s (mi 381) (z_ix x) what else z_ng 1))) (mi, mr, ml, T)) : z_Ok l G m_Model_link [.ref 373, .int x, .int what] (mi, mr, ml, T) Q := by
  have h8 := hs.2
  have hw : T.1 381 = (2, 78) := by rw [hS.1.2.2.2.2.2.2.2.2.1]
  refine z_okN cz_145.1 (by rw [cl_145]; exact Nat.le_of_ble_eq_true rfl) cz_145.2 (z_run ck_145 11 bf_145_0 ?_)
  simp (disch := omega) only [e_q0, e_nil, e_cons, e_q, e_qf, e_qt, e_af, z_hd, z_mk1, z_lg, z_s1, z_s2, z_kl, z_en, z_kI, z_fv, z_ic, z_c1, z_sh, z_pop, z_rc, z_tgt, z_tsw, z_lsw, z_nw, z_ac, o_kI, o_kL, o_ldi, o_ldl, o_lda, o_sti, o_sta, o_stl, o_inc, o_b2, o_bz, o_l2, o_lz, o_ls, o_lneg, o_i2l, o_l2i, o_lcmp, o_dup, o_dupx1, o_dup2, o_if, o_if2, o_ifnull, o_get, o_put, o_iald, o_zald, o_aald, o_alen, o_iast, o_zast, o_aast, o_new, o_newa, o_call, o_call1, o_callN, o_obj, o_reti, o_retl, o_ret, o_tsw, o_lsw, va_rf_s, va_rf_n, z_u2_s, z_u2_k, z_u2_f, z_uR_f, z_uL_f, e_ix, e_vp, e_lt, e_le, e_eq, e_lt0, e_eq0, e_b0, e_b1, e_10, e_11, true_or, or_true, false_or, nI_add, z_bi_0, z_bi_1, e_bb, z_uR_s, z_uR_k, z_uL_s, z_uL_k, true_and, and_true, and_self, not_true_eq_false, not_false_eq_true, forall_const, Option.toList, List.cons_append, List.nil_append, List.singleton_append, Nat.reduceAdd, Nat.zero_add, Nat.add_zero, Nat.reduceEqDiff, ↓reduceIte, ite_true, ite_false, reduceCtorEq, Int.cast_ofNat_Int, Int.reduceAdd, Int.reduceToNat, ne_eq, false_imp_iff, true_imp_iff, cl_145, bf_145_0, bf_145_10, bf_145_52, bf_145_59, bf_145_66, bf_145_76, bf_145_86, bf_145_93, bf_145_103, bf_145_113, bo_145_0, bo_145_10, bo_145_52, bo_145_59, bo_145_66, bo_145_76, bo_145_86, bo_145_93, bo_145_103, bo_145_113, hS, hs, hw]
  refine k_isLink hS hs ?_
  cases hq : f_idx x s.1.2 with
  | false =>
    rw [hq] at h
    simp (disch := omega) only [e_q0, e_nil, e_cons, e_q, e_qf, e_qt, e_af, z_hd, z_mk1, z_lg, z_s1, z_s2, z_kl, z_en, z_kI, z_fv, z_ic, z_c1, z_sh, z_pop, z_rc, z_tgt, z_tsw, z_lsw, z_nw, z_ac, o_kI, o_kL, o_ldi, o_ldl, o_lda, o_sti, o_sta, o_stl, o_inc, o_b2, o_bz, o_l2, o_lz, o_ls, o_lneg, o_i2l, o_l2i, o_lcmp, o_dup, o_dupx1, o_dup2, o_if, o_if2, o_ifnull, o_get, o_put, o_iald, o_zald, o_aald, o_alen, o_iast, o_zast, o_aast, o_new, o_newa, o_call, o_call1, o_callN, o_obj, o_reti, o_retl, o_ret, o_tsw, o_lsw, va_rf_s, va_rf_n, z_u2_s, z_u2_k, z_u2_f, z_uR_f, z_uL_f, e_ix, e_vp, e_lt, e_le, e_eq, e_lt0, e_eq0, e_b0, e_b1, e_10, e_11, true_or, or_true, false_or, nI_add, z_bi_0, z_bi_1, e_bb, z_uR_s, z_uR_k, z_uL_s, z_uL_k, true_and, and_true, and_self, not_true_eq_false, not_false_eq_true, forall_const, Option.toList, List.cons_append, List.nil_append, List.singleton_append, Nat.reduceAdd, Nat.zero_add, Nat.add_zero, Nat.reduceEqDiff, ↓reduceIte, ite_true, ite_false, reduceCtorEq, Int.cast_ofNat_Int, Int.reduceAdd, Int.reduceToNat, ne_eq, false_imp_iff, true_imp_iff, cl_145, bf_145_0, bf_145_10, bf_145_52, bf_145_59, bf_145_66, bf_145_76, bf_145_86, bf_145_93, bf_145_103, bf_145_113, bo_145_0, bo_145_10, bo_145_52, bo_145_59, bo_145_66, bo_145_76, bo_145_86, bo_145_93, bo_145_103, bo_145_113, hS, hs, hw]
    exact h
  | true =>
    obtain ⟨j, hj, rfl⟩ := f_idx_t (by omega) hq
    rw [hq, e_ix (by omega)] at h
    simp (disch := omega) only [e_q0, e_nil, e_cons, e_q, e_qf, e_qt, e_af, z_hd, z_mk1, z_lg, z_s1, z_s2, z_kl, z_en, z_kI, z_fv, z_ic, z_c1, z_sh, z_pop, z_rc, z_tgt, z_tsw, z_lsw, z_nw, z_ac, o_kI, o_kL, o_ldi, o_ldl, o_lda, o_sti, o_sta, o_stl, o_inc, o_b2, o_bz, o_l2, o_lz, o_ls, o_lneg, o_i2l, o_l2i, o_lcmp, o_dup, o_dupx1, o_dup2, o_if, o_if2, o_ifnull, o_get, o_put, o_iald, o_zald, o_aald, o_alen, o_iast, o_zast, o_aast, o_new, o_newa, o_call, o_call1, o_callN, o_obj, o_reti, o_retl, o_ret, o_tsw, o_lsw, va_rf_s, va_rf_n, z_u2_s, z_u2_k, z_u2_f, z_uR_f, z_uL_f, e_ix, e_vp, e_lt, e_le, e_eq, e_lt0, e_eq0, e_b0, e_b1, e_10, e_11, true_or, or_true, false_or, nI_add, z_bi_0, z_bi_1, e_bb, z_uR_s, z_uR_k, z_uL_s, z_uL_k, true_and, and_true, and_self, not_true_eq_false, not_false_eq_true, forall_const, Option.toList, List.cons_append, List.nil_append, List.singleton_append, Nat.reduceAdd, Nat.zero_add, Nat.add_zero, Nat.reduceEqDiff, ↓reduceIte, ite_true, ite_false, reduceCtorEq, Int.cast_ofNat_Int, Int.reduceAdd, Int.reduceToNat, ne_eq, false_imp_iff, true_imp_iff, cl_145, bf_145_0, bf_145_10, bf_145_52, bf_145_59, bf_145_66, bf_145_76, bf_145_86, bf_145_93, bf_145_103, bf_145_113, bo_145_0, bo_145_10, bo_145_52, bo_145_59, bo_145_66, bo_145_76, bo_145_86, bo_145_93, bo_145_103, bo_145_113, hS, hs, hw]
    refine ⟨fun c => ?_, fun c => ?_, ?_, ?_, ?_, ?_, ?_, ?_, ?_⟩
    · rw [f_linkp_out (Or.inl c)] at h; exact h
    · rw [f_linkp_out (Or.inr c)] at h; exact h
    all_goals (rintro rfl; simp (disch := omega) only [f_linkp, e_eq, Nat.reduceEqDiff, ↓reduceIte] at h)
    · exact h
    · exact h
    · exact h
    · exact h
    · exact h
    · refine k_airtime hS hs hw (by omega) (h0 j hj) ?_
      simp (disch := omega) only [e_q0, e_nil, e_cons, e_q, e_qf, e_qt, e_af, z_hd, z_mk1, z_lg, z_s1, z_s2, z_kl, z_en, z_kI, z_fv, z_ic, z_c1, z_sh, z_pop, z_rc, z_tgt, z_tsw, z_lsw, z_nw, z_ac, o_kI, o_kL, o_ldi, o_ldl, o_lda, o_sti, o_sta, o_stl, o_inc, o_b2, o_bz, o_l2, o_lz, o_ls, o_lneg, o_i2l, o_l2i, o_lcmp, o_dup, o_dupx1, o_dup2, o_if, o_if2, o_ifnull, o_get, o_put, o_iald, o_zald, o_aald, o_alen, o_iast, o_zast, o_aast, o_new, o_newa, o_call, o_call1, o_callN, o_obj, o_reti, o_retl, o_ret, o_tsw, o_lsw, va_rf_s, va_rf_n, z_u2_s, z_u2_k, z_u2_f, z_uR_f, z_uL_f, e_ix, e_vp, e_lt, e_le, e_eq, e_lt0, e_eq0, e_b0, e_b1, e_10, e_11, true_or, or_true, false_or, nI_add, z_bi_0, z_bi_1, e_bb, z_uR_s, z_uR_k, z_uL_s, z_uL_k, true_and, and_true, and_self, not_true_eq_false, not_false_eq_true, forall_const, Option.toList, List.cons_append, List.nil_append, List.singleton_append, Nat.reduceAdd, Nat.zero_add, Nat.add_zero, Nat.reduceEqDiff, ↓reduceIte, ite_true, ite_false, reduceCtorEq, Int.cast_ofNat_Int, Int.reduceAdd, Int.reduceToNat, ne_eq, false_imp_iff, true_imp_iff, cl_145, bf_145_0, bf_145_10, bf_145_52, bf_145_59, bf_145_66, bf_145_76, bf_145_86, bf_145_93, bf_145_103, bf_145_113, bo_145_0, bo_145_10, bo_145_52, bo_145_59, bo_145_66, bo_145_76, bo_145_86, bo_145_93, bo_145_103, bo_145_113, hS, hs, hw]
      exact h
    · exact h
/-- the error of price and safe, or 0 -/
def f_noTwo (s : ZS) (a b : Int32) : Int32 := if f_idx a s.1.1 && f_idx b s.1.1 then (if a = b ∨ s.2 0 (z_ix b) = 0 then z_ng 2 else nI 0) else z_ng 1
theorem k_noTwo {s : ZS} {a b : Int32} (hS : SM T mr) (hs : PMs mi s) (h : Q (some (.int (f_noTwo s a b))) (mi, mr, ml, T)) : z_Ok l G m_Model_noTwo [.ref 373, .int a, .int b] (mi, mr, ml, T) Q := by
  have h8 := hs.2
  unfold f_noTwo at h
  refine z_okN cz_146.1 (by rw [cl_146]; exact Nat.le_of_ble_eq_true rfl) cz_146.2 (z_run ck_146 7 bf_146_0 ?_)
  simp (disch := omega) only [e_q0, e_nil, e_cons, e_q, e_qf, e_qt, e_af, z_hd, z_mk1, z_lg, z_s1, z_s2, z_kl, z_en, z_kI, z_fv, z_ic, z_c1, z_sh, z_pop, z_rc, z_tgt, z_tsw, z_lsw, z_nw, z_ac, o_kI, o_kL, o_ldi, o_ldl, o_lda, o_sti, o_sta, o_stl, o_inc, o_b2, o_bz, o_l2, o_lz, o_ls, o_lneg, o_i2l, o_l2i, o_lcmp, o_dup, o_dupx1, o_dup2, o_if, o_if2, o_ifnull, o_get, o_put, o_iald, o_zald, o_aald, o_alen, o_iast, o_zast, o_aast, o_new, o_newa, o_call, o_call1, o_callN, o_obj, o_reti, o_retl, o_ret, o_tsw, o_lsw, va_rf_s, va_rf_n, z_u2_s, z_u2_k, z_u2_f, z_uR_f, z_uL_f, e_ix, e_vp, e_lt, e_le, e_eq, e_lt0, e_eq0, e_b0, e_b1, e_10, e_11, true_or, or_true, false_or, nI_add, z_bi_0, z_bi_1, e_bb, z_uR_s, z_uR_k, z_uL_s, z_uL_k, true_and, and_true, and_self, not_true_eq_false, not_false_eq_true, forall_const, Option.toList, List.cons_append, List.nil_append, List.singleton_append, Nat.reduceAdd, Nat.zero_add, Nat.add_zero, Nat.reduceEqDiff, ↓reduceIte, ite_true, ite_false, reduceCtorEq, Int.cast_ofNat_Int, Int.reduceAdd, Int.reduceToNat, ne_eq, false_imp_iff, true_imp_iff, cl_146, bf_146_0, bf_146_16, bf_146_18, bf_146_32, bf_146_37, bf_146_38, bo_146_0, bo_146_16, bo_146_18, bo_146_32, bo_146_37, bo_146_38, hS, hs]
  refine k_isNode hS hs ?_
  cases hq : f_idx a s.1.1 with
  | false =>
    rw [hq] at h
    simp (disch := omega) only [e_q0, e_nil, e_cons, e_q, e_qf, e_qt, e_af, z_hd, z_mk1, z_lg, z_s1, z_s2, z_kl, z_en, z_kI, z_fv, z_ic, z_c1, z_sh, z_pop, z_rc, z_tgt, z_tsw, z_lsw, z_nw, z_ac, o_kI, o_kL, o_ldi, o_ldl, o_lda, o_sti, o_sta, o_stl, o_inc, o_b2, o_bz, o_l2, o_lz, o_ls, o_lneg, o_i2l, o_l2i, o_lcmp, o_dup, o_dupx1, o_dup2, o_if, o_if2, o_ifnull, o_get, o_put, o_iald, o_zald, o_aald, o_alen, o_iast, o_zast, o_aast, o_new, o_newa, o_call, o_call1, o_callN, o_obj, o_reti, o_retl, o_ret, o_tsw, o_lsw, va_rf_s, va_rf_n, z_u2_s, z_u2_k, z_u2_f, z_uR_f, z_uL_f, e_ix, e_vp, e_lt, e_le, e_eq, e_lt0, e_eq0, e_b0, e_b1, e_10, e_11, true_or, or_true, false_or, nI_add, z_bi_0, z_bi_1, e_bb, z_uR_s, z_uR_k, z_uL_s, z_uL_k, true_and, and_true, and_self, not_true_eq_false, not_false_eq_true, forall_const, Option.toList, List.cons_append, List.nil_append, List.singleton_append, Nat.reduceAdd, Nat.zero_add, Nat.add_zero, Nat.reduceEqDiff, ↓reduceIte, ite_true, ite_false, reduceCtorEq, Int.cast_ofNat_Int, Int.reduceAdd, Int.reduceToNat, ne_eq, false_imp_iff, true_imp_iff, cl_146, bf_146_0, bf_146_16, bf_146_18, bf_146_32, bf_146_37, bf_146_38, bo_146_0, bo_146_16, bo_146_18, bo_146_32, bo_146_37, bo_146_38, hS, hs]
    exact h
  | true =>
    rw [hq] at h
    simp (disch := omega) only [e_q0, e_nil, e_cons, e_q, e_qf, e_qt, e_af, z_hd, z_mk1, z_lg, z_s1, z_s2, z_kl, z_en, z_kI, z_fv, z_ic, z_c1, z_sh, z_pop, z_rc, z_tgt, z_tsw, z_lsw, z_nw, z_ac, o_kI, o_kL, o_ldi, o_ldl, o_lda, o_sti, o_sta, o_stl, o_inc, o_b2, o_bz, o_l2, o_lz, o_ls, o_lneg, o_i2l, o_l2i, o_lcmp, o_dup, o_dupx1, o_dup2, o_if, o_if2, o_ifnull, o_get, o_put, o_iald, o_zald, o_aald, o_alen, o_iast, o_zast, o_aast, o_new, o_newa, o_call, o_call1, o_callN, o_obj, o_reti, o_retl, o_ret, o_tsw, o_lsw, va_rf_s, va_rf_n, z_u2_s, z_u2_k, z_u2_f, z_uR_f, z_uL_f, e_ix, e_vp, e_lt, e_le, e_eq, e_lt0, e_eq0, e_b0, e_b1, e_10, e_11, true_or, or_true, false_or, nI_add, z_bi_0, z_bi_1, e_bb, z_uR_s, z_uR_k, z_uL_s, z_uL_k, true_and, and_true, and_self, not_true_eq_false, not_false_eq_true, forall_const, Option.toList, List.cons_append, List.nil_append, List.singleton_append, Nat.reduceAdd, Nat.zero_add, Nat.add_zero, Nat.reduceEqDiff, ↓reduceIte, ite_true, ite_false, reduceCtorEq, Int.cast_ofNat_Int, Int.reduceAdd, Int.reduceToNat, ne_eq, false_imp_iff, true_imp_iff, cl_146, bf_146_0, bf_146_16, bf_146_18, bf_146_32, bf_146_37, bf_146_38, bo_146_0, bo_146_16, bo_146_18, bo_146_32, bo_146_37, bo_146_38, hS, hs]
    refine k_isNode hS hs ?_
    cases hq2 : f_idx b s.1.1 with
    | false =>
      rw [hq2] at h
      simp (disch := omega) only [e_q0, e_nil, e_cons, e_q, e_qf, e_qt, e_af, z_hd, z_mk1, z_lg, z_s1, z_s2, z_kl, z_en, z_kI, z_fv, z_ic, z_c1, z_sh, z_pop, z_rc, z_tgt, z_tsw, z_lsw, z_nw, z_ac, o_kI, o_kL, o_ldi, o_ldl, o_lda, o_sti, o_sta, o_stl, o_inc, o_b2, o_bz, o_l2, o_lz, o_ls, o_lneg, o_i2l, o_l2i, o_lcmp, o_dup, o_dupx1, o_dup2, o_if, o_if2, o_ifnull, o_get, o_put, o_iald, o_zald, o_aald, o_alen, o_iast, o_zast, o_aast, o_new, o_newa, o_call, o_call1, o_callN, o_obj, o_reti, o_retl, o_ret, o_tsw, o_lsw, va_rf_s, va_rf_n, z_u2_s, z_u2_k, z_u2_f, z_uR_f, z_uL_f, e_ix, e_vp, e_lt, e_le, e_eq, e_lt0, e_eq0, e_b0, e_b1, e_10, e_11, true_or, or_true, false_or, nI_add, z_bi_0, z_bi_1, e_bb, z_uR_s, z_uR_k, z_uL_s, z_uL_k, true_and, and_true, and_self, not_true_eq_false, not_false_eq_true, forall_const, Option.toList, List.cons_append, List.nil_append, List.singleton_append, Nat.reduceAdd, Nat.zero_add, Nat.add_zero, Nat.reduceEqDiff, ↓reduceIte, ite_true, ite_false, reduceCtorEq, Int.cast_ofNat_Int, Int.reduceAdd, Int.reduceToNat, ne_eq, false_imp_iff, true_imp_iff, cl_146, bf_146_0, bf_146_16, bf_146_18, bf_146_32, bf_146_37, bf_146_38, bo_146_0, bo_146_16, bo_146_18, bo_146_32, bo_146_37, bo_146_38, hS, hs]
      exact h
    | true =>
      obtain ⟨j, hj, rfl⟩ := f_idx_t (by omega) hq2
      rw [hq2, e_ix (by omega)] at h
      simp (disch := omega) only [e_q0, e_nil, e_cons, e_q, e_qf, e_qt, e_af, z_hd, z_mk1, z_lg, z_s1, z_s2, z_kl, z_en, z_kI, z_fv, z_ic, z_c1, z_sh, z_pop, z_rc, z_tgt, z_tsw, z_lsw, z_nw, z_ac, o_kI, o_kL, o_ldi, o_ldl, o_lda, o_sti, o_sta, o_stl, o_inc, o_b2, o_bz, o_l2, o_lz, o_ls, o_lneg, o_i2l, o_l2i, o_lcmp, o_dup, o_dupx1, o_dup2, o_if, o_if2, o_ifnull, o_get, o_put, o_iald, o_zald, o_aald, o_alen, o_iast, o_zast, o_aast, o_new, o_newa, o_call, o_call1, o_callN, o_obj, o_reti, o_retl, o_ret, o_tsw, o_lsw, va_rf_s, va_rf_n, z_u2_s, z_u2_k, z_u2_f, z_uR_f, z_uL_f, e_ix, e_vp, e_lt, e_le, e_eq, e_lt0, e_eq0, e_b0, e_b1, e_10, e_11, true_or, or_true, false_or, nI_add, z_bi_0, z_bi_1, e_bb, z_uR_s, z_uR_k, z_uL_s, z_uL_k, true_and, and_true, and_self, not_true_eq_false, not_false_eq_true, forall_const, Option.toList, List.cons_append, List.nil_append, List.singleton_append, Nat.reduceAdd, Nat.zero_add, Nat.add_zero, Nat.reduceEqDiff, ↓reduceIte, ite_true, ite_false, reduceCtorEq, Int.cast_ofNat_Int, Int.reduceAdd, Int.reduceToNat, ne_eq, false_imp_iff, true_imp_iff, cl_146, bf_146_0, bf_146_16, bf_146_18, bf_146_32, bf_146_37, bf_146_38, bo_146_0, bo_146_16, bo_146_18, bo_146_32, bo_146_37, bo_146_38, hS, hs]
      exact ⟨fun c => z_fv' h (by simp [c]), fun c => ⟨fun d => z_fv' h (by simp [d]), fun d => z_fv' h (by simp [c, d])⟩⟩
theorem f_noTwo_0 {s : ZS} {a b : Int32} (h8 : s.1.1 ≤ 8) (h : f_noTwo s a b = nI 0) : ∃ i j, (i < s.1.1 ∧ a = nI i) ∧ (j < s.1.1 ∧ b = nI j) ∧ i ≠ j ∧ ¬ s.2 0 j = 0 := by
  have n1 : ¬ z_ng 1 = nI 0 := by decide
  have n2 : ¬ z_ng 2 = nI 0 := by decide
  unfold f_noTwo at h
  split at h
  · rename_i hq
    simp only [Bool.and_eq_true] at hq
    split at h
    · exact absurd h n2
    · rename_i hn
      obtain ⟨i, hi, rfl⟩ := f_idx_t (by omega) hq.1
      obtain ⟨j, hj, rfl⟩ := f_idx_t (by omega) hq.2
      rw [e_ix (by omega)] at hn
      exact ⟨i, j, ⟨hi, rfl⟩, ⟨hj, rfl⟩, fun q => hn (Or.inl (by rw [q])), fun q => hn (Or.inr q)⟩
  · exact absurd h n1
theorem k_price {s : ZS} {a b : Int32} (hS : SM T mr) (hs : PMs mi s) (h0 : f_pos s (mi 381)) (h : Q (some (.int (if f_noTwo s a b = nI 0 then f_price s (mi 373 23) (mi 381) (z_ix a) (z_ix b) else f_noTwo s a b))) (mi, mr, ml, T)) : z_Ok l G m_Model_price [.ref 373, .int a, .int b] (mi, mr, ml, T) Q := by
  have h8 := hs.2
  have hw : T.1 381 = (2, 78) := by rw [hS.1.2.2.2.2.2.2.2.2.1]
  refine z_okN cz_147.1 (by rw [cl_147]; exact Nat.le_of_ble_eq_true rfl) cz_147.2 (z_run ck_147 4 bf_147_0 ?_)
  simp (disch := omega) only [e_q0, e_nil, e_cons, e_q, e_qf, e_qt, e_af, z_hd, z_mk1, z_lg, z_s1, z_s2, z_kl, z_en, z_kI, z_fv, z_ic, z_c1, z_sh, z_pop, z_rc, z_tgt, z_tsw, z_lsw, z_nw, z_ac, o_kI, o_kL, o_ldi, o_ldl, o_lda, o_sti, o_sta, o_stl, o_inc, o_b2, o_bz, o_l2, o_lz, o_ls, o_lneg, o_i2l, o_l2i, o_lcmp, o_dup, o_dupx1, o_dup2, o_if, o_if2, o_ifnull, o_get, o_put, o_iald, o_zald, o_aald, o_alen, o_iast, o_zast, o_aast, o_new, o_newa, o_call, o_call1, o_callN, o_obj, o_reti, o_retl, o_ret, o_tsw, o_lsw, va_rf_s, va_rf_n, z_u2_s, z_u2_k, z_u2_f, z_uR_f, z_uL_f, e_ix, e_vp, e_lt, e_le, e_eq, e_lt0, e_eq0, e_b0, e_b1, e_10, e_11, true_or, or_true, false_or, nI_add, z_bi_0, z_bi_1, e_bb, z_uR_s, z_uR_k, z_uL_s, z_uL_k, true_and, and_true, and_self, not_true_eq_false, not_false_eq_true, forall_const, Option.toList, List.cons_append, List.nil_append, List.singleton_append, Nat.reduceAdd, Nat.zero_add, Nat.add_zero, Nat.reduceEqDiff, ↓reduceIte, ite_true, ite_false, reduceCtorEq, Int.cast_ofNat_Int, Int.reduceAdd, Int.reduceToNat, ne_eq, false_imp_iff, true_imp_iff, cl_147, bf_147_0, bf_147_15, bf_147_25, bo_147_0, bo_147_15, bo_147_25, hS, hs, hw]
  refine k_noTwo hS hs ?_
  simp (disch := omega) only [e_q0, e_nil, e_cons, e_q, e_qf, e_qt, e_af, z_hd, z_mk1, z_lg, z_s1, z_s2, z_kl, z_en, z_kI, z_fv, z_ic, z_c1, z_sh, z_pop, z_rc, z_tgt, z_tsw, z_lsw, z_nw, z_ac, o_kI, o_kL, o_ldi, o_ldl, o_lda, o_sti, o_sta, o_stl, o_inc, o_b2, o_bz, o_l2, o_lz, o_ls, o_lneg, o_i2l, o_l2i, o_lcmp, o_dup, o_dupx1, o_dup2, o_if, o_if2, o_ifnull, o_get, o_put, o_iald, o_zald, o_aald, o_alen, o_iast, o_zast, o_aast, o_new, o_newa, o_call, o_call1, o_callN, o_obj, o_reti, o_retl, o_ret, o_tsw, o_lsw, va_rf_s, va_rf_n, z_u2_s, z_u2_k, z_u2_f, z_uR_f, z_uL_f, e_ix, e_vp, e_lt, e_le, e_eq, e_lt0, e_eq0, e_b0, e_b1, e_10, e_11, true_or, or_true, false_or, nI_add, z_bi_0, z_bi_1, e_bb, z_uR_s, z_uR_k, z_uL_s, z_uL_k, true_and, and_true, and_self, not_true_eq_false, not_false_eq_true, forall_const, Option.toList, List.cons_append, List.nil_append, List.singleton_append, Nat.reduceAdd, Nat.zero_add, Nat.add_zero, Nat.reduceEqDiff, ↓reduceIte, ite_true, ite_false, reduceCtorEq, Int.cast_ofNat_Int, Int.reduceAdd, Int.reduceToNat, ne_eq, false_imp_iff, true_imp_iff, cl_147, bf_147_0, bf_147_15, bf_147_25, bo_147_0, bo_147_15, bo_147_25, hS, hs, hw]
  refine ⟨fun c => ?_, fun c => ?_⟩
  · obtain ⟨i, j, ⟨hi, rfl⟩, ⟨hj, rfl⟩, -⟩ := f_noTwo_0 h8.1 c
    rw [if_pos (by exact c), e_ix (by omega), e_ix (by omega)] at h
    refine k_priceOf hS hs hw h0 (by omega) ?_
    simp (disch := omega) only [e_q0, e_nil, e_cons, e_q, e_qf, e_qt, e_af, z_hd, z_mk1, z_lg, z_s1, z_s2, z_kl, z_en, z_kI, z_fv, z_ic, z_c1, z_sh, z_pop, z_rc, z_tgt, z_tsw, z_lsw, z_nw, z_ac, o_kI, o_kL, o_ldi, o_ldl, o_lda, o_sti, o_sta, o_stl, o_inc, o_b2, o_bz, o_l2, o_lz, o_ls, o_lneg, o_i2l, o_l2i, o_lcmp, o_dup, o_dupx1, o_dup2, o_if, o_if2, o_ifnull, o_get, o_put, o_iald, o_zald, o_aald, o_alen, o_iast, o_zast, o_aast, o_new, o_newa, o_call, o_call1, o_callN, o_obj, o_reti, o_retl, o_ret, o_tsw, o_lsw, va_rf_s, va_rf_n, z_u2_s, z_u2_k, z_u2_f, z_uR_f, z_uL_f, e_ix, e_vp, e_lt, e_le, e_eq, e_lt0, e_eq0, e_b0, e_b1, e_10, e_11, true_or, or_true, false_or, nI_add, z_bi_0, z_bi_1, e_bb, z_uR_s, z_uR_k, z_uL_s, z_uL_k, true_and, and_true, and_self, not_true_eq_false, not_false_eq_true, forall_const, Option.toList, List.cons_append, List.nil_append, List.singleton_append, Nat.reduceAdd, Nat.zero_add, Nat.add_zero, Nat.reduceEqDiff, ↓reduceIte, ite_true, ite_false, reduceCtorEq, Int.cast_ofNat_Int, Int.reduceAdd, Int.reduceToNat, ne_eq, false_imp_iff, true_imp_iff, cl_147, bf_147_0, bf_147_15, bf_147_25, bo_147_0, bo_147_15, bo_147_25, hS, hs, hw]
    exact h
  · rw [if_neg (by exact c)] at h; exact h
theorem k_safe {s : ZS} {a b : Int32} (hS : SM T mr) (hs : PMs mi s) (h0 : f_pos s (mi 381)) (h : Q (some (.int (if f_noTwo s a b = nI 0 then (if f_price s (mi 373 23) (mi 381) (z_ix a) (z_ix b) = z_ng 9 then z_ng 9 else z_bi (f_safe s (mi 381) (z_ix a) (z_ix b))) else f_noTwo s a b))) (mi, mr, ml, T)) : z_Ok l G m_Model_safe [.ref 373, .int a, .int b] (mi, mr, ml, T) Q := by
  have h8 := hs.2
  have hw : T.1 381 = (2, 78) := by rw [hS.1.2.2.2.2.2.2.2.2.1]
  refine z_okN cz_148.1 (by rw [cl_148]; exact Nat.le_of_ble_eq_true rfl) cz_148.2 (z_run ck_148 6 bf_148_0 ?_)
  simp (disch := omega) only [e_q0, e_nil, e_cons, e_q, e_qf, e_qt, e_af, z_hd, z_mk1, z_lg, z_s1, z_s2, z_kl, z_en, z_kI, z_fv, z_ic, z_c1, z_sh, z_pop, z_rc, z_tgt, z_tsw, z_lsw, z_nw, z_ac, o_kI, o_kL, o_ldi, o_ldl, o_lda, o_sti, o_sta, o_stl, o_inc, o_b2, o_bz, o_l2, o_lz, o_ls, o_lneg, o_i2l, o_l2i, o_lcmp, o_dup, o_dupx1, o_dup2, o_if, o_if2, o_ifnull, o_get, o_put, o_iald, o_zald, o_aald, o_alen, o_iast, o_zast, o_aast, o_new, o_newa, o_call, o_call1, o_callN, o_obj, o_reti, o_retl, o_ret, o_tsw, o_lsw, va_rf_s, va_rf_n, z_u2_s, z_u2_k, z_u2_f, z_uR_f, z_uL_f, e_ix, e_vp, e_lt, e_le, e_eq, e_lt0, e_eq0, e_b0, e_b1, e_10, e_11, true_or, or_true, false_or, nI_add, z_bi_0, z_bi_1, e_bb, z_uR_s, z_uR_k, z_uL_s, z_uL_k, true_and, and_true, and_self, not_true_eq_false, not_false_eq_true, forall_const, Option.toList, List.cons_append, List.nil_append, List.singleton_append, Nat.reduceAdd, Nat.zero_add, Nat.add_zero, Nat.reduceEqDiff, ↓reduceIte, ite_true, ite_false, reduceCtorEq, Int.cast_ofNat_Int, Int.reduceAdd, Int.reduceToNat, ne_eq, false_imp_iff, true_imp_iff, cl_148, bf_148_0, bf_148_13, bf_148_33, bf_148_50, bf_148_51, bo_148_0, bo_148_13, bo_148_33, bo_148_50, bo_148_51, hS, hs, hw]
  refine k_noTwo hS hs ?_
  simp (disch := omega) only [e_q0, e_nil, e_cons, e_q, e_qf, e_qt, e_af, z_hd, z_mk1, z_lg, z_s1, z_s2, z_kl, z_en, z_kI, z_fv, z_ic, z_c1, z_sh, z_pop, z_rc, z_tgt, z_tsw, z_lsw, z_nw, z_ac, o_kI, o_kL, o_ldi, o_ldl, o_lda, o_sti, o_sta, o_stl, o_inc, o_b2, o_bz, o_l2, o_lz, o_ls, o_lneg, o_i2l, o_l2i, o_lcmp, o_dup, o_dupx1, o_dup2, o_if, o_if2, o_ifnull, o_get, o_put, o_iald, o_zald, o_aald, o_alen, o_iast, o_zast, o_aast, o_new, o_newa, o_call, o_call1, o_callN, o_obj, o_reti, o_retl, o_ret, o_tsw, o_lsw, va_rf_s, va_rf_n, z_u2_s, z_u2_k, z_u2_f, z_uR_f, z_uL_f, e_ix, e_vp, e_lt, e_le, e_eq, e_lt0, e_eq0, e_b0, e_b1, e_10, e_11, true_or, or_true, false_or, nI_add, z_bi_0, z_bi_1, e_bb, z_uR_s, z_uR_k, z_uL_s, z_uL_k, true_and, and_true, and_self, not_true_eq_false, not_false_eq_true, forall_const, Option.toList, List.cons_append, List.nil_append, List.singleton_append, Nat.reduceAdd, Nat.zero_add, Nat.add_zero, Nat.reduceEqDiff, ↓reduceIte, ite_true, ite_false, reduceCtorEq, Int.cast_ofNat_Int, Int.reduceAdd, Int.reduceToNat, ne_eq, false_imp_iff, true_imp_iff, cl_148, bf_148_0, bf_148_13, bf_148_33, bf_148_50, bf_148_51, bo_148_0, bo_148_13, bo_148_33, bo_148_50, bo_148_51, hS, hs, hw]
  refine ⟨fun c => ?_, fun c => ?_⟩
  · obtain ⟨i, j, ⟨hi, rfl⟩, ⟨hj, rfl⟩, -⟩ := f_noTwo_0 h8.1 c
    rw [if_pos (by exact c), e_ix (by omega), e_ix (by omega)] at h
    refine k_priceOf hS hs hw h0 (by omega) ?_
    simp (disch := omega) only [e_q0, e_nil, e_cons, e_q, e_qf, e_qt, e_af, z_hd, z_mk1, z_lg, z_s1, z_s2, z_kl, z_en, z_kI, z_fv, z_ic, z_c1, z_sh, z_pop, z_rc, z_tgt, z_tsw, z_lsw, z_nw, z_ac, o_kI, o_kL, o_ldi, o_ldl, o_lda, o_sti, o_sta, o_stl, o_inc, o_b2, o_bz, o_l2, o_lz, o_ls, o_lneg, o_i2l, o_l2i, o_lcmp, o_dup, o_dupx1, o_dup2, o_if, o_if2, o_ifnull, o_get, o_put, o_iald, o_zald, o_aald, o_alen, o_iast, o_zast, o_aast, o_new, o_newa, o_call, o_call1, o_callN, o_obj, o_reti, o_retl, o_ret, o_tsw, o_lsw, va_rf_s, va_rf_n, z_u2_s, z_u2_k, z_u2_f, z_uR_f, z_uL_f, e_ix, e_vp, e_lt, e_le, e_eq, e_lt0, e_eq0, e_b0, e_b1, e_10, e_11, true_or, or_true, false_or, nI_add, z_bi_0, z_bi_1, e_bb, z_uR_s, z_uR_k, z_uL_s, z_uL_k, true_and, and_true, and_self, not_true_eq_false, not_false_eq_true, forall_const, Option.toList, List.cons_append, List.nil_append, List.singleton_append, Nat.reduceAdd, Nat.zero_add, Nat.add_zero, Nat.reduceEqDiff, ↓reduceIte, ite_true, ite_false, reduceCtorEq, Int.cast_ofNat_Int, Int.reduceAdd, Int.reduceToNat, ne_eq, false_imp_iff, true_imp_iff, cl_148, bf_148_0, bf_148_13, bf_148_33, bf_148_50, bf_148_51, bo_148_0, bo_148_13, bo_148_33, bo_148_50, bo_148_51, hS, hs, hw]
    refine ⟨fun d => ?_, fun d => k_isSafe hS hs hw (by omega) (by omega) ?_⟩
    · rw [if_pos d] at h; exact h
    · rw [if_neg d] at h
      simp (disch := omega) only [e_q0, e_nil, e_cons, e_q, e_qf, e_qt, e_af, z_hd, z_mk1, z_lg, z_s1, z_s2, z_kl, z_en, z_kI, z_fv, z_ic, z_c1, z_sh, z_pop, z_rc, z_tgt, z_tsw, z_lsw, z_nw, z_ac, o_kI, o_kL, o_ldi, o_ldl, o_lda, o_sti, o_sta, o_stl, o_inc, o_b2, o_bz, o_l2, o_lz, o_ls, o_lneg, o_i2l, o_l2i, o_lcmp, o_dup, o_dupx1, o_dup2, o_if, o_if2, o_ifnull, o_get, o_put, o_iald, o_zald, o_aald, o_alen, o_iast, o_zast, o_aast, o_new, o_newa, o_call, o_call1, o_callN, o_obj, o_reti, o_retl, o_ret, o_tsw, o_lsw, va_rf_s, va_rf_n, z_u2_s, z_u2_k, z_u2_f, z_uR_f, z_uL_f, e_ix, e_vp, e_lt, e_le, e_eq, e_lt0, e_eq0, e_b0, e_b1, e_10, e_11, true_or, or_true, false_or, nI_add, z_bi_0, z_bi_1, e_bb, z_uR_s, z_uR_k, z_uL_s, z_uL_k, true_and, and_true, and_self, not_true_eq_false, not_false_eq_true, forall_const, Option.toList, List.cons_append, List.nil_append, List.singleton_append, Nat.reduceAdd, Nat.zero_add, Nat.add_zero, Nat.reduceEqDiff, ↓reduceIte, ite_true, ite_false, reduceCtorEq, Int.cast_ofNat_Int, Int.reduceAdd, Int.reduceToNat, ne_eq, false_imp_iff, true_imp_iff, cl_148, bf_148_0, bf_148_13, bf_148_33, bf_148_50, bf_148_51, bo_148_0, bo_148_13, bo_148_33, bo_148_50, bo_148_51, hS, hs, hw]
      exact ⟨fun e => by rw [e] at h; exact h, fun e => by simp only [Bool.not_eq_false] at e; rw [e] at h; exact h⟩
  · rw [if_neg (by exact c)] at h; exact h
end
end
section
/-- what the reference's object holds: the text, the mesh, its row now, the rows of the changes (latest first), the rows kept, the observations, the random number -/
abbrev PM (len : Nat) (txt : ZW) (s : ZS) (r : ZW) (h : Nat) (H : Nat → ZW) (fl : ZW) (K : Nat → ZW) (o : Nat) (O : Nat → ZW) (sd : Int64) (mi : Nat → Nat → Int32) (ml : Nat → Nat → Int64) : Prop :=
  PMs mi s ∧ (mi 373 1 = nI len ∧ len ≤ 100 ∧ ∀ j, j < len → mi 374 j = txt j) ∧ (mi 381 = r ∧ z_hi (mi 382) ∧ z_hi (mi 383) ∧ mi 373 23 = nI 255) ∧
  (mi 373 14 = nI h ∧ h ≤ 14 ∧ ∃ p, p < 14 ∧ mi 373 15 = nI p ∧ ∀ j, j < h → ∀ k, k < 78 → mi 384 (78 * ((p + 13 - j) % 14) + k) = H j k) ∧
  (∀ t, t < 2 → mi 386 t = fl t ∧ ∀ k, k < 78 → mi 385 (78 * t + k) = K t k) ∧
  (mi 373 21 = nI o ∧ o ≤ 6 ∧ ∀ j, j < o → mi 387 j = O 0 j ∧ mi 388 j = O 1 j ∧ mi 389 j = O 2 j) ∧ ml 373 22 = sd
/-- the rows are in order -/
abbrev WM (s : ZS) (r : ZW) (h : Nat) (H : Nat → ZW) (fl : ZW) (K : Nat → ZW) : Prop :=
  f_cyc s ∧ f_rok s r ∧ (∀ j, j < h → f_rok s (H j)) ∧ ∀ t, t < 2 → (fl t = nI 0 ∨ fl t = nI 1) ∧ (fl t = nI 1 → f_rok s (K t))
theorem PM.cong {len : Nat} {txt : ZW} {s : ZS} {r r' : ZW} {h : Nat} {H : Nat → ZW} {fl : ZW} {K : Nat → ZW} {o : Nat} {O : Nat → ZW} {sd : Int64} {mi f : Nat → Nat → Int32} {ml : Nat → Nat → Int64} (hM : PM len txt s r h H fl K o O sd mi ml)
    (h1 : f 373 1 = mi 373 1 ∧ f 373 2 = mi 373 2 ∧ f 373 6 = mi 373 6 ∧ f 373 14 = mi 373 14 ∧ f 373 15 = mi 373 15 ∧ f 373 21 = mi 373 21 ∧ f 373 23 = mi 373 23) (h2 : ∀ c, 374 ≤ c → c ≤ 389 → c ≠ 381 → c ≠ 382 → c ≠ 383 → f c = mi c) (h3 : f 381 = r') (h4 : z_hi (f 382)) (h5 : z_hi (f 383)) : PM len txt s r' h H fl K o O sd f ml := by
  obtain ⟨a1, a2, a3, a4, a5, a6, a7⟩ := hM
  obtain ⟨b1, b2, b3, b4, b5, b6, b7⟩ := h1
  obtain ⟨⟨c1, c2, c3, c4, c5, c6, c7, c8⟩, c9⟩ := a1
  refine ⟨⟨⟨by rw [b2]; exact c1, by rw [b3]; exact c2, ?_, ?_, ?_, ?_, ?_, ?_⟩, c9⟩, ⟨by rw [b1]; exact a2.1, a2.2.1, ?_⟩, ⟨h3, h4, h5, by rw [b7]; exact a3.2.2.2⟩, ⟨by rw [b4]; exact a4.1, a4.2.1, ?_⟩, ?_, ⟨by rw [b6]; exact a6.1, a6.2.1, ?_⟩, a7⟩
  · rw [h2 375 (by omega) (by omega) (by omega) (by omega) (by omega)]; exact c3
  · rw [h2 376 (by omega) (by omega) (by omega) (by omega) (by omega)]; exact c4
  · rw [h2 377 (by omega) (by omega) (by omega) (by omega) (by omega)]; exact c5
  · rw [h2 378 (by omega) (by omega) (by omega) (by omega) (by omega)]; exact c6
  · rw [h2 379 (by omega) (by omega) (by omega) (by omega) (by omega)]; exact c7
  · rw [h2 380 (by omega) (by omega) (by omega) (by omega) (by omega)]; exact c8
  · rw [h2 374 (by omega) (by omega) (by omega) (by omega) (by omega)]; exact a2.2.2
  · rw [h2 384 (by omega) (by omega) (by omega) (by omega) (by omega), b5]; exact a4.2.2
  · rw [h2 385 (by omega) (by omega) (by omega) (by omega) (by omega), h2 386 (by omega) (by omega) (by omega) (by omega) (by omega)]; exact a5
  · rw [h2 387 (by omega) (by omega) (by omega) (by omega) (by omega), h2 388 (by omega) (by omega) (by omega) (by omega) (by omega), h2 389 (by omega) (by omega) (by omega) (by omega) (by omega)]; exact a6.2.2
def f_push (r : ZW) (H : Nat → ZW) : Nat → ZW
  | 0 => r
  | j + 1 => H j
section
variable {l : Launch} {G : ZG} {mi : Nat → Nat → Int32} {mr : Nat → Nat → Option Nat} {ml : Nat → Nat → Int64} {T : (Nat → Nat × Nat) × Nat × Nat} {Q : ZR}
variable {len : Nat} {txt : ZW} {s : ZS} {r : ZW} {h : Nat} {H : Nat → ZW} {fl : ZW} {K : Nat → ZW} {o : Nat} {O : Nat → ZW} {sd : Int64}
theorem note_PM {f g : Nat → Nat → Int32} {h' p : Nat} (hM : PM len txt s r h H fl K o O sd mi ml) (hp : p < 14) (hpe : mi 373 15 = nI p) (hf : ∀ c j, f c j = if c = 384 then (if 78 * p ≤ j ∧ j < 78 * p + 78 then r (j - 78 * p) else mi 384 j) else mi c j)
    (hg : g = z_u2 (z_u2 f 373 15 (nI ((p + 1) % 14))) 373 14 (nI h')) (hh : h' = if h < 14 then h + 1 else 14) (hL : ∀ j, j < h → ∀ k, k < 78 → mi 384 (78 * ((p + 13 - j) % 14) + k) = H j k) :
    PM len txt s r h' (f_push r H) fl K o O sd g ml ∧ (∀ c, c < 373 → g c = mi c) ∧ g 382 = mi 382 := by
  obtain ⟨a1, a2, a3, ⟨a4, a4b, _⟩, a5, a6, a7⟩ := id hM
  have w1 : ∀ c, c ≠ 373 → c ≠ 384 → g c = mi c := fun c c1 c2 => by
    rw [hg, z_u2_f c1, z_u2_f c1]; exact z_sw hf c2
  have w2 : ∀ j, j ≠ 14 → j ≠ 15 → g 373 j = mi 373 j := fun j c1 c2 => by
    rw [hg, z_u2_k c1, z_u2_k c2, z_sw hf (by omega)]
  have w3 : g 373 14 = nI h' := by rw [hg]; exact z_u2_s
  have w4 : g 373 15 = nI ((p + 1) % 14) := by rw [hg, z_u2_k (by omega)]; exact z_u2_s
  have w5 : ∀ j, g 384 j = if 78 * p ≤ j ∧ j < 78 * p + 78 then r (j - 78 * p) else mi 384 j := fun j => by
    rw [hg, z_u2_a (by omega), z_u2_a (by omega), hf, if_pos rfl]
  obtain ⟨⟨c1, c2, c3, c4, c5, c6, c7, c8⟩, c9⟩ := a1
  refine ⟨⟨⟨⟨by rw [w2 _ (by omega) (by omega)]; exact c1, by rw [w2 _ (by omega) (by omega)]; exact c2, by rw [w1 _ (by omega) (by omega)]; exact c3, by rw [w1 _ (by omega) (by omega)]; exact c4, by rw [w1 _ (by omega) (by omega)]; exact c5, by rw [w1 _ (by omega) (by omega)]; exact c6, by rw [w1 _ (by omega) (by omega)]; exact c7, by rw [w1 _ (by omega) (by omega)]; exact c8⟩, c9⟩,
    ⟨by rw [w2 _ (by omega) (by omega)]; exact a2.1, a2.2.1, by rw [w1 _ (by omega) (by omega)]; exact a2.2.2⟩,
    ⟨by rw [w1 _ (by omega) (by omega)]; exact a3.1, by rw [w1 _ (by omega) (by omega)]; exact a3.2.1, by rw [w1 _ (by omega) (by omega)]; exact a3.2.2.1, by rw [w2 _ (by omega) (by omega)]; exact a3.2.2.2⟩,
    ⟨w3, by rw [hh]; split <;> omega, (p + 1) % 14, Nat.mod_lt _ (by omega), w4, ?_⟩,
    by rw [w1 _ (by omega) (by omega), w1 _ (by omega) (by omega)]; exact a5,
    ⟨by rw [w2 _ (by omega) (by omega)]; exact a6.1, a6.2.1, by rw [w1 387 (by omega) (by omega), w1 388 (by omega) (by omega), w1 389 (by omega) (by omega)]; exact a6.2.2⟩, a7⟩, fun c hc => w1 c (by omega) (by omega), w1 _ (by omega) (by omega)⟩
  intro j hj k hk
  rw [w5]
  have hj14 : j < 14 ∧ j ≤ h := by
    have e : h' ≤ 14 ∧ h' ≤ h + 1 := by rw [hh]; split <;> omega
    omega
  cases j with
  | zero =>
    have e : ((p + 1) % 14 + 13 - 0) % 14 = p := by omega
    rw [e, if_pos (by omega)]
    show r _ = r k
    congr 1
    omega
  | succ j =>
    have e : ((p + 1) % 14 + 13 - (j + 1)) % 14 = (p + 13 - j) % 14 := by omega
    have e2 : (p + 13 - j) % 14 ≠ p := by omega
    rw [e, if_neg (by omega)]
    exact hL j (by omega) k hk
theorem k_note (hS : SM T mr) (hM : PM len txt s r h H fl K o O sd mi ml)
    (hQ : ∀ f, PM len txt s r (if h < 14 then h + 1 else 14) (f_push r H) fl K o O sd f ml → (∀ c, c < 373 → f c = mi c) → f 382 = mi 382 → Q none (f, mr, ml, T)) : z_Ok l G m_Model_note [.ref 373] (mi, mr, ml, T) Q := by
  obtain ⟨a1, a2, a3, ⟨a4, a4b, p, hp, a4c, a4d⟩, a5, a6, a7⟩ := id hM
  refine z_okN cz_149.1 (by rw [cl_149]; exact Nat.le_of_ble_eq_true rfl) cz_149.2 (z_run ck_149 5 bf_149_0 ?_)
  simp (disch := omega) only [e_q0, e_nil, e_cons, e_q, e_qf, e_qt, e_af, z_hd, z_mk1, z_lg, z_s1, z_s2, z_kl, z_en, z_kI, z_fv, z_ic, z_c1, z_sh, z_pop, z_rc, z_tgt, z_tsw, z_lsw, z_nw, z_ac, o_kI, o_kL, o_ldi, o_ldl, o_lda, o_sti, o_sta, o_stl, o_inc, o_b2, o_bz, o_l2, o_lz, o_ls, o_lneg, o_i2l, o_l2i, o_lcmp, o_dup, o_dupx1, o_dup2, o_if, o_if2, o_ifnull, o_get, o_put, o_iald, o_zald, o_aald, o_alen, o_iast, o_zast, o_aast, o_new, o_newa, o_call, o_call1, o_callN, o_obj, o_reti, o_retl, o_ret, o_tsw, o_lsw, va_rf_s, va_rf_n, z_u2_s, z_u2_k, z_u2_f, z_uR_f, z_uL_f, e_ix, e_vp, e_lt, e_le, e_eq, e_lt0, e_eq0, e_b0, e_b1, e_10, e_11, true_or, or_true, false_or, nI_add, z_bi_0, z_bi_1, e_bb, z_uR_s, z_uR_k, z_uL_s, z_uL_k, true_and, and_true, and_self, not_true_eq_false, not_false_eq_true, forall_const, Option.toList, List.cons_append, List.nil_append, List.singleton_append, Nat.reduceAdd, Nat.zero_add, Nat.add_zero, Nat.reduceEqDiff, ↓reduceIte, ite_true, ite_false, reduceCtorEq, Int.cast_ofNat_Int, Int.reduceAdd, Int.reduceToNat, ne_eq, false_imp_iff, true_imp_iff, cl_149, bf_149_0, bf_149_2, bf_149_34, bf_149_66, bf_149_68, bo_149_0, bo_149_2, bo_149_34, bo_149_66, bo_149_68, hS]
  refine z_for (P := fun k f => (∀ c j, f c j = if c = 384 then (if 78 * p ≤ j ∧ j < 78 * p + k then r (j - 78 * p) else mi 384 j) else mi c j) → z_W l G 149 (T.2.1, T.2.2) (fun v M' => Q v M' ∧ M'.2.2.2 = T) 2 [some (.ref 373), some (.int (nI k))] [] (f, mr, ml, T)) 78 (fun f hf => ?_) (fun k hk ih f hf => ?_) 0 (by omega) mi (fun c j => by
    by_cases q : c = 384
    · rw [if_pos q, if_neg (by omega), q]
    · rw [if_neg q])
  · have e3 : f 373 = mi 373 := z_sw hf (by omega)
    refine z_run ck_149 5 bf_149_2 ?_
    simp (disch := omega) only [e_q0, e_nil, e_cons, e_q, e_qf, e_qt, e_af, z_hd, z_mk1, z_lg, z_s1, z_s2, z_kl, z_en, z_kI, z_fv, z_ic, z_c1, z_sh, z_pop, z_rc, z_tgt, z_tsw, z_lsw, z_nw, z_ac, o_kI, o_kL, o_ldi, o_ldl, o_lda, o_sti, o_sta, o_stl, o_inc, o_b2, o_bz, o_l2, o_lz, o_ls, o_lneg, o_i2l, o_l2i, o_lcmp, o_dup, o_dupx1, o_dup2, o_if, o_if2, o_ifnull, o_get, o_put, o_iald, o_zald, o_aald, o_alen, o_iast, o_zast, o_aast, o_new, o_newa, o_call, o_call1, o_callN, o_obj, o_reti, o_retl, o_ret, o_tsw, o_lsw, va_rf_s, va_rf_n, z_u2_s, z_u2_k, z_u2_f, z_uR_f, z_uL_f, e_ix, e_vp, e_lt, e_le, e_eq, e_lt0, e_eq0, e_b0, e_b1, e_10, e_11, true_or, or_true, false_or, nI_add, z_bi_0, z_bi_1, e_bb, z_uR_s, z_uR_k, z_uL_s, z_uL_k, true_and, and_true, and_self, not_true_eq_false, not_false_eq_true, forall_const, Option.toList, List.cons_append, List.nil_append, List.singleton_append, Nat.reduceAdd, Nat.zero_add, Nat.add_zero, Nat.reduceEqDiff, ↓reduceIte, ite_true, ite_false, reduceCtorEq, Int.cast_ofNat_Int, Int.reduceAdd, Int.reduceToNat, ne_eq, false_imp_iff, true_imp_iff, cl_149, bf_149_0, bf_149_2, bf_149_34, bf_149_66, bf_149_68, bo_149_0, bo_149_2, bo_149_34, bo_149_66, bo_149_68, hS, e3, a4, a4c, Nat.le_refl]
    rw [show z_rem (nI (p + 1)) (nI 14) = nI ((p + 1) % 14) from pk_rem (by omega) (by omega) (by omega)]
    refine ⟨fun c => ?_, fun c => ?_⟩
    · obtain ⟨x1, x2, x3⟩ := note_PM (h' := 14) hM hp a4c hf rfl (by rw [if_neg (by omega)]) a4d
      exact hQ _ (by rw [if_neg (by omega)]; exact x1) x2 x3
    · obtain ⟨x1, x2, x3⟩ := note_PM (h' := h + 1) hM hp a4c hf rfl (by rw [if_pos (by omega)]) a4d
      exact hQ _ (by rw [if_pos (by omega)]; exact x1) x2 x3
  · have e3 : f 373 = mi 373 := z_sw hf (by omega)
    have e1 : f 381 = r := by rw [z_sw hf (by omega)]; exact a3.1
    refine z_run ck_149 5 bf_149_2 ?_
    simp (disch := omega) only [e_q0, e_nil, e_cons, e_q, e_qf, e_qt, e_af, z_hd, z_mk1, z_lg, z_s1, z_s2, z_kl, z_en, z_kI, z_fv, z_ic, z_c1, z_sh, z_pop, z_rc, z_tgt, z_tsw, z_lsw, z_nw, z_ac, o_kI, o_kL, o_ldi, o_ldl, o_lda, o_sti, o_sta, o_stl, o_inc, o_b2, o_bz, o_l2, o_lz, o_ls, o_lneg, o_i2l, o_l2i, o_lcmp, o_dup, o_dupx1, o_dup2, o_if, o_if2, o_ifnull, o_get, o_put, o_iald, o_zald, o_aald, o_alen, o_iast, o_zast, o_aast, o_new, o_newa, o_call, o_call1, o_callN, o_obj, o_reti, o_retl, o_ret, o_tsw, o_lsw, va_rf_s, va_rf_n, z_u2_s, z_u2_k, z_u2_f, z_uR_f, z_uL_f, e_ix, e_vp, e_lt, e_le, e_eq, e_lt0, e_eq0, e_b0, e_b1, e_10, e_11, true_or, or_true, false_or, nI_add, z_bi_0, z_bi_1, e_bb, z_uR_s, z_uR_k, z_uL_s, z_uL_k, true_and, and_true, and_self, not_true_eq_false, not_false_eq_true, forall_const, Option.toList, List.cons_append, List.nil_append, List.singleton_append, Nat.reduceAdd, Nat.zero_add, Nat.add_zero, Nat.reduceEqDiff, ↓reduceIte, ite_true, ite_false, reduceCtorEq, Int.cast_ofNat_Int, Int.reduceAdd, Int.reduceToNat, ne_eq, false_imp_iff, true_imp_iff, cl_149, bf_149_0, bf_149_2, bf_149_34, bf_149_66, bf_149_68, bo_149_0, bo_149_2, bo_149_34, bo_149_66, bo_149_68, hS, e3, a4, a4c, e1, pk_mul, Nat.not_le.mpr, hk]
    refine ih _ (z_rw (z_ru hf) fun j => ?_)
    by_cases q : j = 78 * p + k
    · rw [if_pos q, if_pos (by omega), q]
      congr 1
      omega
    · rw [if_neg q]
      by_cases q2 : 78 * p ≤ j ∧ j < 78 * p + k
      · rw [if_pos q2, if_pos (by omega)]
      · rw [if_neg q2, if_neg (by omega)]
end
end
section
/-- what the reference's object holds -/
abbrev ZA : Type := ((Nat × ZW) × ZS × ZW) × (Nat × (Nat → ZW)) × (ZW × (Nat → ZW)) × (Nat × (Nat → ZW)) × Int64
abbrev ZA.len (A : ZA) : Nat := A.1.1.1
abbrev ZA.txt (A : ZA) : ZW := A.1.1.2
abbrev ZA.s (A : ZA) : ZS := A.1.2.1
abbrev ZA.r (A : ZA) : ZW := A.1.2.2
abbrev ZA.h (A : ZA) : Nat := A.2.1.1
abbrev ZA.H (A : ZA) : Nat → ZW := A.2.1.2
abbrev ZA.fl (A : ZA) : ZW := A.2.2.1.1
abbrev ZA.K (A : ZA) : Nat → ZW := A.2.2.1.2
abbrev ZA.o (A : ZA) : Nat := A.2.2.2.1.1
abbrev ZA.O (A : ZA) : Nat → ZW := A.2.2.2.1.2
abbrev ZA.sd (A : ZA) : Int64 := A.2.2.2.2
abbrev PA (A : ZA) (mi : Nat → Nat → Int32) (ml : Nat → Nat → Int64) : Prop := PM A.len A.txt A.s A.r A.h A.H A.fl A.K A.o A.O A.sd mi ml
abbrev WA (A : ZA) : Prop := WM A.s A.r A.h A.H A.fl A.K
def f_in (x : Int32) (a b : Nat) : Bool := decide (nI a ≤ x) && decide (x ≤ nI b)
theorem f_in_t {x : Int32} {a b : Nat} (ha : a < 1000) (hn : b < 1000) (h : f_in x a b = true) : ∃ j, a ≤ j ∧ j ≤ b ∧ x = nI j := by
  simp only [f_in, Bool.and_eq_true, decide_eq_true_eq] at h
  have h1 := Int32.le_iff_toInt_le.mp h.1
  have h2 := Int32.le_iff_toInt_le.mp h.2
  rw [nI_toInt (by omega)] at h1 h2
  refine ⟨x.toInt.toNat, by omega, by omega, Int32.toInt_inj.mp ?_⟩
  rw [nI_toInt (by omega)]
  omega
theorem f_gate_t {s : ZS} {x : Int32} (hs : s.1.1 < 1000) (h : f_gate s x = true) : ∃ j, j < s.1.1 ∧ x = nI j ∧ s.2 0 j = 0 := by
  simp only [f_gate, Bool.and_eq_true, decide_eq_true_eq] at h
  obtain ⟨j, hj, rfl⟩ := f_idx_t hs h.1
  rw [e_ix (by omega)] at h
  exact ⟨j, hj, rfl, h.2⟩
def f_set (r : ZW) (k : Nat) (v : Int32) : ZW := fun j => if j = k then v else r j
def a_note (A : ZA) : ZA := (A.1, (if A.h < 14 then A.h + 1 else 14, f_push A.r A.H), A.2.2)
def a_row (A : ZA) (r : ZW) : ZA := ((A.1.1, A.s, r), A.2)
def a_round (A : ZA) (x : Int32) : Int32 × ZA := if f_in x 1 99 then (f_ones (f_reached A.s (nI 255) (f_gos A.s (nI 255) (z_ix x) A.r) A.s.1.1) 9, a_row (a_note A) (f_gos A.s (nI 255) (z_ix x) A.r)) else (z_ng 2, A)
def a_turn (A : ZA) (x : Int32) : Int32 × ZA := if f_idx x A.s.1.2 then (nI 1 - A.r (58 + z_ix x), a_row (a_note A) (f_set A.r (58 + z_ix x) (nI 1 - A.r (58 + z_ix x)))) else (z_ng 1, A)
def f_lose (r : ZW) (b : Int32) (k : Nat) (v : Int32) : ZW := f_set r ((if b = 0 then 40 else 49) + k) v
def a_lose (A : ZA) (x b v : Int32) : Int32 × ZA := if f_idx x A.s.1.2 then (if f_in v 0 9 then (f_air A.s (f_lose A.r b (z_ix x) v) (z_ix x), a_row (a_note A) (f_lose A.r b (z_ix x) v)) else (z_ng 2, A)) else (z_ng 1, A)
def a_offset (A : ZA) (x v : Int32) : Int32 × ZA := if f_gate A.s x then (if f_in v 0 9 then (A.r (67 + z_ix x), a_row (a_note A) (f_set A.r (67 + z_ix x) v)) else (z_ng 2, A)) else (z_ng 1, A)
def a_margin (A : ZA) (v : Int32) : Int32 × ZA := if f_in v 0 9 then (A.r 75, a_row (a_note A) (f_set A.r 75 v)) else (z_ng 2, A)
def a_undo (A : ZA) : Int32 × ZA := if A.h = 0 then (z_ng 3, A) else (nI (A.h - 1), ((A.1.1, A.s, A.H 0), (A.h - 1, fun j => A.H (j + 1)), A.2.2))
def f_about (A : ZA) (x : Int32) : Int32 :=
  if x = nI 0 then nI A.s.1.1
  else if x = nI 1 then nI A.s.1.2
  else if x = nI 2 then f_those A.s (nI 0) A.s.1.1
  else if x = nI 3 then f_those A.s (nI 2) A.s.1.1
  else if x = nI 4 then A.r 75
  else if x = nI 5 then A.r 76
  else if x = nI 6 then A.r 77
  else if x = nI 7 then f_reached A.s (nI 255) A.r A.s.1.1
  else if x = nI 8 then f_downs A.r A.s.1.2
  else if x = nI 9 then nI A.h
  else if x = nI 10 then nI A.o
  else if x = nI 11 then nI A.len
  else z_ng 2
theorem f_about_out {A : ZA} {x : Int32} (h : x < nI 0 ∨ nI 11 < x) : f_about A x = z_ng 2 := by
  have e : ∀ k, k ≤ 11 → ¬ x = nI k := fun k hk => h.elim (f_lts (by omega)) (f_gts (by omega) hk)
  unfold f_about
  simp only [e 0 (by omega), e 1 (by omega), e 2 (by omega), e 3 (by omega), e 4 (by omega), e 5 (by omega), e 6 (by omega), e 7 (by omega), e 8 (by omega), e 9 (by omega), e 10 (by omega), e 11 (by omega), if_false, ite_false, ↓reduceIte]
section
variable {l : Launch} {G : ZG} {mi : Nat → Nat → Int32} {mr : Nat → Nat → Option Nat} {ml : Nat → Nat → Int64} {T : (Nat → Nat × Nat) × Nat × Nat} {Q : ZR} {A : ZA}
theorem SM.now (hS : SM T mr) : T.1 381 = (2, 78) := by rw [hS.1.2.2.2.2.2.2.2.2.1]
theorem PA.row {f : Nat → Nat → Int32} {r' : ZW} (hM : PA A mi ml) (h : ∀ c j, f c j = if c = 381 then r' j else mi c j) : PA (a_row A r') f ml :=
  PM.cong hM (by simp [z_sw h]) (fun c _ _ c1 _ _ => z_sw h c1) (z_sr h) (by rw [z_sw h (by omega)]; exact hM.2.2.1.2.1) (by rw [z_sw h (by omega)]; exact hM.2.2.1.2.2.1)
theorem PA.set {k : Nat} {v : Int32} (hM : PA A mi ml) : PA (a_row A (f_set A.r k v)) (z_u2 mi 381 k v) ml :=
  PA.row hM (z_rw (z_ru z_ru0) fun j => by rw [hM.2.2.1.1]; rfl)
theorem k_inI {x : Int32} {a b : Nat} (ha : a < 1000) (hb : b < 1000) (h : Q (some (.int (z_bi (f_in x a b)))) (mi, mr, ml, T)) : z_Ok l G m_Model_in [.long x.toInt64, .long (lN a), .long (lN b)] (mi, mr, ml, T) Q := by
  rw [e_lNI (by omega), e_lNI (by omega)]
  refine k_in ?_
  simp only [e_wide]
  exact h
theorem k_note' (hS : SM T mr) (hM : PA A mi ml) (hQ : ∀ f, PA (a_note A) f ml → (∀ c, c < 373 → f c = mi c) → Q none (f, mr, ml, T)) : z_Ok l G m_Model_note [.ref 373] (mi, mr, ml, T) Q :=
  k_note hS hM fun f h1 h2 _ => hQ f h1 h2
theorem k_about {x : Int32} (hS : SM T mr) (hM : PA A mi ml) (hW : WA A) (h : Q (some (.int (f_about A x))) (mi, mr, ml, T)) : z_Ok l G m_Model_about [.ref 373, .int x] (mi, mr, ml, T) Q := by
  have hs := hM.1
  have hw := hS.now
  obtain ⟨a1, a2, a3, a4, a5, a6, a7⟩ := id hM
  refine z_okN cz_142.1 (by rw [cl_142]; exact Nat.le_of_ble_eq_true rfl) cz_142.2 (z_run ck_142 15 bf_142_0 ?_)
  simp (disch := omega) only [e_q0, e_nil, e_cons, e_q, e_qf, e_qt, e_af, z_hd, z_mk1, z_lg, z_s1, z_s2, z_kl, z_en, z_kI, z_fv, z_ic, z_c1, z_sh, z_pop, z_rc, z_tgt, z_tsw, z_lsw, z_nw, z_ac, o_kI, o_kL, o_ldi, o_ldl, o_lda, o_sti, o_sta, o_stl, o_inc, o_b2, o_bz, o_l2, o_lz, o_ls, o_lneg, o_i2l, o_l2i, o_lcmp, o_dup, o_dupx1, o_dup2, o_if, o_if2, o_ifnull, o_get, o_put, o_iald, o_zald, o_aald, o_alen, o_iast, o_zast, o_aast, o_new, o_newa, o_call, o_call1, o_callN, o_obj, o_reti, o_retl, o_ret, o_tsw, o_lsw, va_rf_s, va_rf_n, z_u2_s, z_u2_k, z_u2_f, z_uR_f, z_uL_f, e_ix, e_vp, e_lt, e_le, e_eq, e_lt0, e_eq0, e_b0, e_b1, e_10, e_11, true_or, or_true, false_or, nI_add, z_bi_0, z_bi_1, e_bb, z_uR_s, z_uR_k, z_uL_s, z_uL_k, true_and, and_true, and_self, not_true_eq_false, not_false_eq_true, forall_const, Option.toList, List.cons_append, List.nil_append, List.singleton_append, Nat.reduceAdd, Nat.zero_add, Nat.add_zero, Nat.reduceEqDiff, ↓reduceIte, ite_true, ite_false, reduceCtorEq, Int.cast_ofNat_Int, Int.reduceAdd, Int.reduceToNat, ne_eq, false_imp_iff, true_imp_iff, cl_142, bf_142_0, bf_142_64, bf_142_69, bf_142_74, bf_142_80, bf_142_86, bf_142_94, bf_142_102, bf_142_110, bf_142_119, bf_142_124, bf_142_129, bf_142_134, bf_142_139, bo_142_0, bo_142_64, bo_142_69, bo_142_74, bo_142_80, bo_142_86, bo_142_94, bo_142_102, bo_142_110, bo_142_119, bo_142_124, bo_142_129, bo_142_134, bo_142_139, hS, hs, hw, a2.1, a4.1, a6.1, a3.1]
  refine ⟨fun c => ?_, fun c => ?_, ?_, ?_, ?_, ?_, ?_, ?_, ?_, ?_, ?_, ?_, ?_, ?_⟩
  · rw [f_about_out (Or.inl c)] at h; exact h
  · rw [f_about_out (Or.inr c)] at h; exact h
  all_goals (rintro rfl; simp (disch := omega) only [f_about, e_eq, Nat.reduceEqDiff, ↓reduceIte] at h)
  · exact h
  · exact h
  · refine k_those hS hs ?_
    simp (disch := omega) only [e_q0, e_nil, e_cons, e_q, e_qf, e_qt, e_af, z_hd, z_mk1, z_lg, z_s1, z_s2, z_kl, z_en, z_kI, z_fv, z_ic, z_c1, z_sh, z_pop, z_rc, z_tgt, z_tsw, z_lsw, z_nw, z_ac, o_kI, o_kL, o_ldi, o_ldl, o_lda, o_sti, o_sta, o_stl, o_inc, o_b2, o_bz, o_l2, o_lz, o_ls, o_lneg, o_i2l, o_l2i, o_lcmp, o_dup, o_dupx1, o_dup2, o_if, o_if2, o_ifnull, o_get, o_put, o_iald, o_zald, o_aald, o_alen, o_iast, o_zast, o_aast, o_new, o_newa, o_call, o_call1, o_callN, o_obj, o_reti, o_retl, o_ret, o_tsw, o_lsw, va_rf_s, va_rf_n, z_u2_s, z_u2_k, z_u2_f, z_uR_f, z_uL_f, e_ix, e_vp, e_lt, e_le, e_eq, e_lt0, e_eq0, e_b0, e_b1, e_10, e_11, true_or, or_true, false_or, nI_add, z_bi_0, z_bi_1, e_bb, z_uR_s, z_uR_k, z_uL_s, z_uL_k, true_and, and_true, and_self, not_true_eq_false, not_false_eq_true, forall_const, Option.toList, List.cons_append, List.nil_append, List.singleton_append, Nat.reduceAdd, Nat.zero_add, Nat.add_zero, Nat.reduceEqDiff, ↓reduceIte, ite_true, ite_false, reduceCtorEq, Int.cast_ofNat_Int, Int.reduceAdd, Int.reduceToNat, ne_eq, false_imp_iff, true_imp_iff, cl_142, bf_142_0, bf_142_64, bf_142_69, bf_142_74, bf_142_80, bf_142_86, bf_142_94, bf_142_102, bf_142_110, bf_142_119, bf_142_124, bf_142_129, bf_142_134, bf_142_139, bo_142_0, bo_142_64, bo_142_69, bo_142_74, bo_142_80, bo_142_86, bo_142_94, bo_142_102, bo_142_110, bo_142_119, bo_142_124, bo_142_129, bo_142_134, bo_142_139, hS, hs, hw]
    exact h
  · refine k_those hS hs ?_
    simp (disch := omega) only [e_q0, e_nil, e_cons, e_q, e_qf, e_qt, e_af, z_hd, z_mk1, z_lg, z_s1, z_s2, z_kl, z_en, z_kI, z_fv, z_ic, z_c1, z_sh, z_pop, z_rc, z_tgt, z_tsw, z_lsw, z_nw, z_ac, o_kI, o_kL, o_ldi, o_ldl, o_lda, o_sti, o_sta, o_stl, o_inc, o_b2, o_bz, o_l2, o_lz, o_ls, o_lneg, o_i2l, o_l2i, o_lcmp, o_dup, o_dupx1, o_dup2, o_if, o_if2, o_ifnull, o_get, o_put, o_iald, o_zald, o_aald, o_alen, o_iast, o_zast, o_aast, o_new, o_newa, o_call, o_call1, o_callN, o_obj, o_reti, o_retl, o_ret, o_tsw, o_lsw, va_rf_s, va_rf_n, z_u2_s, z_u2_k, z_u2_f, z_uR_f, z_uL_f, e_ix, e_vp, e_lt, e_le, e_eq, e_lt0, e_eq0, e_b0, e_b1, e_10, e_11, true_or, or_true, false_or, nI_add, z_bi_0, z_bi_1, e_bb, z_uR_s, z_uR_k, z_uL_s, z_uL_k, true_and, and_true, and_self, not_true_eq_false, not_false_eq_true, forall_const, Option.toList, List.cons_append, List.nil_append, List.singleton_append, Nat.reduceAdd, Nat.zero_add, Nat.add_zero, Nat.reduceEqDiff, ↓reduceIte, ite_true, ite_false, reduceCtorEq, Int.cast_ofNat_Int, Int.reduceAdd, Int.reduceToNat, ne_eq, false_imp_iff, true_imp_iff, cl_142, bf_142_0, bf_142_64, bf_142_69, bf_142_74, bf_142_80, bf_142_86, bf_142_94, bf_142_102, bf_142_110, bf_142_119, bf_142_124, bf_142_129, bf_142_134, bf_142_139, bo_142_0, bo_142_64, bo_142_69, bo_142_74, bo_142_80, bo_142_86, bo_142_94, bo_142_102, bo_142_110, bo_142_119, bo_142_124, bo_142_129, bo_142_134, bo_142_139, hS, hs, hw]
    exact h
  · exact h
  · exact h
  · exact h
  · refine k_reached hS hs hw (by rw [a3.1]; exact hW.2.1.2.1) ?_
    simp (disch := omega) only [e_q0, e_nil, e_cons, e_q, e_qf, e_qt, e_af, z_hd, z_mk1, z_lg, z_s1, z_s2, z_kl, z_en, z_kI, z_fv, z_ic, z_c1, z_sh, z_pop, z_rc, z_tgt, z_tsw, z_lsw, z_nw, z_ac, o_kI, o_kL, o_ldi, o_ldl, o_lda, o_sti, o_sta, o_stl, o_inc, o_b2, o_bz, o_l2, o_lz, o_ls, o_lneg, o_i2l, o_l2i, o_lcmp, o_dup, o_dupx1, o_dup2, o_if, o_if2, o_ifnull, o_get, o_put, o_iald, o_zald, o_aald, o_alen, o_iast, o_zast, o_aast, o_new, o_newa, o_call, o_call1, o_callN, o_obj, o_reti, o_retl, o_ret, o_tsw, o_lsw, va_rf_s, va_rf_n, z_u2_s, z_u2_k, z_u2_f, z_uR_f, z_uL_f, e_ix, e_vp, e_lt, e_le, e_eq, e_lt0, e_eq0, e_b0, e_b1, e_10, e_11, true_or, or_true, false_or, nI_add, z_bi_0, z_bi_1, e_bb, z_uR_s, z_uR_k, z_uL_s, z_uL_k, true_and, and_true, and_self, not_true_eq_false, not_false_eq_true, forall_const, Option.toList, List.cons_append, List.nil_append, List.singleton_append, Nat.reduceAdd, Nat.zero_add, Nat.add_zero, Nat.reduceEqDiff, ↓reduceIte, ite_true, ite_false, reduceCtorEq, Int.cast_ofNat_Int, Int.reduceAdd, Int.reduceToNat, ne_eq, false_imp_iff, true_imp_iff, cl_142, bf_142_0, bf_142_64, bf_142_69, bf_142_74, bf_142_80, bf_142_86, bf_142_94, bf_142_102, bf_142_110, bf_142_119, bf_142_124, bf_142_129, bf_142_134, bf_142_139, bo_142_0, bo_142_64, bo_142_69, bo_142_74, bo_142_80, bo_142_86, bo_142_94, bo_142_102, bo_142_110, bo_142_119, bo_142_124, bo_142_129, bo_142_134, bo_142_139, hS, hs, hw, a3.1, a3.2.2.2]
    exact h
  · refine k_downs hS hs ?_
    simp (disch := omega) only [e_q0, e_nil, e_cons, e_q, e_qf, e_qt, e_af, z_hd, z_mk1, z_lg, z_s1, z_s2, z_kl, z_en, z_kI, z_fv, z_ic, z_c1, z_sh, z_pop, z_rc, z_tgt, z_tsw, z_lsw, z_nw, z_ac, o_kI, o_kL, o_ldi, o_ldl, o_lda, o_sti, o_sta, o_stl, o_inc, o_b2, o_bz, o_l2, o_lz, o_ls, o_lneg, o_i2l, o_l2i, o_lcmp, o_dup, o_dupx1, o_dup2, o_if, o_if2, o_ifnull, o_get, o_put, o_iald, o_zald, o_aald, o_alen, o_iast, o_zast, o_aast, o_new, o_newa, o_call, o_call1, o_callN, o_obj, o_reti, o_retl, o_ret, o_tsw, o_lsw, va_rf_s, va_rf_n, z_u2_s, z_u2_k, z_u2_f, z_uR_f, z_uL_f, e_ix, e_vp, e_lt, e_le, e_eq, e_lt0, e_eq0, e_b0, e_b1, e_10, e_11, true_or, or_true, false_or, nI_add, z_bi_0, z_bi_1, e_bb, z_uR_s, z_uR_k, z_uL_s, z_uL_k, true_and, and_true, and_self, not_true_eq_false, not_false_eq_true, forall_const, Option.toList, List.cons_append, List.nil_append, List.singleton_append, Nat.reduceAdd, Nat.zero_add, Nat.add_zero, Nat.reduceEqDiff, ↓reduceIte, ite_true, ite_false, reduceCtorEq, Int.cast_ofNat_Int, Int.reduceAdd, Int.reduceToNat, ne_eq, false_imp_iff, true_imp_iff, cl_142, bf_142_0, bf_142_64, bf_142_69, bf_142_74, bf_142_80, bf_142_86, bf_142_94, bf_142_102, bf_142_110, bf_142_119, bf_142_124, bf_142_129, bf_142_134, bf_142_139, bo_142_0, bo_142_64, bo_142_69, bo_142_74, bo_142_80, bo_142_86, bo_142_94, bo_142_102, bo_142_110, bo_142_119, bo_142_124, bo_142_129, bo_142_134, bo_142_139, hS, hs, hw, a3.1]
    exact h
  · exact h
  · exact h
  · exact h
theorem k_round {x : Int32} (hS : SM T mr) (hM : PA A mi ml) (hW : WA A) (hQ : ∀ f, PA (a_round A x).2 f ml → (∀ c, c < 373 → f c = mi c) → Q (some (.int (a_round A x).1)) (f, mr, ml, T)) : z_Ok l G m_Model_round [.ref 373, .int x] (mi, mr, ml, T) Q := by
  have hs := hM.1
  have hw := hS.now
  have h8 := hs.2
  unfold a_round at hQ
  refine z_okN cz_150.1 (by rw [cl_150]; exact Nat.le_of_ble_eq_true rfl) cz_150.2 (z_run ck_150 4 bf_150_0 ?_)
  simp (disch := omega) only [e_q0, e_nil, e_cons, e_q, e_qf, e_qt, e_af, z_hd, z_mk1, z_lg, z_s1, z_s2, z_kl, z_en, z_kI, z_fv, z_ic, z_c1, z_sh, z_pop, z_rc, z_tgt, z_tsw, z_lsw, z_nw, z_ac, o_kI, o_kL, o_ldi, o_ldl, o_lda, o_sti, o_sta, o_stl, o_inc, o_b2, o_bz, o_l2, o_lz, o_ls, o_lneg, o_i2l, o_l2i, o_lcmp, o_dup, o_dupx1, o_dup2, o_if, o_if2, o_ifnull, o_get, o_put, o_iald, o_zald, o_aald, o_alen, o_iast, o_zast, o_aast, o_new, o_newa, o_call, o_call1, o_callN, o_obj, o_reti, o_retl, o_ret, o_tsw, o_lsw, va_rf_s, va_rf_n, z_u2_s, z_u2_k, z_u2_f, z_uR_f, z_uL_f, e_ix, e_vp, e_lt, e_le, e_eq, e_lt0, e_eq0, e_b0, e_b1, e_10, e_11, true_or, or_true, false_or, nI_add, z_bi_0, z_bi_1, e_bb, z_uR_s, z_uR_k, z_uL_s, z_uL_k, true_and, and_true, and_self, not_true_eq_false, not_false_eq_true, forall_const, Option.toList, List.cons_append, List.nil_append, List.singleton_append, Nat.reduceAdd, Nat.zero_add, Nat.add_zero, Nat.reduceEqDiff, ↓reduceIte, ite_true, ite_false, reduceCtorEq, Int.cast_ofNat_Int, Int.reduceAdd, Int.reduceToNat, ne_eq, false_imp_iff, true_imp_iff, cl_150, bf_150_0, bf_150_15, bf_150_21, bf_150_40, bo_150_0, bo_150_15, bo_150_21, bo_150_40, hS, hs, hw]
  refine k_inI (by omega) (by omega) ?_
  simp (disch := omega) only [e_q0, e_nil, e_cons, e_q, e_qf, e_qt, e_af, z_hd, z_mk1, z_lg, z_s1, z_s2, z_kl, z_en, z_kI, z_fv, z_ic, z_c1, z_sh, z_pop, z_rc, z_tgt, z_tsw, z_lsw, z_nw, z_ac, o_kI, o_kL, o_ldi, o_ldl, o_lda, o_sti, o_sta, o_stl, o_inc, o_b2, o_bz, o_l2, o_lz, o_ls, o_lneg, o_i2l, o_l2i, o_lcmp, o_dup, o_dupx1, o_dup2, o_if, o_if2, o_ifnull, o_get, o_put, o_iald, o_zald, o_aald, o_alen, o_iast, o_zast, o_aast, o_new, o_newa, o_call, o_call1, o_callN, o_obj, o_reti, o_retl, o_ret, o_tsw, o_lsw, va_rf_s, va_rf_n, z_u2_s, z_u2_k, z_u2_f, z_uR_f, z_uL_f, e_ix, e_vp, e_lt, e_le, e_eq, e_lt0, e_eq0, e_b0, e_b1, e_10, e_11, true_or, or_true, false_or, nI_add, z_bi_0, z_bi_1, e_bb, z_uR_s, z_uR_k, z_uL_s, z_uL_k, true_and, and_true, and_self, not_true_eq_false, not_false_eq_true, forall_const, Option.toList, List.cons_append, List.nil_append, List.singleton_append, Nat.reduceAdd, Nat.zero_add, Nat.add_zero, Nat.reduceEqDiff, ↓reduceIte, ite_true, ite_false, reduceCtorEq, Int.cast_ofNat_Int, Int.reduceAdd, Int.reduceToNat, ne_eq, false_imp_iff, true_imp_iff, cl_150, bf_150_0, bf_150_15, bf_150_21, bf_150_40, bo_150_0, bo_150_15, bo_150_21, bo_150_40, hS, hs, hw]
  refine ⟨fun c => ?_, fun c => ?_⟩
  · rw [c] at hQ
    exact hQ _ hM fun _ _ => rfl
  rw [Bool.not_eq_false] at c
  rw [c] at hQ
  obtain ⟨n, hn, hn2, rfl⟩ := f_in_t (by omega) (by omega) c
  rw [e_ix (by omega)] at hQ
  refine k_note' hS hM fun g hg hgf => ?_
  simp (disch := omega) only [e_q0, e_nil, e_cons, e_q, e_qf, e_qt, e_af, z_hd, z_mk1, z_lg, z_s1, z_s2, z_kl, z_en, z_kI, z_fv, z_ic, z_c1, z_sh, z_pop, z_rc, z_tgt, z_tsw, z_lsw, z_nw, z_ac, o_kI, o_kL, o_ldi, o_ldl, o_lda, o_sti, o_sta, o_stl, o_inc, o_b2, o_bz, o_l2, o_lz, o_ls, o_lneg, o_i2l, o_l2i, o_lcmp, o_dup, o_dupx1, o_dup2, o_if, o_if2, o_ifnull, o_get, o_put, o_iald, o_zald, o_aald, o_alen, o_iast, o_zast, o_aast, o_new, o_newa, o_call, o_call1, o_callN, o_obj, o_reti, o_retl, o_ret, o_tsw, o_lsw, va_rf_s, va_rf_n, z_u2_s, z_u2_k, z_u2_f, z_uR_f, z_uL_f, e_ix, e_vp, e_lt, e_le, e_eq, e_lt0, e_eq0, e_b0, e_b1, e_10, e_11, true_or, or_true, false_or, nI_add, z_bi_0, z_bi_1, e_bb, z_uR_s, z_uR_k, z_uL_s, z_uL_k, true_and, and_true, and_self, not_true_eq_false, not_false_eq_true, forall_const, Option.toList, List.cons_append, List.nil_append, List.singleton_append, Nat.reduceAdd, Nat.zero_add, Nat.add_zero, Nat.reduceEqDiff, ↓reduceIte, ite_true, ite_false, reduceCtorEq, Int.cast_ofNat_Int, Int.reduceAdd, Int.reduceToNat, ne_eq, false_imp_iff, true_imp_iff, cl_150, bf_150_0, bf_150_15, bf_150_21, bf_150_40, bo_150_0, bo_150_15, bo_150_21, bo_150_40, hS, hs, hw]
  refine z_for (P := fun k f => (PA (a_row (a_note A) (f_gos A.s (nI 255) k A.r)) f ml ∧ ∀ c, c < 373 → f c = mi c) → z_W l G 150 (T.2.1, T.2.2) (fun v M' => Q v M' ∧ M'.2.2.2 = T) 21 [some (.ref 373), some (.int (nI n)), some (.int (nI k))] [] (f, mr, ml, T)) n (fun f hf => ?_) (fun k hk ih f hf => ?_) 0 (by omega) g ⟨hg, hgf⟩
  · refine z_run ck_150 4 bf_150_21 ?_
    simp (disch := omega) only [e_q0, e_nil, e_cons, e_q, e_qf, e_qt, e_af, z_hd, z_mk1, z_lg, z_s1, z_s2, z_kl, z_en, z_kI, z_fv, z_ic, z_c1, z_sh, z_pop, z_rc, z_tgt, z_tsw, z_lsw, z_nw, z_ac, o_kI, o_kL, o_ldi, o_ldl, o_lda, o_sti, o_sta, o_stl, o_inc, o_b2, o_bz, o_l2, o_lz, o_ls, o_lneg, o_i2l, o_l2i, o_lcmp, o_dup, o_dupx1, o_dup2, o_if, o_if2, o_ifnull, o_get, o_put, o_iald, o_zald, o_aald, o_alen, o_iast, o_zast, o_aast, o_new, o_newa, o_call, o_call1, o_callN, o_obj, o_reti, o_retl, o_ret, o_tsw, o_lsw, va_rf_s, va_rf_n, z_u2_s, z_u2_k, z_u2_f, z_uR_f, z_uL_f, e_ix, e_vp, e_lt, e_le, e_eq, e_lt0, e_eq0, e_b0, e_b1, e_10, e_11, true_or, or_true, false_or, nI_add, z_bi_0, z_bi_1, e_bb, z_uR_s, z_uR_k, z_uL_s, z_uL_k, true_and, and_true, and_self, not_true_eq_false, not_false_eq_true, forall_const, Option.toList, List.cons_append, List.nil_append, List.singleton_append, Nat.reduceAdd, Nat.zero_add, Nat.add_zero, Nat.reduceEqDiff, ↓reduceIte, ite_true, ite_false, reduceCtorEq, Int.cast_ofNat_Int, Int.reduceAdd, Int.reduceToNat, ne_eq, false_imp_iff, true_imp_iff, cl_150, bf_150_0, bf_150_15, bf_150_21, bf_150_40, bo_150_0, bo_150_15, bo_150_21, bo_150_40, hS, hf.1.1, Nat.le_refl]
    refine k_reached hS hf.1.1 hw (by rw [hf.1.2.2.1.1]; exact (f_gos_rok h8 _ _ hW.2.1).2.1) ?_
    simp (disch := omega) only [e_q0, e_nil, e_cons, e_q, e_qf, e_qt, e_af, z_hd, z_mk1, z_lg, z_s1, z_s2, z_kl, z_en, z_kI, z_fv, z_ic, z_c1, z_sh, z_pop, z_rc, z_tgt, z_tsw, z_lsw, z_nw, z_ac, o_kI, o_kL, o_ldi, o_ldl, o_lda, o_sti, o_sta, o_stl, o_inc, o_b2, o_bz, o_l2, o_lz, o_ls, o_lneg, o_i2l, o_l2i, o_lcmp, o_dup, o_dupx1, o_dup2, o_if, o_if2, o_ifnull, o_get, o_put, o_iald, o_zald, o_aald, o_alen, o_iast, o_zast, o_aast, o_new, o_newa, o_call, o_call1, o_callN, o_obj, o_reti, o_retl, o_ret, o_tsw, o_lsw, va_rf_s, va_rf_n, z_u2_s, z_u2_k, z_u2_f, z_uR_f, z_uL_f, e_ix, e_vp, e_lt, e_le, e_eq, e_lt0, e_eq0, e_b0, e_b1, e_10, e_11, true_or, or_true, false_or, nI_add, z_bi_0, z_bi_1, e_bb, z_uR_s, z_uR_k, z_uL_s, z_uL_k, true_and, and_true, and_self, not_true_eq_false, not_false_eq_true, forall_const, Option.toList, List.cons_append, List.nil_append, List.singleton_append, Nat.reduceAdd, Nat.zero_add, Nat.add_zero, Nat.reduceEqDiff, ↓reduceIte, ite_true, ite_false, reduceCtorEq, Int.cast_ofNat_Int, Int.reduceAdd, Int.reduceToNat, ne_eq, false_imp_iff, true_imp_iff, cl_150, bf_150_0, bf_150_15, bf_150_21, bf_150_40, bo_150_0, bo_150_15, bo_150_21, bo_150_40, hS]
    refine k_ones ?_
    simp (disch := omega) only [e_q0, e_nil, e_cons, e_q, e_qf, e_qt, e_af, z_hd, z_mk1, z_lg, z_s1, z_s2, z_kl, z_en, z_kI, z_fv, z_ic, z_c1, z_sh, z_pop, z_rc, z_tgt, z_tsw, z_lsw, z_nw, z_ac, o_kI, o_kL, o_ldi, o_ldl, o_lda, o_sti, o_sta, o_stl, o_inc, o_b2, o_bz, o_l2, o_lz, o_ls, o_lneg, o_i2l, o_l2i, o_lcmp, o_dup, o_dupx1, o_dup2, o_if, o_if2, o_ifnull, o_get, o_put, o_iald, o_zald, o_aald, o_alen, o_iast, o_zast, o_aast, o_new, o_newa, o_call, o_call1, o_callN, o_obj, o_reti, o_retl, o_ret, o_tsw, o_lsw, va_rf_s, va_rf_n, z_u2_s, z_u2_k, z_u2_f, z_uR_f, z_uL_f, e_ix, e_vp, e_lt, e_le, e_eq, e_lt0, e_eq0, e_b0, e_b1, e_10, e_11, true_or, or_true, false_or, nI_add, z_bi_0, z_bi_1, e_bb, z_uR_s, z_uR_k, z_uL_s, z_uL_k, true_and, and_true, and_self, not_true_eq_false, not_false_eq_true, forall_const, Option.toList, List.cons_append, List.nil_append, List.singleton_append, Nat.reduceAdd, Nat.zero_add, Nat.add_zero, Nat.reduceEqDiff, ↓reduceIte, ite_true, ite_false, reduceCtorEq, Int.cast_ofNat_Int, Int.reduceAdd, Int.reduceToNat, ne_eq, false_imp_iff, true_imp_iff, cl_150, bf_150_0, bf_150_15, bf_150_21, bf_150_40, bo_150_0, bo_150_15, bo_150_21, bo_150_40, hS, hf.1.2.2.1.1, hf.1.2.2.1.2.2.2]
    exact hQ f hf.1 hf.2
  · refine z_run ck_150 4 bf_150_21 ?_
    simp (disch := omega) only [e_q0, e_nil, e_cons, e_q, e_qf, e_qt, e_af, z_hd, z_mk1, z_lg, z_s1, z_s2, z_kl, z_en, z_kI, z_fv, z_ic, z_c1, z_sh, z_pop, z_rc, z_tgt, z_tsw, z_lsw, z_nw, z_ac, o_kI, o_kL, o_ldi, o_ldl, o_lda, o_sti, o_sta, o_stl, o_inc, o_b2, o_bz, o_l2, o_lz, o_ls, o_lneg, o_i2l, o_l2i, o_lcmp, o_dup, o_dupx1, o_dup2, o_if, o_if2, o_ifnull, o_get, o_put, o_iald, o_zald, o_aald, o_alen, o_iast, o_zast, o_aast, o_new, o_newa, o_call, o_call1, o_callN, o_obj, o_reti, o_retl, o_ret, o_tsw, o_lsw, va_rf_s, va_rf_n, z_u2_s, z_u2_k, z_u2_f, z_uR_f, z_uL_f, e_ix, e_vp, e_lt, e_le, e_eq, e_lt0, e_eq0, e_b0, e_b1, e_10, e_11, true_or, or_true, false_or, nI_add, z_bi_0, z_bi_1, e_bb, z_uR_s, z_uR_k, z_uL_s, z_uL_k, true_and, and_true, and_self, not_true_eq_false, not_false_eq_true, forall_const, Option.toList, List.cons_append, List.nil_append, List.singleton_append, Nat.reduceAdd, Nat.zero_add, Nat.add_zero, Nat.reduceEqDiff, ↓reduceIte, ite_true, ite_false, reduceCtorEq, Int.cast_ofNat_Int, Int.reduceAdd, Int.reduceToNat, ne_eq, false_imp_iff, true_imp_iff, cl_150, bf_150_0, bf_150_15, bf_150_21, bf_150_40, bo_150_0, bo_150_15, bo_150_21, bo_150_40, hS, hf.1.1, Nat.not_le.mpr, hk]
    refine k_goOn (w := 381) hS hf.1.1 hw (Or.inl rfl) (by rw [hf.1.2.2.1.1]; exact f_gos_rok h8 _ _ hW.2.1) hf.1.2.2.1.2.2.1 hW.1 fun f' hf' => ?_
    simp (disch := omega) only [e_q0, e_nil, e_cons, e_q, e_qf, e_qt, e_af, z_hd, z_mk1, z_lg, z_s1, z_s2, z_kl, z_en, z_kI, z_fv, z_ic, z_c1, z_sh, z_pop, z_rc, z_tgt, z_tsw, z_lsw, z_nw, z_ac, o_kI, o_kL, o_ldi, o_ldl, o_lda, o_sti, o_sta, o_stl, o_inc, o_b2, o_bz, o_l2, o_lz, o_ls, o_lneg, o_i2l, o_l2i, o_lcmp, o_dup, o_dupx1, o_dup2, o_if, o_if2, o_ifnull, o_get, o_put, o_iald, o_zald, o_aald, o_alen, o_iast, o_zast, o_aast, o_new, o_newa, o_call, o_call1, o_callN, o_obj, o_reti, o_retl, o_ret, o_tsw, o_lsw, va_rf_s, va_rf_n, z_u2_s, z_u2_k, z_u2_f, z_uR_f, z_uL_f, e_ix, e_vp, e_lt, e_le, e_eq, e_lt0, e_eq0, e_b0, e_b1, e_10, e_11, true_or, or_true, false_or, nI_add, z_bi_0, z_bi_1, e_bb, z_uR_s, z_uR_k, z_uL_s, z_uL_k, true_and, and_true, and_self, not_true_eq_false, not_false_eq_true, forall_const, Option.toList, List.cons_append, List.nil_append, List.singleton_append, Nat.reduceAdd, Nat.zero_add, Nat.add_zero, Nat.reduceEqDiff, ↓reduceIte, ite_true, ite_false, reduceCtorEq, Int.cast_ofNat_Int, Int.reduceAdd, Int.reduceToNat, ne_eq, false_imp_iff, true_imp_iff, cl_150, bf_150_0, bf_150_15, bf_150_21, bf_150_40, bo_150_0, bo_150_15, bo_150_21, bo_150_40, hS]
    refine ih f' ⟨?_, fun c hc => funext fun j => ?_⟩
    · refine PM.cong hf.1 ?_ (fun c _ _ c1 c2 c3 => funext fun j => by rw [hf', if_neg c1, if_neg c3]) ?_ ?_ ?_
      · simp (disch := omega) only [hf', Nat.reduceEqDiff, ↓reduceIte, and_self]
      · funext j
        rw [hf', if_pos rfl, hf.1.2.2.1.1, hf.1.2.2.1.2.2.2]
        exact (congrFun (f_gos_s ..) j).symm
      · exact fun j hj => by rw [hf', if_neg (by omega), if_neg (by omega)]; exact hf.1.2.2.1.2.1 j hj
      · exact fun j hj => by rw [hf', if_neg (by omega), if_pos rfl, hf.1.2.2.1.1]; exact (f_gos_rok h8 _ _ hW.2.1).2.2 j hj
    · rw [hf', if_neg (by omega), if_neg (by omega), hf.2 c hc]
theorem k_turn {x : Int32} (hS : SM T mr) (hM : PA A mi ml) (hQ : ∀ f, PA (a_turn A x).2 f ml → (∀ c, c < 373 → f c = mi c) → Q (some (.int (a_turn A x).1)) (f, mr, ml, T)) : z_Ok l G m_Model_turn [.ref 373, .int x] (mi, mr, ml, T) Q := by
  have hs := hM.1
  have hw := hS.now
  have h8 := hs.2
  unfold a_turn at hQ
  refine z_okN cz_151.1 (by rw [cl_151]; exact Nat.le_of_ble_eq_true rfl) cz_151.2 (z_run ck_151 3 bf_151_0 ?_)
  simp (disch := omega) only [e_q0, e_nil, e_cons, e_q, e_qf, e_qt, e_af, z_hd, z_mk1, z_lg, z_s1, z_s2, z_kl, z_en, z_kI, z_fv, z_ic, z_c1, z_sh, z_pop, z_rc, z_tgt, z_tsw, z_lsw, z_nw, z_ac, o_kI, o_kL, o_ldi, o_ldl, o_lda, o_sti, o_sta, o_stl, o_inc, o_b2, o_bz, o_l2, o_lz, o_ls, o_lneg, o_i2l, o_l2i, o_lcmp, o_dup, o_dupx1, o_dup2, o_if, o_if2, o_ifnull, o_get, o_put, o_iald, o_zald, o_aald, o_alen, o_iast, o_zast, o_aast, o_new, o_newa, o_call, o_call1, o_callN, o_obj, o_reti, o_retl, o_ret, o_tsw, o_lsw, va_rf_s, va_rf_n, z_u2_s, z_u2_k, z_u2_f, z_uR_f, z_uL_f, e_ix, e_vp, e_lt, e_le, e_eq, e_lt0, e_eq0, e_b0, e_b1, e_10, e_11, true_or, or_true, false_or, nI_add, z_bi_0, z_bi_1, e_bb, z_uR_s, z_uR_k, z_uL_s, z_uL_k, true_and, and_true, and_self, not_true_eq_false, not_false_eq_true, forall_const, Option.toList, List.cons_append, List.nil_append, List.singleton_append, Nat.reduceAdd, Nat.zero_add, Nat.add_zero, Nat.reduceEqDiff, ↓reduceIte, ite_true, ite_false, reduceCtorEq, Int.cast_ofNat_Int, Int.reduceAdd, Int.reduceToNat, ne_eq, false_imp_iff, true_imp_iff, cl_151, bf_151_0, bf_151_10, bo_151_0, bo_151_10, hS, hs, hw]
  refine k_isLink hS hs ?_
  simp (disch := omega) only [e_q0, e_nil, e_cons, e_q, e_qf, e_qt, e_af, z_hd, z_mk1, z_lg, z_s1, z_s2, z_kl, z_en, z_kI, z_fv, z_ic, z_c1, z_sh, z_pop, z_rc, z_tgt, z_tsw, z_lsw, z_nw, z_ac, o_kI, o_kL, o_ldi, o_ldl, o_lda, o_sti, o_sta, o_stl, o_inc, o_b2, o_bz, o_l2, o_lz, o_ls, o_lneg, o_i2l, o_l2i, o_lcmp, o_dup, o_dupx1, o_dup2, o_if, o_if2, o_ifnull, o_get, o_put, o_iald, o_zald, o_aald, o_alen, o_iast, o_zast, o_aast, o_new, o_newa, o_call, o_call1, o_callN, o_obj, o_reti, o_retl, o_ret, o_tsw, o_lsw, va_rf_s, va_rf_n, z_u2_s, z_u2_k, z_u2_f, z_uR_f, z_uL_f, e_ix, e_vp, e_lt, e_le, e_eq, e_lt0, e_eq0, e_b0, e_b1, e_10, e_11, true_or, or_true, false_or, nI_add, z_bi_0, z_bi_1, e_bb, z_uR_s, z_uR_k, z_uL_s, z_uL_k, true_and, and_true, and_self, not_true_eq_false, not_false_eq_true, forall_const, Option.toList, List.cons_append, List.nil_append, List.singleton_append, Nat.reduceAdd, Nat.zero_add, Nat.add_zero, Nat.reduceEqDiff, ↓reduceIte, ite_true, ite_false, reduceCtorEq, Int.cast_ofNat_Int, Int.reduceAdd, Int.reduceToNat, ne_eq, false_imp_iff, true_imp_iff, cl_151, bf_151_0, bf_151_10, bo_151_0, bo_151_10, hS, hs, hw]
  refine ⟨fun c => ?_, fun c => ?_⟩
  · rw [c] at hQ
    exact hQ _ hM fun _ _ => rfl
  rw [Bool.not_eq_false] at c
  rw [c] at hQ
  obtain ⟨n, hn, rfl⟩ := f_idx_t (by omega) c
  rw [e_ix (by omega)] at hQ
  refine k_note' hS hM fun g hg hgf => ?_
  have hr : g 381 = A.r := hg.2.2.1.1
  simp (disch := omega) only [e_q0, e_nil, e_cons, e_q, e_qf, e_qt, e_af, z_hd, z_mk1, z_lg, z_s1, z_s2, z_kl, z_en, z_kI, z_fv, z_ic, z_c1, z_sh, z_pop, z_rc, z_tgt, z_tsw, z_lsw, z_nw, z_ac, o_kI, o_kL, o_ldi, o_ldl, o_lda, o_sti, o_sta, o_stl, o_inc, o_b2, o_bz, o_l2, o_lz, o_ls, o_lneg, o_i2l, o_l2i, o_lcmp, o_dup, o_dupx1, o_dup2, o_if, o_if2, o_ifnull, o_get, o_put, o_iald, o_zald, o_aald, o_alen, o_iast, o_zast, o_aast, o_new, o_newa, o_call, o_call1, o_callN, o_obj, o_reti, o_retl, o_ret, o_tsw, o_lsw, va_rf_s, va_rf_n, z_u2_s, z_u2_k, z_u2_f, z_uR_f, z_uL_f, e_ix, e_vp, e_lt, e_le, e_eq, e_lt0, e_eq0, e_b0, e_b1, e_10, e_11, true_or, or_true, false_or, nI_add, z_bi_0, z_bi_1, e_bb, z_uR_s, z_uR_k, z_uL_s, z_uL_k, true_and, and_true, and_self, not_true_eq_false, not_false_eq_true, forall_const, Option.toList, List.cons_append, List.nil_append, List.singleton_append, Nat.reduceAdd, Nat.zero_add, Nat.add_zero, Nat.reduceEqDiff, ↓reduceIte, ite_true, ite_false, reduceCtorEq, Int.cast_ofNat_Int, Int.reduceAdd, Int.reduceToNat, ne_eq, false_imp_iff, true_imp_iff, cl_151, bf_151_0, bf_151_10, bo_151_0, bo_151_10, hS, hs, hw, hr]
  exact hQ _ hg.set fun c hc => by rw [z_u2_f (by omega), hgf c hc]
theorem k_margin {x : Int32} (hS : SM T mr) (hM : PA A mi ml) (hQ : ∀ f, PA (a_margin A x).2 f ml → (∀ c, c < 373 → f c = mi c) → Q (some (.int (a_margin A x).1)) (f, mr, ml, T)) : z_Ok l G m_Model_margin [.ref 373, .int x] (mi, mr, ml, T) Q := by
  have hs := hM.1
  have hw := hS.now
  have h8 := hs.2
  unfold a_margin at hQ
  refine z_okN cz_154.1 (by rw [cl_154]; exact Nat.le_of_ble_eq_true rfl) cz_154.2 (z_run ck_154 3 bf_154_0 ?_)
  simp (disch := omega) only [e_q0, e_nil, e_cons, e_q, e_qf, e_qt, e_af, z_hd, z_mk1, z_lg, z_s1, z_s2, z_kl, z_en, z_kI, z_fv, z_ic, z_c1, z_sh, z_pop, z_rc, z_tgt, z_tsw, z_lsw, z_nw, z_ac, o_kI, o_kL, o_ldi, o_ldl, o_lda, o_sti, o_sta, o_stl, o_inc, o_b2, o_bz, o_l2, o_lz, o_ls, o_lneg, o_i2l, o_l2i, o_lcmp, o_dup, o_dupx1, o_dup2, o_if, o_if2, o_ifnull, o_get, o_put, o_iald, o_zald, o_aald, o_alen, o_iast, o_zast, o_aast, o_new, o_newa, o_call, o_call1, o_callN, o_obj, o_reti, o_retl, o_ret, o_tsw, o_lsw, va_rf_s, va_rf_n, z_u2_s, z_u2_k, z_u2_f, z_uR_f, z_uL_f, e_ix, e_vp, e_lt, e_le, e_eq, e_lt0, e_eq0, e_b0, e_b1, e_10, e_11, true_or, or_true, false_or, nI_add, z_bi_0, z_bi_1, e_bb, z_uR_s, z_uR_k, z_uL_s, z_uL_k, true_and, and_true, and_self, not_true_eq_false, not_false_eq_true, forall_const, Option.toList, List.cons_append, List.nil_append, List.singleton_append, Nat.reduceAdd, Nat.zero_add, Nat.add_zero, Nat.reduceEqDiff, ↓reduceIte, ite_true, ite_false, reduceCtorEq, Int.cast_ofNat_Int, Int.reduceAdd, Int.reduceToNat, ne_eq, false_imp_iff, true_imp_iff, cl_154, bf_154_0, bf_154_15, bo_154_0, bo_154_15, hS, hs, hw]
  refine k_inI (by omega) (by omega) ?_
  simp (disch := omega) only [e_q0, e_nil, e_cons, e_q, e_qf, e_qt, e_af, z_hd, z_mk1, z_lg, z_s1, z_s2, z_kl, z_en, z_kI, z_fv, z_ic, z_c1, z_sh, z_pop, z_rc, z_tgt, z_tsw, z_lsw, z_nw, z_ac, o_kI, o_kL, o_ldi, o_ldl, o_lda, o_sti, o_sta, o_stl, o_inc, o_b2, o_bz, o_l2, o_lz, o_ls, o_lneg, o_i2l, o_l2i, o_lcmp, o_dup, o_dupx1, o_dup2, o_if, o_if2, o_ifnull, o_get, o_put, o_iald, o_zald, o_aald, o_alen, o_iast, o_zast, o_aast, o_new, o_newa, o_call, o_call1, o_callN, o_obj, o_reti, o_retl, o_ret, o_tsw, o_lsw, va_rf_s, va_rf_n, z_u2_s, z_u2_k, z_u2_f, z_uR_f, z_uL_f, e_ix, e_vp, e_lt, e_le, e_eq, e_lt0, e_eq0, e_b0, e_b1, e_10, e_11, true_or, or_true, false_or, nI_add, z_bi_0, z_bi_1, e_bb, z_uR_s, z_uR_k, z_uL_s, z_uL_k, true_and, and_true, and_self, not_true_eq_false, not_false_eq_true, forall_const, Option.toList, List.cons_append, List.nil_append, List.singleton_append, Nat.reduceAdd, Nat.zero_add, Nat.add_zero, Nat.reduceEqDiff, ↓reduceIte, ite_true, ite_false, reduceCtorEq, Int.cast_ofNat_Int, Int.reduceAdd, Int.reduceToNat, ne_eq, false_imp_iff, true_imp_iff, cl_154, bf_154_0, bf_154_15, bo_154_0, bo_154_15, hS, hs, hw]
  refine ⟨fun c => ?_, fun c => ?_⟩
  · rw [c] at hQ
    exact hQ _ hM fun _ _ => rfl
  rw [Bool.not_eq_false] at c
  rw [c] at hQ
  refine k_note' hS hM fun g hg hgf => ?_
  have hr : g 381 = A.r := hg.2.2.1.1
  simp (disch := omega) only [e_q0, e_nil, e_cons, e_q, e_qf, e_qt, e_af, z_hd, z_mk1, z_lg, z_s1, z_s2, z_kl, z_en, z_kI, z_fv, z_ic, z_c1, z_sh, z_pop, z_rc, z_tgt, z_tsw, z_lsw, z_nw, z_ac, o_kI, o_kL, o_ldi, o_ldl, o_lda, o_sti, o_sta, o_stl, o_inc, o_b2, o_bz, o_l2, o_lz, o_ls, o_lneg, o_i2l, o_l2i, o_lcmp, o_dup, o_dupx1, o_dup2, o_if, o_if2, o_ifnull, o_get, o_put, o_iald, o_zald, o_aald, o_alen, o_iast, o_zast, o_aast, o_new, o_newa, o_call, o_call1, o_callN, o_obj, o_reti, o_retl, o_ret, o_tsw, o_lsw, va_rf_s, va_rf_n, z_u2_s, z_u2_k, z_u2_f, z_uR_f, z_uL_f, e_ix, e_vp, e_lt, e_le, e_eq, e_lt0, e_eq0, e_b0, e_b1, e_10, e_11, true_or, or_true, false_or, nI_add, z_bi_0, z_bi_1, e_bb, z_uR_s, z_uR_k, z_uL_s, z_uL_k, true_and, and_true, and_self, not_true_eq_false, not_false_eq_true, forall_const, Option.toList, List.cons_append, List.nil_append, List.singleton_append, Nat.reduceAdd, Nat.zero_add, Nat.add_zero, Nat.reduceEqDiff, ↓reduceIte, ite_true, ite_false, reduceCtorEq, Int.cast_ofNat_Int, Int.reduceAdd, Int.reduceToNat, ne_eq, false_imp_iff, true_imp_iff, cl_154, bf_154_0, bf_154_15, bo_154_0, bo_154_15, hS, hs, hw, hr]
  exact hQ _ hg.set fun c hc => by rw [z_u2_f (by omega), hgf c hc]
theorem k_offset {x v : Int32} (hS : SM T mr) (hM : PA A mi ml) (hQ : ∀ f, PA (a_offset A x v).2 f ml → (∀ c, c < 373 → f c = mi c) → Q (some (.int (a_offset A x v).1)) (f, mr, ml, T)) : z_Ok l G m_Model_offset [.ref 373, .int x, .int v] (mi, mr, ml, T) Q := by
  have hs := hM.1
  have hw := hS.now
  have h8 := hs.2
  unfold a_offset at hQ
  refine z_okN cz_153.1 (by rw [cl_153]; exact Nat.le_of_ble_eq_true rfl) cz_153.2 (z_run ck_153 4 bf_153_0 ?_)
  simp (disch := omega) only [e_q0, e_nil, e_cons, e_q, e_qf, e_qt, e_af, z_hd, z_mk1, z_lg, z_s1, z_s2, z_kl, z_en, z_kI, z_fv, z_ic, z_c1, z_sh, z_pop, z_rc, z_tgt, z_tsw, z_lsw, z_nw, z_ac, o_kI, o_kL, o_ldi, o_ldl, o_lda, o_sti, o_sta, o_stl, o_inc, o_b2, o_bz, o_l2, o_lz, o_ls, o_lneg, o_i2l, o_l2i, o_lcmp, o_dup, o_dupx1, o_dup2, o_if, o_if2, o_ifnull, o_get, o_put, o_iald, o_zald, o_aald, o_alen, o_iast, o_zast, o_aast, o_new, o_newa, o_call, o_call1, o_callN, o_obj, o_reti, o_retl, o_ret, o_tsw, o_lsw, va_rf_s, va_rf_n, z_u2_s, z_u2_k, z_u2_f, z_uR_f, z_uL_f, e_ix, e_vp, e_lt, e_le, e_eq, e_lt0, e_eq0, e_b0, e_b1, e_10, e_11, true_or, or_true, false_or, nI_add, z_bi_0, z_bi_1, e_bb, z_uR_s, z_uR_k, z_uL_s, z_uL_k, true_and, and_true, and_self, not_true_eq_false, not_false_eq_true, forall_const, Option.toList, List.cons_append, List.nil_append, List.singleton_append, Nat.reduceAdd, Nat.zero_add, Nat.add_zero, Nat.reduceEqDiff, ↓reduceIte, ite_true, ite_false, reduceCtorEq, Int.cast_ofNat_Int, Int.reduceAdd, Int.reduceToNat, ne_eq, false_imp_iff, true_imp_iff, cl_153, bf_153_0, bf_153_10, bf_153_25, bo_153_0, bo_153_10, bo_153_25, hS, hs, hw]
  refine k_isGateway hS hs ?_
  simp (disch := omega) only [e_q0, e_nil, e_cons, e_q, e_qf, e_qt, e_af, z_hd, z_mk1, z_lg, z_s1, z_s2, z_kl, z_en, z_kI, z_fv, z_ic, z_c1, z_sh, z_pop, z_rc, z_tgt, z_tsw, z_lsw, z_nw, z_ac, o_kI, o_kL, o_ldi, o_ldl, o_lda, o_sti, o_sta, o_stl, o_inc, o_b2, o_bz, o_l2, o_lz, o_ls, o_lneg, o_i2l, o_l2i, o_lcmp, o_dup, o_dupx1, o_dup2, o_if, o_if2, o_ifnull, o_get, o_put, o_iald, o_zald, o_aald, o_alen, o_iast, o_zast, o_aast, o_new, o_newa, o_call, o_call1, o_callN, o_obj, o_reti, o_retl, o_ret, o_tsw, o_lsw, va_rf_s, va_rf_n, z_u2_s, z_u2_k, z_u2_f, z_uR_f, z_uL_f, e_ix, e_vp, e_lt, e_le, e_eq, e_lt0, e_eq0, e_b0, e_b1, e_10, e_11, true_or, or_true, false_or, nI_add, z_bi_0, z_bi_1, e_bb, z_uR_s, z_uR_k, z_uL_s, z_uL_k, true_and, and_true, and_self, not_true_eq_false, not_false_eq_true, forall_const, Option.toList, List.cons_append, List.nil_append, List.singleton_append, Nat.reduceAdd, Nat.zero_add, Nat.add_zero, Nat.reduceEqDiff, ↓reduceIte, ite_true, ite_false, reduceCtorEq, Int.cast_ofNat_Int, Int.reduceAdd, Int.reduceToNat, ne_eq, false_imp_iff, true_imp_iff, cl_153, bf_153_0, bf_153_10, bf_153_25, bo_153_0, bo_153_10, bo_153_25, hS, hs, hw]
  refine ⟨fun c => ?_, fun c => ?_⟩
  · rw [c] at hQ
    exact hQ _ hM fun _ _ => rfl
  rw [Bool.not_eq_false] at c
  rw [c] at hQ
  obtain ⟨n, hn, rfl, hn2⟩ := f_gate_t (by omega) c
  rw [e_ix (by omega)] at hQ
  refine k_inI (by omega) (by omega) ?_
  simp (disch := omega) only [e_q0, e_nil, e_cons, e_q, e_qf, e_qt, e_af, z_hd, z_mk1, z_lg, z_s1, z_s2, z_kl, z_en, z_kI, z_fv, z_ic, z_c1, z_sh, z_pop, z_rc, z_tgt, z_tsw, z_lsw, z_nw, z_ac, o_kI, o_kL, o_ldi, o_ldl, o_lda, o_sti, o_sta, o_stl, o_inc, o_b2, o_bz, o_l2, o_lz, o_ls, o_lneg, o_i2l, o_l2i, o_lcmp, o_dup, o_dupx1, o_dup2, o_if, o_if2, o_ifnull, o_get, o_put, o_iald, o_zald, o_aald, o_alen, o_iast, o_zast, o_aast, o_new, o_newa, o_call, o_call1, o_callN, o_obj, o_reti, o_retl, o_ret, o_tsw, o_lsw, va_rf_s, va_rf_n, z_u2_s, z_u2_k, z_u2_f, z_uR_f, z_uL_f, e_ix, e_vp, e_lt, e_le, e_eq, e_lt0, e_eq0, e_b0, e_b1, e_10, e_11, true_or, or_true, false_or, nI_add, z_bi_0, z_bi_1, e_bb, z_uR_s, z_uR_k, z_uL_s, z_uL_k, true_and, and_true, and_self, not_true_eq_false, not_false_eq_true, forall_const, Option.toList, List.cons_append, List.nil_append, List.singleton_append, Nat.reduceAdd, Nat.zero_add, Nat.add_zero, Nat.reduceEqDiff, ↓reduceIte, ite_true, ite_false, reduceCtorEq, Int.cast_ofNat_Int, Int.reduceAdd, Int.reduceToNat, ne_eq, false_imp_iff, true_imp_iff, cl_153, bf_153_0, bf_153_10, bf_153_25, bo_153_0, bo_153_10, bo_153_25, hS, hs, hw]
  refine ⟨fun c2 => ?_, fun c2 => ?_⟩
  · rw [c2] at hQ
    exact hQ _ hM fun _ _ => rfl
  rw [Bool.not_eq_false] at c2
  rw [c2] at hQ
  refine k_note' hS hM fun g hg hgf => ?_
  have hr : g 381 = A.r := hg.2.2.1.1
  simp (disch := omega) only [e_q0, e_nil, e_cons, e_q, e_qf, e_qt, e_af, z_hd, z_mk1, z_lg, z_s1, z_s2, z_kl, z_en, z_kI, z_fv, z_ic, z_c1, z_sh, z_pop, z_rc, z_tgt, z_tsw, z_lsw, z_nw, z_ac, o_kI, o_kL, o_ldi, o_ldl, o_lda, o_sti, o_sta, o_stl, o_inc, o_b2, o_bz, o_l2, o_lz, o_ls, o_lneg, o_i2l, o_l2i, o_lcmp, o_dup, o_dupx1, o_dup2, o_if, o_if2, o_ifnull, o_get, o_put, o_iald, o_zald, o_aald, o_alen, o_iast, o_zast, o_aast, o_new, o_newa, o_call, o_call1, o_callN, o_obj, o_reti, o_retl, o_ret, o_tsw, o_lsw, va_rf_s, va_rf_n, z_u2_s, z_u2_k, z_u2_f, z_uR_f, z_uL_f, e_ix, e_vp, e_lt, e_le, e_eq, e_lt0, e_eq0, e_b0, e_b1, e_10, e_11, true_or, or_true, false_or, nI_add, z_bi_0, z_bi_1, e_bb, z_uR_s, z_uR_k, z_uL_s, z_uL_k, true_and, and_true, and_self, not_true_eq_false, not_false_eq_true, forall_const, Option.toList, List.cons_append, List.nil_append, List.singleton_append, Nat.reduceAdd, Nat.zero_add, Nat.add_zero, Nat.reduceEqDiff, ↓reduceIte, ite_true, ite_false, reduceCtorEq, Int.cast_ofNat_Int, Int.reduceAdd, Int.reduceToNat, ne_eq, false_imp_iff, true_imp_iff, cl_153, bf_153_0, bf_153_10, bf_153_25, bo_153_0, bo_153_10, bo_153_25, hS, hs, hw, hr]
  exact hQ _ hg.set fun c hc => by rw [z_u2_f (by omega), hgf c hc]
end
end
section
def f_dig (s : ZS) (r : ZW) : Prop := ∀ k, k < s.1.2 → (∃ a, a ≤ 9 ∧ r (40 + k) = nI a) ∧ ∃ b, b ≤ 9 ∧ r (49 + k) = nI b
theorem f_dig_pos {s : ZS} {r : ZW} (h : f_dig s r) : f_pos s r := by
  intro k hk
  obtain ⟨⟨a, ha, ea⟩, b, hb, eb⟩ := h k hk
  rw [ea, eb]
  have e : ∀ a, a ≤ 9 → ∀ b, b ≤ 9 → ¬ (nI 10 - nI a) * (nI 10 - nI b) = 0 := by decide
  exact e a ha b hb
theorem f_dig_set {s : ZS} {r : ZW} {k v : Nat} (h : f_dig s r) (hv : v ≤ 9) : f_dig s (f_set r k (nI v)) := by
  intro i hi
  obtain ⟨h1, h2⟩ := h i hi
  constructor
  · by_cases q : 40 + i = k
    · exact ⟨v, hv, if_pos q⟩
    · rw [show f_set r k (nI v) (40 + i) = r (40 + i) from if_neg q]; exact h1
  · by_cases q : 49 + i = k
    · exact ⟨v, hv, if_pos q⟩
    · rw [show f_set r k (nI v) (49 + i) = r (49 + i) from if_neg q]; exact h2
theorem PM.base {len : Nat} {txt : ZW} {s : ZS} {r : ZW} {h : Nat} {H : Nat → ZW} {fl : ZW} {K : Nat → ZW} {o : Nat} {O : Nat → ZW} {sd : Int64} {mi f : Nat → Nat → Int32} {ml : Nat → Nat → Int64} (hM : PM len txt s r h H fl K o O sd mi ml)
    (h1 : f 373 1 = mi 373 1 ∧ f 373 2 = mi 373 2 ∧ f 373 6 = mi 373 6) (h2 : ∀ c, 374 ≤ c → c ≤ 380 → f c = mi c) : PMs f s ∧ (f 373 1 = nI len ∧ len ≤ 100 ∧ ∀ j, j < len → f 374 j = txt j) := by
  obtain ⟨⟨⟨c1, c2, c3, c4, c5, c6, c7, c8⟩, c9⟩, a2, _⟩ := hM
  obtain ⟨b1, b2, b3⟩ := h1
  have e := fun c q1 q2 => h2 c q1 q2
  refine ⟨⟨⟨by rw [b2]; exact c1, by rw [b3]; exact c2, ?_, ?_, ?_, ?_, ?_, ?_⟩, c9⟩, ⟨by rw [b1]; exact a2.1, a2.2.1, ?_⟩⟩ <;> rw [h2 _ (by omega) (by omega)]
  · exact c3
  · exact c4
  · exact c5
  · exact c6
  · exact c7
  · exact c8
  · exact a2.2.2
def a_ahead (A : ZA) (n x w : Int32) : Int32 := if f_idx x A.s.1.1 then (if f_in n 0 99 && f_in w 3 9 then f_tell A.s (nI 255) (f_gos A.s (nI 255) (z_ix n) A.r) (z_ix x) w else z_ng 2) else z_ng 1
def a_see (A : ZA) (x n i : Int32) : Int32 × ZA := if f_idx x A.s.1.1 then (if f_in n 0 20 && f_in i 0 1 then (if A.o = 6 then (z_ng 4, A) else (nI (A.o + 1), (A.1, A.2.1, A.2.2.1, (A.o + 1, fun c j => if j = A.o then (if c = 0 then x else if c = 1 then n else i) else A.O c j), A.sd))) else (z_ng 2, A)) else (z_ng 1, A)
def a_unsee (A : ZA) : Int32 × ZA := (nI A.o, (A.1, A.2.1, A.2.2.1, (0, A.O), A.sd))
def a_seed (A : ZA) (v : Int64) : Int64 × ZA := (A.sd, (A.1, A.2.1, A.2.2.1, A.2.2.2.1, v))
def a_keep (A : ZA) (x : Int32) : Int32 × ZA := if f_in x 0 1 then (A.r 77, (A.1, A.2.1, (f_set A.fl (z_ix x) (nI 1), fun t => if t = z_ix x then A.r else A.K t), A.2.2.2)) else (z_ng 1, A)
def a_again (A : ZA) (x : Int32) : Int32 × ZA := if f_in x 0 1 then (if A.fl (z_ix x) = 0 then (z_ng 3, A) else (A.K (z_ix x) 77, ((A.1.1, A.s, A.K (z_ix x)), (0, A.H), A.2.2))) else (z_ng 1, A)
section
variable {l : Launch} {G : ZG} {mi : Nat → Nat → Int32} {mr : Nat → Nat → Option Nat} {ml : Nat → Nat → Int64} {T : (Nat → Nat × Nat) × Nat × Nat} {Q : ZR} {A : ZA}
theorem k_copyT (hS : SM T mr) (hM : PA A mi ml) (hW : WA A) (hQ : ∀ f, PA A f ml → f 382 = A.r → (∀ c, c ≠ 382 → f c = mi c) → Q none (f, mr, ml, T)) : z_Ok l G m_Model_copy [.ref 381, .ref 382] (mi, mr, ml, T) Q := by
  have hw := hS.now
  have hw2 : T.1 382 = (2, 78) := by rw [hS.1.2.2.2.2.2.2.2.2.2.1]
  refine k_copy hw hw2 (by omega) fun f hf => ?_
  have e1 : ∀ c, c ≠ 382 → f c = mi c := fun c hc => funext fun j => by rw [hf, if_neg (fun q => hc q.1)]
  have e2 : f 382 = A.r := funext fun j => by
    rw [hf]
    by_cases q : j < 78
    · rw [if_pos ⟨rfl, q⟩, hM.2.2.1.1]
    · rw [if_neg (fun z => q z.2), hM.2.2.1.2.1 j (by omega)]
      exact (hW.2.1.2.2 j (by omega)).symm
  exact hQ f (PM.cong hM (by simp [e1]) (fun c _ _ _ c2 _ => e1 c c2) (by rw [e1 _ (by omega)]; exact hM.2.2.1.1) (by rw [e2]; exact hW.2.1.2.2) (by rw [e1 _ (by omega)]; exact hM.2.2.1.2.2.1)) e2 e1
theorem k_tryT {m : Nat} {r : ZW} (hS : SM T mr) (hM : PA A mi ml) (hW : f_cyc A.s) (hm : m < 1000) (hr : mi 382 = r) (hk : f_rok A.s r) (hQ : ∀ f, PA A f ml → f 382 = f_gos A.s (nI 255) m r → (∀ c, c ≠ 382 → c ≠ 383 → f c = mi c) → Q none (f, mr, ml, T)) : z_Ok l G m_Model_tryRounds [.ref 373, .int (nI m)] (mi, mr, ml, T) Q := by
  refine k_tryRounds hS hM.1 hm (by rw [hr]; exact hk) hM.2.2.1.2.2.1 hW fun f h1 h2 h3 => ?_
  rw [hM.2.2.1.2.2.2, hr] at h2
  refine hQ f (PM.cong hM (by simp [h1]) (fun c _ _ _ c2 c3 => h1 c c2 c3) (by rw [h1 _ (by omega) (by omega)]; exact hM.2.2.1.1) ?_ h3) h2 h1
  rw [h2]
  exact (f_gos_rok hM.1.2 _ _ hk).2.2
theorem k_lose {x b v : Int32} (hS : SM T mr) (hM : PA A mi ml) (hX : f_dig A.s A.r) (hb : b = 0 ∨ b = 1) (hQ : ∀ f, PA (a_lose A x b v).2 f ml → (∀ c, c < 373 → f c = mi c) → Q (some (.int (a_lose A x b v).1)) (f, mr, ml, T)) : z_Ok l G m_Model_lose [.ref 373, .int x, .int b, .int v] (mi, mr, ml, T) Q := by
  have hs := hM.1
  have hw := hS.now
  have h8 := hs.2
  unfold a_lose at hQ
  refine z_okN cz_152.1 (by rw [cl_152]; exact Nat.le_of_ble_eq_true rfl) cz_152.2 (z_run ck_152 6 bf_152_0 ?_)
  simp (disch := omega) only [e_q0, e_nil, e_cons, e_q, e_qf, e_qt, e_af, z_hd, z_mk1, z_lg, z_s1, z_s2, z_kl, z_en, z_kI, z_fv, z_ic, z_c1, z_sh, z_pop, z_rc, z_tgt, z_tsw, z_lsw, z_nw, z_ac, o_kI, o_kL, o_ldi, o_ldl, o_lda, o_sti, o_sta, o_stl, o_inc, o_b2, o_bz, o_l2, o_lz, o_ls, o_lneg, o_i2l, o_l2i, o_lcmp, o_dup, o_dupx1, o_dup2, o_if, o_if2, o_ifnull, o_get, o_put, o_iald, o_zald, o_aald, o_alen, o_iast, o_zast, o_aast, o_new, o_newa, o_call, o_call1, o_callN, o_obj, o_reti, o_retl, o_ret, o_tsw, o_lsw, va_rf_s, va_rf_n, z_u2_s, z_u2_k, z_u2_f, z_uR_f, z_uL_f, e_ix, e_vp, e_lt, e_le, e_eq, e_lt0, e_eq0, e_b0, e_b1, e_10, e_11, true_or, or_true, false_or, nI_add, z_bi_0, z_bi_1, e_bb, z_uR_s, z_uR_k, z_uL_s, z_uL_k, true_and, and_true, and_self, not_true_eq_false, not_false_eq_true, forall_const, Option.toList, List.cons_append, List.nil_append, List.singleton_append, Nat.reduceAdd, Nat.zero_add, Nat.add_zero, Nat.reduceEqDiff, ↓reduceIte, ite_true, ite_false, reduceCtorEq, Int.cast_ofNat_Int, Int.reduceAdd, Int.reduceToNat, ne_eq, false_imp_iff, true_imp_iff, cl_152, bf_152_0, bf_152_10, bf_152_25, bf_152_42, bf_152_44, bo_152_0, bo_152_10, bo_152_25, bo_152_42, bo_152_44, hS, hs, hw]
  refine k_isLink hS hs ?_
  simp (disch := omega) only [e_q0, e_nil, e_cons, e_q, e_qf, e_qt, e_af, z_hd, z_mk1, z_lg, z_s1, z_s2, z_kl, z_en, z_kI, z_fv, z_ic, z_c1, z_sh, z_pop, z_rc, z_tgt, z_tsw, z_lsw, z_nw, z_ac, o_kI, o_kL, o_ldi, o_ldl, o_lda, o_sti, o_sta, o_stl, o_inc, o_b2, o_bz, o_l2, o_lz, o_ls, o_lneg, o_i2l, o_l2i, o_lcmp, o_dup, o_dupx1, o_dup2, o_if, o_if2, o_ifnull, o_get, o_put, o_iald, o_zald, o_aald, o_alen, o_iast, o_zast, o_aast, o_new, o_newa, o_call, o_call1, o_callN, o_obj, o_reti, o_retl, o_ret, o_tsw, o_lsw, va_rf_s, va_rf_n, z_u2_s, z_u2_k, z_u2_f, z_uR_f, z_uL_f, e_ix, e_vp, e_lt, e_le, e_eq, e_lt0, e_eq0, e_b0, e_b1, e_10, e_11, true_or, or_true, false_or, nI_add, z_bi_0, z_bi_1, e_bb, z_uR_s, z_uR_k, z_uL_s, z_uL_k, true_and, and_true, and_self, not_true_eq_false, not_false_eq_true, forall_const, Option.toList, List.cons_append, List.nil_append, List.singleton_append, Nat.reduceAdd, Nat.zero_add, Nat.add_zero, Nat.reduceEqDiff, ↓reduceIte, ite_true, ite_false, reduceCtorEq, Int.cast_ofNat_Int, Int.reduceAdd, Int.reduceToNat, ne_eq, false_imp_iff, true_imp_iff, cl_152, bf_152_0, bf_152_10, bf_152_25, bf_152_42, bf_152_44, bo_152_0, bo_152_10, bo_152_25, bo_152_42, bo_152_44, hS, hs, hw]
  refine ⟨fun c => ?_, fun c => ?_⟩
  · rw [c] at hQ
    exact hQ _ hM fun _ _ => rfl
  rw [Bool.not_eq_false] at c
  rw [c] at hQ
  obtain ⟨n, hn, rfl⟩ := f_idx_t (by omega) c
  rw [e_ix (by omega)] at hQ
  refine k_inI (by omega) (by omega) ?_
  simp (disch := omega) only [e_q0, e_nil, e_cons, e_q, e_qf, e_qt, e_af, z_hd, z_mk1, z_lg, z_s1, z_s2, z_kl, z_en, z_kI, z_fv, z_ic, z_c1, z_sh, z_pop, z_rc, z_tgt, z_tsw, z_lsw, z_nw, z_ac, o_kI, o_kL, o_ldi, o_ldl, o_lda, o_sti, o_sta, o_stl, o_inc, o_b2, o_bz, o_l2, o_lz, o_ls, o_lneg, o_i2l, o_l2i, o_lcmp, o_dup, o_dupx1, o_dup2, o_if, o_if2, o_ifnull, o_get, o_put, o_iald, o_zald, o_aald, o_alen, o_iast, o_zast, o_aast, o_new, o_newa, o_call, o_call1, o_callN, o_obj, o_reti, o_retl, o_ret, o_tsw, o_lsw, va_rf_s, va_rf_n, z_u2_s, z_u2_k, z_u2_f, z_uR_f, z_uL_f, e_ix, e_vp, e_lt, e_le, e_eq, e_lt0, e_eq0, e_b0, e_b1, e_10, e_11, true_or, or_true, false_or, nI_add, z_bi_0, z_bi_1, e_bb, z_uR_s, z_uR_k, z_uL_s, z_uL_k, true_and, and_true, and_self, not_true_eq_false, not_false_eq_true, forall_const, Option.toList, List.cons_append, List.nil_append, List.singleton_append, Nat.reduceAdd, Nat.zero_add, Nat.add_zero, Nat.reduceEqDiff, ↓reduceIte, ite_true, ite_false, reduceCtorEq, Int.cast_ofNat_Int, Int.reduceAdd, Int.reduceToNat, ne_eq, false_imp_iff, true_imp_iff, cl_152, bf_152_0, bf_152_10, bf_152_25, bf_152_42, bf_152_44, bo_152_0, bo_152_10, bo_152_25, bo_152_42, bo_152_44, hS, hs, hw]
  refine ⟨fun c2 => ?_, fun c2 => ?_⟩
  · rw [c2] at hQ
    exact hQ _ hM fun _ _ => rfl
  rw [Bool.not_eq_false] at c2
  rw [c2] at hQ
  obtain ⟨d, _, hd, rfl⟩ := f_in_t (by omega) (by omega) c2
  refine k_note' hS hM fun g hg hgf => ?_
  have hr : g 381 = A.r := hg.2.2.1.1
  simp (disch := omega) only [e_q0, e_nil, e_cons, e_q, e_qf, e_qt, e_af, z_hd, z_mk1, z_lg, z_s1, z_s2, z_kl, z_en, z_kI, z_fv, z_ic, z_c1, z_sh, z_pop, z_rc, z_tgt, z_tsw, z_lsw, z_nw, z_ac, o_kI, o_kL, o_ldi, o_ldl, o_lda, o_sti, o_sta, o_stl, o_inc, o_b2, o_bz, o_l2, o_lz, o_ls, o_lneg, o_i2l, o_l2i, o_lcmp, o_dup, o_dupx1, o_dup2, o_if, o_if2, o_ifnull, o_get, o_put, o_iald, o_zald, o_aald, o_alen, o_iast, o_zast, o_aast, o_new, o_newa, o_call, o_call1, o_callN, o_obj, o_reti, o_retl, o_ret, o_tsw, o_lsw, va_rf_s, va_rf_n, z_u2_s, z_u2_k, z_u2_f, z_uR_f, z_uL_f, e_ix, e_vp, e_lt, e_le, e_eq, e_lt0, e_eq0, e_b0, e_b1, e_10, e_11, true_or, or_true, false_or, nI_add, z_bi_0, z_bi_1, e_bb, z_uR_s, z_uR_k, z_uL_s, z_uL_k, true_and, and_true, and_self, not_true_eq_false, not_false_eq_true, forall_const, Option.toList, List.cons_append, List.nil_append, List.singleton_append, Nat.reduceAdd, Nat.zero_add, Nat.add_zero, Nat.reduceEqDiff, ↓reduceIte, ite_true, ite_false, reduceCtorEq, Int.cast_ofNat_Int, Int.reduceAdd, Int.reduceToNat, ne_eq, false_imp_iff, true_imp_iff, cl_152, bf_152_0, bf_152_10, bf_152_25, bf_152_42, bf_152_44, bo_152_0, bo_152_10, bo_152_25, bo_152_42, bo_152_44, hS, hs, hw, hr]
  have hp := f_dig_pos (f_dig_set (k := (if b = 0 then 40 else 49) + n) hX hd) n hn
  refine ⟨fun c3 => ?_, fun c3 => ?_⟩ <;> simp only [f_lose, c3, ↓reduceIte] at hQ hp
  all_goals
    refine k_airtime (w := 381) hS (PA.set hg).1 hw (by omega) (by rw [(PA.set hg).2.2.1.1]; exact hp) ?_
    simp (disch := omega) only [e_q0, e_nil, e_cons, e_q, e_qf, e_qt, e_af, z_hd, z_mk1, z_lg, z_s1, z_s2, z_kl, z_en, z_kI, z_fv, z_ic, z_c1, z_sh, z_pop, z_rc, z_tgt, z_tsw, z_lsw, z_nw, z_ac, o_kI, o_kL, o_ldi, o_ldl, o_lda, o_sti, o_sta, o_stl, o_inc, o_b2, o_bz, o_l2, o_lz, o_ls, o_lneg, o_i2l, o_l2i, o_lcmp, o_dup, o_dupx1, o_dup2, o_if, o_if2, o_ifnull, o_get, o_put, o_iald, o_zald, o_aald, o_alen, o_iast, o_zast, o_aast, o_new, o_newa, o_call, o_call1, o_callN, o_obj, o_reti, o_retl, o_ret, o_tsw, o_lsw, va_rf_s, va_rf_n, z_u2_s, z_u2_k, z_u2_f, z_uR_f, z_uL_f, e_ix, e_vp, e_lt, e_le, e_eq, e_lt0, e_eq0, e_b0, e_b1, e_10, e_11, true_or, or_true, false_or, nI_add, z_bi_0, z_bi_1, e_bb, z_uR_s, z_uR_k, z_uL_s, z_uL_k, true_and, and_true, and_self, not_true_eq_false, not_false_eq_true, forall_const, Option.toList, List.cons_append, List.nil_append, List.singleton_append, Nat.reduceAdd, Nat.zero_add, Nat.add_zero, Nat.reduceEqDiff, ↓reduceIte, ite_true, ite_false, reduceCtorEq, Int.cast_ofNat_Int, Int.reduceAdd, Int.reduceToNat, ne_eq, false_imp_iff, true_imp_iff, cl_152, bf_152_0, bf_152_10, bf_152_25, bf_152_42, bf_152_44, bo_152_0, bo_152_10, bo_152_25, bo_152_42, bo_152_44, hS, hs, hw]
    rw [(PA.set hg).2.2.1.1]
    exact hQ _ hg.set fun c hc => by rw [z_u2_f (by omega), hgf c hc]
theorem k_ahead {n x w : Int32} (hS : SM T mr) (hM : PA A mi ml) (hW : WA A) (hQ : ∀ f, PA A f ml → (∀ c, c < 373 → f c = mi c) → Q (some (.int (a_ahead A n x w))) (f, mr, ml, T)) : z_Ok l G m_Model_ahead [.ref 373, .int n, .int x, .int w] (mi, mr, ml, T) Q := by
  have hs := hM.1
  have hw := hS.now
  have h8 := hs.2
  unfold a_ahead at hQ
  refine z_okN cz_156.1 (by rw [cl_156]; exact Nat.le_of_ble_eq_true rfl) cz_156.2 (z_run ck_156 5 bf_156_0 ?_)
  simp (disch := omega) only [e_q0, e_nil, e_cons, e_q, e_qf, e_qt, e_af, z_hd, z_mk1, z_lg, z_s1, z_s2, z_kl, z_en, z_kI, z_fv, z_ic, z_c1, z_sh, z_pop, z_rc, z_tgt, z_tsw, z_lsw, z_nw, z_ac, o_kI, o_kL, o_ldi, o_ldl, o_lda, o_sti, o_sta, o_stl, o_inc, o_b2, o_bz, o_l2, o_lz, o_ls, o_lneg, o_i2l, o_l2i, o_lcmp, o_dup, o_dupx1, o_dup2, o_if, o_if2, o_ifnull, o_get, o_put, o_iald, o_zald, o_aald, o_alen, o_iast, o_zast, o_aast, o_new, o_newa, o_call, o_call1, o_callN, o_obj, o_reti, o_retl, o_ret, o_tsw, o_lsw, va_rf_s, va_rf_n, z_u2_s, z_u2_k, z_u2_f, z_uR_f, z_uL_f, e_ix, e_vp, e_lt, e_le, e_eq, e_lt0, e_eq0, e_b0, e_b1, e_10, e_11, true_or, or_true, false_or, nI_add, z_bi_0, z_bi_1, e_bb, z_uR_s, z_uR_k, z_uL_s, z_uL_k, true_and, and_true, and_self, not_true_eq_false, not_false_eq_true, forall_const, Option.toList, List.cons_append, List.nil_append, List.singleton_append, Nat.reduceAdd, Nat.zero_add, Nat.add_zero, Nat.reduceEqDiff, ↓reduceIte, ite_true, ite_false, reduceCtorEq, Int.cast_ofNat_Int, Int.reduceAdd, Int.reduceToNat, ne_eq, false_imp_iff, true_imp_iff, cl_156, bf_156_0, bf_156_10, bf_156_36, bf_156_39, bo_156_0, bo_156_10, bo_156_36, bo_156_39, hS, hs, hw]
  refine k_isNode hS hs ?_
  simp (disch := omega) only [e_q0, e_nil, e_cons, e_q, e_qf, e_qt, e_af, z_hd, z_mk1, z_lg, z_s1, z_s2, z_kl, z_en, z_kI, z_fv, z_ic, z_c1, z_sh, z_pop, z_rc, z_tgt, z_tsw, z_lsw, z_nw, z_ac, o_kI, o_kL, o_ldi, o_ldl, o_lda, o_sti, o_sta, o_stl, o_inc, o_b2, o_bz, o_l2, o_lz, o_ls, o_lneg, o_i2l, o_l2i, o_lcmp, o_dup, o_dupx1, o_dup2, o_if, o_if2, o_ifnull, o_get, o_put, o_iald, o_zald, o_aald, o_alen, o_iast, o_zast, o_aast, o_new, o_newa, o_call, o_call1, o_callN, o_obj, o_reti, o_retl, o_ret, o_tsw, o_lsw, va_rf_s, va_rf_n, z_u2_s, z_u2_k, z_u2_f, z_uR_f, z_uL_f, e_ix, e_vp, e_lt, e_le, e_eq, e_lt0, e_eq0, e_b0, e_b1, e_10, e_11, true_or, or_true, false_or, nI_add, z_bi_0, z_bi_1, e_bb, z_uR_s, z_uR_k, z_uL_s, z_uL_k, true_and, and_true, and_self, not_true_eq_false, not_false_eq_true, forall_const, Option.toList, List.cons_append, List.nil_append, List.singleton_append, Nat.reduceAdd, Nat.zero_add, Nat.add_zero, Nat.reduceEqDiff, ↓reduceIte, ite_true, ite_false, reduceCtorEq, Int.cast_ofNat_Int, Int.reduceAdd, Int.reduceToNat, ne_eq, false_imp_iff, true_imp_iff, cl_156, bf_156_0, bf_156_10, bf_156_36, bf_156_39, bo_156_0, bo_156_10, bo_156_36, bo_156_39, hS, hs, hw]
  refine ⟨fun c => ?_, fun c => ?_⟩
  · rw [c] at hQ
    exact hQ _ hM fun _ _ => rfl
  rw [Bool.not_eq_false] at c
  rw [c] at hQ
  obtain ⟨i, hi, rfl⟩ := f_idx_t (by omega) c
  rw [e_ix (by omega)] at hQ
  refine k_inI (by omega) (by omega) ?_
  simp (disch := omega) only [e_q0, e_nil, e_cons, e_q, e_qf, e_qt, e_af, z_hd, z_mk1, z_lg, z_s1, z_s2, z_kl, z_en, z_kI, z_fv, z_ic, z_c1, z_sh, z_pop, z_rc, z_tgt, z_tsw, z_lsw, z_nw, z_ac, o_kI, o_kL, o_ldi, o_ldl, o_lda, o_sti, o_sta, o_stl, o_inc, o_b2, o_bz, o_l2, o_lz, o_ls, o_lneg, o_i2l, o_l2i, o_lcmp, o_dup, o_dupx1, o_dup2, o_if, o_if2, o_ifnull, o_get, o_put, o_iald, o_zald, o_aald, o_alen, o_iast, o_zast, o_aast, o_new, o_newa, o_call, o_call1, o_callN, o_obj, o_reti, o_retl, o_ret, o_tsw, o_lsw, va_rf_s, va_rf_n, z_u2_s, z_u2_k, z_u2_f, z_uR_f, z_uL_f, e_ix, e_vp, e_lt, e_le, e_eq, e_lt0, e_eq0, e_b0, e_b1, e_10, e_11, true_or, or_true, false_or, nI_add, z_bi_0, z_bi_1, e_bb, z_uR_s, z_uR_k, z_uL_s, z_uL_k, true_and, and_true, and_self, not_true_eq_false, not_false_eq_true, forall_const, Option.toList, List.cons_append, List.nil_append, List.singleton_append, Nat.reduceAdd, Nat.zero_add, Nat.add_zero, Nat.reduceEqDiff, ↓reduceIte, ite_true, ite_false, reduceCtorEq, Int.cast_ofNat_Int, Int.reduceAdd, Int.reduceToNat, ne_eq, false_imp_iff, true_imp_iff, cl_156, bf_156_0, bf_156_10, bf_156_36, bf_156_39, bo_156_0, bo_156_10, bo_156_36, bo_156_39, hS, hs, hw]
  refine ⟨fun c2 => ?_, fun c2 => ?_⟩
  · rw [c2] at hQ
    exact hQ _ hM fun _ _ => rfl
  rw [Bool.not_eq_false] at c2
  rw [c2] at hQ
  obtain ⟨d, _, hd, rfl⟩ := f_in_t (by omega) (by omega) c2
  rw [e_ix (by omega)] at hQ
  refine k_inI (by omega) (by omega) ?_
  simp (disch := omega) only [e_q0, e_nil, e_cons, e_q, e_qf, e_qt, e_af, z_hd, z_mk1, z_lg, z_s1, z_s2, z_kl, z_en, z_kI, z_fv, z_ic, z_c1, z_sh, z_pop, z_rc, z_tgt, z_tsw, z_lsw, z_nw, z_ac, o_kI, o_kL, o_ldi, o_ldl, o_lda, o_sti, o_sta, o_stl, o_inc, o_b2, o_bz, o_l2, o_lz, o_ls, o_lneg, o_i2l, o_l2i, o_lcmp, o_dup, o_dupx1, o_dup2, o_if, o_if2, o_ifnull, o_get, o_put, o_iald, o_zald, o_aald, o_alen, o_iast, o_zast, o_aast, o_new, o_newa, o_call, o_call1, o_callN, o_obj, o_reti, o_retl, o_ret, o_tsw, o_lsw, va_rf_s, va_rf_n, z_u2_s, z_u2_k, z_u2_f, z_uR_f, z_uL_f, e_ix, e_vp, e_lt, e_le, e_eq, e_lt0, e_eq0, e_b0, e_b1, e_10, e_11, true_or, or_true, false_or, nI_add, z_bi_0, z_bi_1, e_bb, z_uR_s, z_uR_k, z_uL_s, z_uL_k, true_and, and_true, and_self, not_true_eq_false, not_false_eq_true, forall_const, Option.toList, List.cons_append, List.nil_append, List.singleton_append, Nat.reduceAdd, Nat.zero_add, Nat.add_zero, Nat.reduceEqDiff, ↓reduceIte, ite_true, ite_false, reduceCtorEq, Int.cast_ofNat_Int, Int.reduceAdd, Int.reduceToNat, ne_eq, false_imp_iff, true_imp_iff, cl_156, bf_156_0, bf_156_10, bf_156_36, bf_156_39, bo_156_0, bo_156_10, bo_156_36, bo_156_39, hS, hs, hw]
  refine ⟨fun c3 => ?_, fun c3 => ?_⟩
  · rw [c3] at hQ
    exact hQ _ hM fun _ _ => rfl
  rw [Bool.not_eq_false] at c3
  rw [c3] at hQ
  refine k_copyT hS hM hW fun f hf hf2 hf3 => ?_
  simp (disch := omega) only [e_q0, e_nil, e_cons, e_q, e_qf, e_qt, e_af, z_hd, z_mk1, z_lg, z_s1, z_s2, z_kl, z_en, z_kI, z_fv, z_ic, z_c1, z_sh, z_pop, z_rc, z_tgt, z_tsw, z_lsw, z_nw, z_ac, o_kI, o_kL, o_ldi, o_ldl, o_lda, o_sti, o_sta, o_stl, o_inc, o_b2, o_bz, o_l2, o_lz, o_ls, o_lneg, o_i2l, o_l2i, o_lcmp, o_dup, o_dupx1, o_dup2, o_if, o_if2, o_ifnull, o_get, o_put, o_iald, o_zald, o_aald, o_alen, o_iast, o_zast, o_aast, o_new, o_newa, o_call, o_call1, o_callN, o_obj, o_reti, o_retl, o_ret, o_tsw, o_lsw, va_rf_s, va_rf_n, z_u2_s, z_u2_k, z_u2_f, z_uR_f, z_uL_f, e_ix, e_vp, e_lt, e_le, e_eq, e_lt0, e_eq0, e_b0, e_b1, e_10, e_11, true_or, or_true, false_or, nI_add, z_bi_0, z_bi_1, e_bb, z_uR_s, z_uR_k, z_uL_s, z_uL_k, true_and, and_true, and_self, not_true_eq_false, not_false_eq_true, forall_const, Option.toList, List.cons_append, List.nil_append, List.singleton_append, Nat.reduceAdd, Nat.zero_add, Nat.add_zero, Nat.reduceEqDiff, ↓reduceIte, ite_true, ite_false, reduceCtorEq, Int.cast_ofNat_Int, Int.reduceAdd, Int.reduceToNat, ne_eq, false_imp_iff, true_imp_iff, cl_156, bf_156_0, bf_156_10, bf_156_36, bf_156_39, bo_156_0, bo_156_10, bo_156_36, bo_156_39, hS, hs, hw]
  refine k_tryT hS hf hW.1 (by omega) hf2 hW.2.1 fun g hg hg2 hg3 => ?_
  simp (disch := omega) only [e_q0, e_nil, e_cons, e_q, e_qf, e_qt, e_af, z_hd, z_mk1, z_lg, z_s1, z_s2, z_kl, z_en, z_kI, z_fv, z_ic, z_c1, z_sh, z_pop, z_rc, z_tgt, z_tsw, z_lsw, z_nw, z_ac, o_kI, o_kL, o_ldi, o_ldl, o_lda, o_sti, o_sta, o_stl, o_inc, o_b2, o_bz, o_l2, o_lz, o_ls, o_lneg, o_i2l, o_l2i, o_lcmp, o_dup, o_dupx1, o_dup2, o_if, o_if2, o_ifnull, o_get, o_put, o_iald, o_zald, o_aald, o_alen, o_iast, o_zast, o_aast, o_new, o_newa, o_call, o_call1, o_callN, o_obj, o_reti, o_retl, o_ret, o_tsw, o_lsw, va_rf_s, va_rf_n, z_u2_s, z_u2_k, z_u2_f, z_uR_f, z_uL_f, e_ix, e_vp, e_lt, e_le, e_eq, e_lt0, e_eq0, e_b0, e_b1, e_10, e_11, true_or, or_true, false_or, nI_add, z_bi_0, z_bi_1, e_bb, z_uR_s, z_uR_k, z_uL_s, z_uL_k, true_and, and_true, and_self, not_true_eq_false, not_false_eq_true, forall_const, Option.toList, List.cons_append, List.nil_append, List.singleton_append, Nat.reduceAdd, Nat.zero_add, Nat.add_zero, Nat.reduceEqDiff, ↓reduceIte, ite_true, ite_false, reduceCtorEq, Int.cast_ofNat_Int, Int.reduceAdd, Int.reduceToNat, ne_eq, false_imp_iff, true_imp_iff, cl_156, bf_156_0, bf_156_10, bf_156_36, bf_156_39, bo_156_0, bo_156_10, bo_156_36, bo_156_39, hS, hs, hw]
  refine k_tell (w := 382) hS hg.1 (by rw [hS.1.2.2.2.2.2.2.2.2.2.1]) hi (by rw [hg2]; exact (f_gos_rok h8 _ _ hW.2.1).2.1) ?_
  simp (disch := omega) only [e_q0, e_nil, e_cons, e_q, e_qf, e_qt, e_af, z_hd, z_mk1, z_lg, z_s1, z_s2, z_kl, z_en, z_kI, z_fv, z_ic, z_c1, z_sh, z_pop, z_rc, z_tgt, z_tsw, z_lsw, z_nw, z_ac, o_kI, o_kL, o_ldi, o_ldl, o_lda, o_sti, o_sta, o_stl, o_inc, o_b2, o_bz, o_l2, o_lz, o_ls, o_lneg, o_i2l, o_l2i, o_lcmp, o_dup, o_dupx1, o_dup2, o_if, o_if2, o_ifnull, o_get, o_put, o_iald, o_zald, o_aald, o_alen, o_iast, o_zast, o_aast, o_new, o_newa, o_call, o_call1, o_callN, o_obj, o_reti, o_retl, o_ret, o_tsw, o_lsw, va_rf_s, va_rf_n, z_u2_s, z_u2_k, z_u2_f, z_uR_f, z_uL_f, e_ix, e_vp, e_lt, e_le, e_eq, e_lt0, e_eq0, e_b0, e_b1, e_10, e_11, true_or, or_true, false_or, nI_add, z_bi_0, z_bi_1, e_bb, z_uR_s, z_uR_k, z_uL_s, z_uL_k, true_and, and_true, and_self, not_true_eq_false, not_false_eq_true, forall_const, Option.toList, List.cons_append, List.nil_append, List.singleton_append, Nat.reduceAdd, Nat.zero_add, Nat.add_zero, Nat.reduceEqDiff, ↓reduceIte, ite_true, ite_false, reduceCtorEq, Int.cast_ofNat_Int, Int.reduceAdd, Int.reduceToNat, ne_eq, false_imp_iff, true_imp_iff, cl_156, bf_156_0, bf_156_10, bf_156_36, bf_156_39, bo_156_0, bo_156_10, bo_156_36, bo_156_39, hS, hs, hw]
  rw [hg2, hg.2.2.1.2.2.2]
  exact hQ g hg fun c hc => by rw [hg3 _ (by omega) (by omega), hf3 _ (by omega)]
theorem k_unsee (hS : SM T mr) (hM : PA A mi ml) (hQ : ∀ f, PA (a_unsee A).2 f ml → (∀ c, c < 373 → f c = mi c) → Q (some (.int (a_unsee A).1)) (f, mr, ml, T)) : z_Ok l G m_Model_unsee [.ref 373] (mi, mr, ml, T) Q := by
  have hs := hM.1
  obtain ⟨a1, a2, a3, a4, a5, a6, a7⟩ := id hM
  refine z_okN cz_165.1 (by rw [cl_165]; exact Nat.le_of_ble_eq_true rfl) cz_165.2 (z_run ck_165 2 bf_165_0 ?_)
  simp (disch := omega) only [e_q0, e_nil, e_cons, e_q, e_qf, e_qt, e_af, z_hd, z_mk1, z_lg, z_s1, z_s2, z_kl, z_en, z_kI, z_fv, z_ic, z_c1, z_sh, z_pop, z_rc, z_tgt, z_tsw, z_lsw, z_nw, z_ac, o_kI, o_kL, o_ldi, o_ldl, o_lda, o_sti, o_sta, o_stl, o_inc, o_b2, o_bz, o_l2, o_lz, o_ls, o_lneg, o_i2l, o_l2i, o_lcmp, o_dup, o_dupx1, o_dup2, o_if, o_if2, o_ifnull, o_get, o_put, o_iald, o_zald, o_aald, o_alen, o_iast, o_zast, o_aast, o_new, o_newa, o_call, o_call1, o_callN, o_obj, o_reti, o_retl, o_ret, o_tsw, o_lsw, va_rf_s, va_rf_n, z_u2_s, z_u2_k, z_u2_f, z_uR_f, z_uL_f, e_ix, e_vp, e_lt, e_le, e_eq, e_lt0, e_eq0, e_b0, e_b1, e_10, e_11, true_or, or_true, false_or, nI_add, z_bi_0, z_bi_1, e_bb, z_uR_s, z_uR_k, z_uL_s, z_uL_k, true_and, and_true, and_self, not_true_eq_false, not_false_eq_true, forall_const, Option.toList, List.cons_append, List.nil_append, List.singleton_append, Nat.reduceAdd, Nat.zero_add, Nat.add_zero, Nat.reduceEqDiff, ↓reduceIte, ite_true, ite_false, reduceCtorEq, Int.cast_ofNat_Int, Int.reduceAdd, Int.reduceToNat, ne_eq, false_imp_iff, true_imp_iff, cl_165, bf_165_0, bo_165_0, hS, a6.1]
  refine hQ _ ?_ fun c hc => by rw [z_u2_f (by omega)]
  have e1 : ∀ c, c ≠ 373 → z_u2 mi 373 21 (nI 0) c = mi c := fun c hc => z_u2_f hc
  have e2 : ∀ j, j ≠ 21 → z_u2 mi 373 21 (nI 0) 373 j = mi 373 j := fun j hj => z_u2_k hj
  obtain ⟨b1, b2⟩ := PM.base hM (f := z_u2 mi 373 21 (nI 0)) ⟨e2 _ (by omega), e2 _ (by omega), e2 _ (by omega)⟩ (fun c _ _ => e1 c (by omega))
  refine ⟨b1, b2, ?_, ?_, ?_, ⟨z_u2_s, Nat.zero_le _, fun j hj => absurd hj (Nat.not_lt_zero _)⟩, a7⟩
  · rw [e1 381 (by omega), e1 382 (by omega), e1 383 (by omega), e2 23 (by omega)]; exact a3
  · rw [e1 384 (by omega), e2 14 (by omega), e2 15 (by omega)]; exact a4
  · rw [e1 385 (by omega), e1 386 (by omega)]; exact a5
theorem k_see {x n i : Int32} (hS : SM T mr) (hM : PA A mi ml) (hQ : ∀ f, PA (a_see A x n i).2 f ml → (∀ c, c < 373 → f c = mi c) → Q (some (.int (a_see A x n i).1)) (f, mr, ml, T)) : z_Ok l G m_Model_see [.ref 373, .int x, .int n, .int i] (mi, mr, ml, T) Q := by
  have hs := hM.1
  have hw := hS.now
  have h8 := hs.2
  obtain ⟨a1, a2, a3, a4, a5, ⟨a6, a6b, a6c⟩, a7⟩ := id hM
  unfold a_see at hQ
  refine z_okN cz_164.1 (by rw [cl_164]; exact Nat.le_of_ble_eq_true rfl) cz_164.2 (z_run ck_164 6 bf_164_0 ?_)
  simp (disch := omega) only [e_q0, e_nil, e_cons, e_q, e_qf, e_qt, e_af, z_hd, z_mk1, z_lg, z_s1, z_s2, z_kl, z_en, z_kI, z_fv, z_ic, z_c1, z_sh, z_pop, z_rc, z_tgt, z_tsw, z_lsw, z_nw, z_ac, o_kI, o_kL, o_ldi, o_ldl, o_lda, o_sti, o_sta, o_stl, o_inc, o_b2, o_bz, o_l2, o_lz, o_ls, o_lneg, o_i2l, o_l2i, o_lcmp, o_dup, o_dupx1, o_dup2, o_if, o_if2, o_ifnull, o_get, o_put, o_iald, o_zald, o_aald, o_alen, o_iast, o_zast, o_aast, o_new, o_newa, o_call, o_call1, o_callN, o_obj, o_reti, o_retl, o_ret, o_tsw, o_lsw, va_rf_s, va_rf_n, z_u2_s, z_u2_k, z_u2_f, z_uR_f, z_uL_f, e_ix, e_vp, e_lt, e_le, e_eq, e_lt0, e_eq0, e_b0, e_b1, e_10, e_11, true_or, or_true, false_or, nI_add, z_bi_0, z_bi_1, e_bb, z_uR_s, z_uR_k, z_uL_s, z_uL_k, true_and, and_true, and_self, not_true_eq_false, not_false_eq_true, forall_const, Option.toList, List.cons_append, List.nil_append, List.singleton_append, Nat.reduceAdd, Nat.zero_add, Nat.add_zero, Nat.reduceEqDiff, ↓reduceIte, ite_true, ite_false, reduceCtorEq, Int.cast_ofNat_Int, Int.reduceAdd, Int.reduceToNat, ne_eq, false_imp_iff, true_imp_iff, cl_164, bf_164_0, bf_164_10, bf_164_32, bf_164_35, bf_164_47, bo_164_0, bo_164_10, bo_164_32, bo_164_35, bo_164_47, hS, hs, hw]
  refine k_isNode hS hs ?_
  simp (disch := omega) only [e_q0, e_nil, e_cons, e_q, e_qf, e_qt, e_af, z_hd, z_mk1, z_lg, z_s1, z_s2, z_kl, z_en, z_kI, z_fv, z_ic, z_c1, z_sh, z_pop, z_rc, z_tgt, z_tsw, z_lsw, z_nw, z_ac, o_kI, o_kL, o_ldi, o_ldl, o_lda, o_sti, o_sta, o_stl, o_inc, o_b2, o_bz, o_l2, o_lz, o_ls, o_lneg, o_i2l, o_l2i, o_lcmp, o_dup, o_dupx1, o_dup2, o_if, o_if2, o_ifnull, o_get, o_put, o_iald, o_zald, o_aald, o_alen, o_iast, o_zast, o_aast, o_new, o_newa, o_call, o_call1, o_callN, o_obj, o_reti, o_retl, o_ret, o_tsw, o_lsw, va_rf_s, va_rf_n, z_u2_s, z_u2_k, z_u2_f, z_uR_f, z_uL_f, e_ix, e_vp, e_lt, e_le, e_eq, e_lt0, e_eq0, e_b0, e_b1, e_10, e_11, true_or, or_true, false_or, nI_add, z_bi_0, z_bi_1, e_bb, z_uR_s, z_uR_k, z_uL_s, z_uL_k, true_and, and_true, and_self, not_true_eq_false, not_false_eq_true, forall_const, Option.toList, List.cons_append, List.nil_append, List.singleton_append, Nat.reduceAdd, Nat.zero_add, Nat.add_zero, Nat.reduceEqDiff, ↓reduceIte, ite_true, ite_false, reduceCtorEq, Int.cast_ofNat_Int, Int.reduceAdd, Int.reduceToNat, ne_eq, false_imp_iff, true_imp_iff, cl_164, bf_164_0, bf_164_10, bf_164_32, bf_164_35, bf_164_47, bo_164_0, bo_164_10, bo_164_32, bo_164_35, bo_164_47, hS, hs, hw]
  refine ⟨fun c => ?_, fun c => ?_⟩
  · rw [c] at hQ
    exact hQ _ hM fun _ _ => rfl
  rw [Bool.not_eq_false] at c
  rw [c] at hQ
  refine k_inI (by omega) (by omega) ?_
  simp (disch := omega) only [e_q0, e_nil, e_cons, e_q, e_qf, e_qt, e_af, z_hd, z_mk1, z_lg, z_s1, z_s2, z_kl, z_en, z_kI, z_fv, z_ic, z_c1, z_sh, z_pop, z_rc, z_tgt, z_tsw, z_lsw, z_nw, z_ac, o_kI, o_kL, o_ldi, o_ldl, o_lda, o_sti, o_sta, o_stl, o_inc, o_b2, o_bz, o_l2, o_lz, o_ls, o_lneg, o_i2l, o_l2i, o_lcmp, o_dup, o_dupx1, o_dup2, o_if, o_if2, o_ifnull, o_get, o_put, o_iald, o_zald, o_aald, o_alen, o_iast, o_zast, o_aast, o_new, o_newa, o_call, o_call1, o_callN, o_obj, o_reti, o_retl, o_ret, o_tsw, o_lsw, va_rf_s, va_rf_n, z_u2_s, z_u2_k, z_u2_f, z_uR_f, z_uL_f, e_ix, e_vp, e_lt, e_le, e_eq, e_lt0, e_eq0, e_b0, e_b1, e_10, e_11, true_or, or_true, false_or, nI_add, z_bi_0, z_bi_1, e_bb, z_uR_s, z_uR_k, z_uL_s, z_uL_k, true_and, and_true, and_self, not_true_eq_false, not_false_eq_true, forall_const, Option.toList, List.cons_append, List.nil_append, List.singleton_append, Nat.reduceAdd, Nat.zero_add, Nat.add_zero, Nat.reduceEqDiff, ↓reduceIte, ite_true, ite_false, reduceCtorEq, Int.cast_ofNat_Int, Int.reduceAdd, Int.reduceToNat, ne_eq, false_imp_iff, true_imp_iff, cl_164, bf_164_0, bf_164_10, bf_164_32, bf_164_35, bf_164_47, bo_164_0, bo_164_10, bo_164_32, bo_164_35, bo_164_47, hS, hs, hw]
  refine ⟨fun c2 => ?_, fun c2 => ?_⟩
  · rw [c2] at hQ
    exact hQ _ hM fun _ _ => rfl
  rw [Bool.not_eq_false] at c2
  rw [c2] at hQ
  refine k_inI (by omega) (by omega) ?_
  simp (disch := omega) only [e_q0, e_nil, e_cons, e_q, e_qf, e_qt, e_af, z_hd, z_mk1, z_lg, z_s1, z_s2, z_kl, z_en, z_kI, z_fv, z_ic, z_c1, z_sh, z_pop, z_rc, z_tgt, z_tsw, z_lsw, z_nw, z_ac, o_kI, o_kL, o_ldi, o_ldl, o_lda, o_sti, o_sta, o_stl, o_inc, o_b2, o_bz, o_l2, o_lz, o_ls, o_lneg, o_i2l, o_l2i, o_lcmp, o_dup, o_dupx1, o_dup2, o_if, o_if2, o_ifnull, o_get, o_put, o_iald, o_zald, o_aald, o_alen, o_iast, o_zast, o_aast, o_new, o_newa, o_call, o_call1, o_callN, o_obj, o_reti, o_retl, o_ret, o_tsw, o_lsw, va_rf_s, va_rf_n, z_u2_s, z_u2_k, z_u2_f, z_uR_f, z_uL_f, e_ix, e_vp, e_lt, e_le, e_eq, e_lt0, e_eq0, e_b0, e_b1, e_10, e_11, true_or, or_true, false_or, nI_add, z_bi_0, z_bi_1, e_bb, z_uR_s, z_uR_k, z_uL_s, z_uL_k, true_and, and_true, and_self, not_true_eq_false, not_false_eq_true, forall_const, Option.toList, List.cons_append, List.nil_append, List.singleton_append, Nat.reduceAdd, Nat.zero_add, Nat.add_zero, Nat.reduceEqDiff, ↓reduceIte, ite_true, ite_false, reduceCtorEq, Int.cast_ofNat_Int, Int.reduceAdd, Int.reduceToNat, ne_eq, false_imp_iff, true_imp_iff, cl_164, bf_164_0, bf_164_10, bf_164_32, bf_164_35, bf_164_47, bo_164_0, bo_164_10, bo_164_32, bo_164_35, bo_164_47, hS, hs, hw, a6]
  refine ⟨fun c3 => ?_, fun c3 => ?_⟩
  · rw [c3] at hQ
    exact hQ _ hM fun _ _ => rfl
  rw [Bool.not_eq_false] at c3
  rw [c3] at hQ
  refine ⟨fun c4 => ?_, fun c4 => ?_⟩
  · simp only [c4, Bool.and_self, ↓reduceIte] at hQ
    exact hQ _ hM fun _ _ => rfl
  simp only [c4, Bool.and_self, ↓reduceIte] at hQ
  have ho : A.o < 6 := by omega
  rw [e_vp ho (by omega)]
  refine ⟨trivial, trivial, trivial, ?_⟩
  generalize hg : z_u2 (z_u2 (z_u2 (z_u2 mi 387 A.o x) 388 A.o n) 389 A.o i) 373 21 (nI (A.o + 1)) = g
  have e1 : ∀ c, c ≠ 373 → c ≠ 387 → c ≠ 388 → c ≠ 389 → g c = mi c := fun c c1 c2 c3 c4 => by rw [← hg, z_u2_f c1, z_u2_f c4, z_u2_f c3, z_u2_f c2]
  have e2 : ∀ j, j ≠ 21 → g 373 j = mi 373 j := fun j hj => by rw [← hg, z_u2_k hj, z_u2_a (by omega), z_u2_a (by omega), z_u2_a (by omega)]
  have e3 : g 373 21 = nI (A.o + 1) := by rw [← hg]; exact z_u2_s
  have e4 : ∀ j, g 387 j = if j = A.o then x else mi 387 j := fun j => by
    rw [← hg, z_u2_a (by omega), z_u2_a (by omega), z_u2_a (by omega)]
    by_cases q : j = A.o
    · rw [q, z_u2_s, if_pos rfl]
    · rw [z_u2_k q, if_neg q]
  have e5 : ∀ j, g 388 j = if j = A.o then n else mi 388 j := fun j => by
    rw [← hg, z_u2_a (by omega), z_u2_a (by omega)]
    by_cases q : j = A.o
    · rw [q, z_u2_s, if_pos rfl]
    · rw [z_u2_k q, if_neg q, z_u2_a (by omega)]
  have e6 : ∀ j, g 389 j = if j = A.o then i else mi 389 j := fun j => by
    rw [← hg, z_u2_a (by omega)]
    by_cases q : j = A.o
    · rw [q, z_u2_s, if_pos rfl]
    · rw [z_u2_k q, if_neg q, z_u2_a (by omega), z_u2_a (by omega)]
  refine hQ g ?_ fun c hc => e1 c (by omega) (by omega) (by omega) (by omega)
  obtain ⟨b1, b2⟩ := PM.base hM (f := g) ⟨e2 _ (by omega), e2 _ (by omega), e2 _ (by omega)⟩ (fun c _ _ => e1 c (by omega) (by omega) (by omega) (by omega))
  refine ⟨b1, b2, ?_, ?_, ?_, ⟨e3, ho, fun j hj => ?_⟩, a7⟩
  · rw [e1 381 (by omega) (by omega) (by omega) (by omega), e1 382 (by omega) (by omega) (by omega) (by omega), e1 383 (by omega) (by omega) (by omega) (by omega), e2 23 (by omega)]; exact a3
  · rw [e1 384 (by omega) (by omega) (by omega) (by omega), e2 14 (by omega), e2 15 (by omega)]; exact a4
  · rw [e1 385 (by omega) (by omega) (by omega) (by omega), e1 386 (by omega) (by omega) (by omega) (by omega)]; exact a5
  · rw [e4, e5, e6]
    have hj' : j < A.o + 1 := hj
    by_cases q : j = A.o
    · simp only [ZA.O, q, ↓reduceIte, and_self, Nat.reduceEqDiff]
    · simp only [ZA.O, if_neg q]
      exact a6c j (by omega)
theorem k_undo (hS : SM T mr) (hM : PA A mi ml) (hW : WA A) (hQ : ∀ f, PA (a_undo A).2 f ml → (∀ c, c < 373 → f c = mi c) → Q (some (.int (a_undo A).1)) (f, mr, ml, T)) : z_Ok l G m_Model_undo [.ref 373] (mi, mr, ml, T) Q := by
  have hs := hM.1
  obtain ⟨a1, a2, a3, ⟨a4, a4b, p, hp, a4c, a4d⟩, a5, a6, a7⟩ := id hM
  refine z_okN cz_155.1 (by rw [cl_155]; exact Nat.le_of_ble_eq_true rfl) cz_155.2 (z_run ck_155 4 bf_155_0 ?_)
  simp (disch := omega) only [e_q0, e_nil, e_cons, e_q, e_qf, e_qt, e_af, z_hd, z_mk1, z_lg, z_s1, z_s2, z_kl, z_en, z_kI, z_fv, z_ic, z_c1, z_sh, z_pop, z_rc, z_tgt, z_tsw, z_lsw, z_nw, z_ac, o_kI, o_kL, o_ldi, o_ldl, o_lda, o_sti, o_sta, o_stl, o_inc, o_b2, o_bz, o_l2, o_lz, o_ls, o_lneg, o_i2l, o_l2i, o_lcmp, o_dup, o_dupx1, o_dup2, o_if, o_if2, o_ifnull, o_get, o_put, o_iald, o_zald, o_aald, o_alen, o_iast, o_zast, o_aast, o_new, o_newa, o_call, o_call1, o_callN, o_obj, o_reti, o_retl, o_ret, o_tsw, o_lsw, va_rf_s, va_rf_n, z_u2_s, z_u2_k, z_u2_f, z_uR_f, z_uL_f, e_ix, e_vp, e_lt, e_le, e_eq, e_lt0, e_eq0, e_b0, e_b1, e_10, e_11, true_or, or_true, false_or, nI_add, z_bi_0, z_bi_1, e_bb, z_uR_s, z_uR_k, z_uL_s, z_uL_k, true_and, and_true, and_self, not_true_eq_false, not_false_eq_true, forall_const, Option.toList, List.cons_append, List.nil_append, List.singleton_append, Nat.reduceAdd, Nat.zero_add, Nat.add_zero, Nat.reduceEqDiff, ↓reduceIte, ite_true, ite_false, reduceCtorEq, Int.cast_ofNat_Int, Int.reduceAdd, Int.reduceToNat, ne_eq, false_imp_iff, true_imp_iff, cl_155, bf_155_0, bf_155_10, bf_155_38, bf_155_70, bo_155_0, bo_155_10, bo_155_38, bo_155_70, hS, a4, a4c]
  refine ⟨fun c => ?_, fun c => ?_⟩
  · unfold a_undo at hQ
    rw [if_pos c] at hQ
    exact hQ _ hM fun _ _ => rfl
  unfold a_undo at hQ
  rw [if_neg c] at hQ
  rw [pk_sub (by omega : 1 ≤ p + 14), show z_rem (nI (p + 14 - 1)) (nI 14) = nI ((p + 14 - 1) % 14) from pk_rem (by omega) (by omega) (by omega), pk_sub (by omega : 1 ≤ A.h)]
  have hq : (p + 14 - 1) % 14 < 14 := Nat.mod_lt _ (by omega)
  have hL : ∀ j, j + 1 < A.h → ∀ k, k < 78 → mi 384 (78 * (((p + 14 - 1) % 14 + 13 - j) % 14) + k) = A.H (j + 1) k := fun j hj k hk => by
    rw [show ((p + 14 - 1) % 14 + 13 - j) % 14 = (p + 13 - (j + 1)) % 14 by omega]
    exact a4d _ hj k hk
  have h0 : ∀ k, k < 78 → mi 384 (78 * ((p + 14 - 1) % 14) + k) = A.H 0 k := fun k hk => by
    rw [show (p + 14 - 1) % 14 = (p + 13 - 0) % 14 by omega]
    exact a4d _ (by omega) k hk
  generalize hqe : (p + 14 - 1) % 14 = q at hq hL h0 ⊢
  generalize hg : z_u2 (z_u2 mi 373 14 (nI (A.h - 1))) 373 15 (nI q) = g
  have e1 : ∀ c, c ≠ 373 → g c = mi c := fun c c1 => by rw [← hg, z_u2_f c1, z_u2_f c1]
  have e2 : ∀ j, j ≠ 14 → j ≠ 15 → g 373 j = mi 373 j := fun j c1 c2 => by rw [← hg, z_u2_k c2, z_u2_k c1]
  have e3 : g 373 15 = nI q := by rw [← hg]; exact z_u2_s
  have e4 : g 373 14 = nI (A.h - 1) := by rw [← hg, z_u2_k (by omega)]; exact z_u2_s
  refine z_for (P := fun k f => (∀ c j, f c j = if c = 381 then (if j < k then A.H 0 j else A.r j) else g c j) → z_W l G 155 (T.2.1, T.2.2) (fun v M' => Q v M' ∧ M'.2.2.2 = T) 38 [some (.ref 373), some (.int (nI k))] [] (f, mr, ml, T)) 78 (fun f hf => ?_) (fun k hk ih f hf => ?_) 0 (by omega) g (fun c j => by
    by_cases q : c = 381
    · rw [if_pos q, if_neg (Nat.not_lt_zero _), q, e1 _ (by omega), a3.1]
    · rw [if_neg q])
  · have f3 : f 373 = g 373 := z_sw hf (by omega)
    have f1 : ∀ c, c ≠ 373 → c ≠ 381 → f c = mi c := fun c c1 c2 => by rw [z_sw hf c2, e1 c c1]
    refine z_run ck_155 4 bf_155_38 ?_
    simp (disch := omega) only [e_q0, e_nil, e_cons, e_q, e_qf, e_qt, e_af, z_hd, z_mk1, z_lg, z_s1, z_s2, z_kl, z_en, z_kI, z_fv, z_ic, z_c1, z_sh, z_pop, z_rc, z_tgt, z_tsw, z_lsw, z_nw, z_ac, o_kI, o_kL, o_ldi, o_ldl, o_lda, o_sti, o_sta, o_stl, o_inc, o_b2, o_bz, o_l2, o_lz, o_ls, o_lneg, o_i2l, o_l2i, o_lcmp, o_dup, o_dupx1, o_dup2, o_if, o_if2, o_ifnull, o_get, o_put, o_iald, o_zald, o_aald, o_alen, o_iast, o_zast, o_aast, o_new, o_newa, o_call, o_call1, o_callN, o_obj, o_reti, o_retl, o_ret, o_tsw, o_lsw, va_rf_s, va_rf_n, z_u2_s, z_u2_k, z_u2_f, z_uR_f, z_uL_f, e_ix, e_vp, e_lt, e_le, e_eq, e_lt0, e_eq0, e_b0, e_b1, e_10, e_11, true_or, or_true, false_or, nI_add, z_bi_0, z_bi_1, e_bb, z_uR_s, z_uR_k, z_uL_s, z_uL_k, true_and, and_true, and_self, not_true_eq_false, not_false_eq_true, forall_const, Option.toList, List.cons_append, List.nil_append, List.singleton_append, Nat.reduceAdd, Nat.zero_add, Nat.add_zero, Nat.reduceEqDiff, ↓reduceIte, ite_true, ite_false, reduceCtorEq, Int.cast_ofNat_Int, Int.reduceAdd, Int.reduceToNat, ne_eq, false_imp_iff, true_imp_iff, cl_155, bf_155_0, bf_155_10, bf_155_38, bf_155_70, bo_155_0, bo_155_10, bo_155_38, bo_155_70, hS, f3, e4, Nat.le_refl]
    refine hQ f ?_ fun c hc => f1 c (by omega) (by omega)
    obtain ⟨b1, b2⟩ := PM.base hM (f := f) ⟨by rw [f3, e2 _ (by omega) (by omega)], by rw [f3, e2 _ (by omega) (by omega)], by rw [f3, e2 _ (by omega) (by omega)]⟩ (fun c _ _ => f1 c (by omega) (by omega))
    refine ⟨b1, b2, ⟨?_, ?_, ?_, ?_⟩, ⟨by rw [f3]; exact e4, Nat.le_trans (Nat.sub_le _ _) a4b, q, hq, by rw [f3]; exact e3, fun j hj k hk => ?_⟩, ?_, ⟨?_, ?_⟩, a7⟩
    · funext j
      rw [hf, if_pos rfl]
      by_cases q : j < 78
      · rw [if_pos q]
      · rw [if_neg q, hW.2.1.2.2 j (by omega)]
        exact ((hW.2.2.1 0 (by omega)).2.2 j (by omega)).symm
    · rw [f1 _ (by omega) (by omega)]; exact a3.2.1
    · rw [f1 _ (by omega) (by omega)]; exact a3.2.2.1
    · rw [f3, e2 _ (by omega) (by omega)]; exact a3.2.2.2
    · rw [f1 _ (by omega) (by omega)]
      have hj' : j < A.h - 1 := hj
      exact hL j (by omega) k hk
    · rw [f1 _ (by omega) (by omega), f1 _ (by omega) (by omega)]; exact a5
    · rw [f3, e2 _ (by omega) (by omega)]; exact a6.1
    · rw [f1 387 (by omega) (by omega), f1 388 (by omega) (by omega), f1 389 (by omega) (by omega)]; exact a6.2
  · have f3 : f 373 = g 373 := z_sw hf (by omega)
    have f4 : f 384 = mi 384 := by rw [z_sw hf (by omega), e1 _ (by omega)]
    refine z_run ck_155 4 bf_155_38 ?_
    simp (disch := omega) only [e_q0, e_nil, e_cons, e_q, e_qf, e_qt, e_af, z_hd, z_mk1, z_lg, z_s1, z_s2, z_kl, z_en, z_kI, z_fv, z_ic, z_c1, z_sh, z_pop, z_rc, z_tgt, z_tsw, z_lsw, z_nw, z_ac, o_kI, o_kL, o_ldi, o_ldl, o_lda, o_sti, o_sta, o_stl, o_inc, o_b2, o_bz, o_l2, o_lz, o_ls, o_lneg, o_i2l, o_l2i, o_lcmp, o_dup, o_dupx1, o_dup2, o_if, o_if2, o_ifnull, o_get, o_put, o_iald, o_zald, o_aald, o_alen, o_iast, o_zast, o_aast, o_new, o_newa, o_call, o_call1, o_callN, o_obj, o_reti, o_retl, o_ret, o_tsw, o_lsw, va_rf_s, va_rf_n, z_u2_s, z_u2_k, z_u2_f, z_uR_f, z_uL_f, e_ix, e_vp, e_lt, e_le, e_eq, e_lt0, e_eq0, e_b0, e_b1, e_10, e_11, true_or, or_true, false_or, nI_add, z_bi_0, z_bi_1, e_bb, z_uR_s, z_uR_k, z_uL_s, z_uL_k, true_and, and_true, and_self, not_true_eq_false, not_false_eq_true, forall_const, Option.toList, List.cons_append, List.nil_append, List.singleton_append, Nat.reduceAdd, Nat.zero_add, Nat.add_zero, Nat.reduceEqDiff, ↓reduceIte, ite_true, ite_false, reduceCtorEq, Int.cast_ofNat_Int, Int.reduceAdd, Int.reduceToNat, ne_eq, false_imp_iff, true_imp_iff, cl_155, bf_155_0, bf_155_10, bf_155_38, bf_155_70, bo_155_0, bo_155_10, bo_155_38, bo_155_70, hS, f3, f4, e3, pk_mul, Nat.not_le.mpr, hk]
    rw [h0 k hk]
    refine ih _ (z_rw (z_ru hf) fun j => ?_)
    by_cases q : j = k
    · rw [if_pos q, if_pos (by omega), q]
    · rw [if_neg q]
      by_cases q2 : j < k
      · rw [if_pos q2, if_pos (by omega)]
      · rw [if_neg q2, if_neg (by omega)]
theorem k_keep {x : Int32} (hS : SM T mr) (hM : PA A mi ml) (hQ : ∀ f, PA (a_keep A x).2 f ml → (∀ c, c < 373 → f c = mi c) → Q (some (.int (a_keep A x).1)) (f, mr, ml, T)) : z_Ok l G m_Model_keep [.ref 373, .int x] (mi, mr, ml, T) Q := by
  have hs := hM.1
  obtain ⟨a1, a2, a3, a4, a5, a6, a7⟩ := id hM
  unfold a_keep at hQ
  refine z_okN cz_173.1 (by rw [cl_173]; exact Nat.le_of_ble_eq_true rfl) cz_173.2 (z_run ck_173 4 bf_173_0 ?_)
  simp (disch := omega) only [e_q0, e_nil, e_cons, e_q, e_qf, e_qt, e_af, z_hd, z_mk1, z_lg, z_s1, z_s2, z_kl, z_en, z_kI, z_fv, z_ic, z_c1, z_sh, z_pop, z_rc, z_tgt, z_tsw, z_lsw, z_nw, z_ac, o_kI, o_kL, o_ldi, o_ldl, o_lda, o_sti, o_sta, o_stl, o_inc, o_b2, o_bz, o_l2, o_lz, o_ls, o_lneg, o_i2l, o_l2i, o_lcmp, o_dup, o_dupx1, o_dup2, o_if, o_if2, o_ifnull, o_get, o_put, o_iald, o_zald, o_aald, o_alen, o_iast, o_zast, o_aast, o_new, o_newa, o_call, o_call1, o_callN, o_obj, o_reti, o_retl, o_ret, o_tsw, o_lsw, va_rf_s, va_rf_n, z_u2_s, z_u2_k, z_u2_f, z_uR_f, z_uL_f, e_ix, e_vp, e_lt, e_le, e_eq, e_lt0, e_eq0, e_b0, e_b1, e_10, e_11, true_or, or_true, false_or, nI_add, z_bi_0, z_bi_1, e_bb, z_uR_s, z_uR_k, z_uL_s, z_uL_k, true_and, and_true, and_self, not_true_eq_false, not_false_eq_true, forall_const, Option.toList, List.cons_append, List.nil_append, List.singleton_append, Nat.reduceAdd, Nat.zero_add, Nat.add_zero, Nat.reduceEqDiff, ↓reduceIte, ite_true, ite_false, reduceCtorEq, Int.cast_ofNat_Int, Int.reduceAdd, Int.reduceToNat, ne_eq, false_imp_iff, true_imp_iff, cl_173, bf_173_0, bf_173_12, bf_173_21, bf_173_50, bo_173_0, bo_173_12, bo_173_21, bo_173_50, hS]
  refine k_inI (by omega) (by omega) ?_
  simp (disch := omega) only [e_q0, e_nil, e_cons, e_q, e_qf, e_qt, e_af, z_hd, z_mk1, z_lg, z_s1, z_s2, z_kl, z_en, z_kI, z_fv, z_ic, z_c1, z_sh, z_pop, z_rc, z_tgt, z_tsw, z_lsw, z_nw, z_ac, o_kI, o_kL, o_ldi, o_ldl, o_lda, o_sti, o_sta, o_stl, o_inc, o_b2, o_bz, o_l2, o_lz, o_ls, o_lneg, o_i2l, o_l2i, o_lcmp, o_dup, o_dupx1, o_dup2, o_if, o_if2, o_ifnull, o_get, o_put, o_iald, o_zald, o_aald, o_alen, o_iast, o_zast, o_aast, o_new, o_newa, o_call, o_call1, o_callN, o_obj, o_reti, o_retl, o_ret, o_tsw, o_lsw, va_rf_s, va_rf_n, z_u2_s, z_u2_k, z_u2_f, z_uR_f, z_uL_f, e_ix, e_vp, e_lt, e_le, e_eq, e_lt0, e_eq0, e_b0, e_b1, e_10, e_11, true_or, or_true, false_or, nI_add, z_bi_0, z_bi_1, e_bb, z_uR_s, z_uR_k, z_uL_s, z_uL_k, true_and, and_true, and_self, not_true_eq_false, not_false_eq_true, forall_const, Option.toList, List.cons_append, List.nil_append, List.singleton_append, Nat.reduceAdd, Nat.zero_add, Nat.add_zero, Nat.reduceEqDiff, ↓reduceIte, ite_true, ite_false, reduceCtorEq, Int.cast_ofNat_Int, Int.reduceAdd, Int.reduceToNat, ne_eq, false_imp_iff, true_imp_iff, cl_173, bf_173_0, bf_173_12, bf_173_21, bf_173_50, bo_173_0, bo_173_12, bo_173_21, bo_173_50, hS]
  refine ⟨fun c => ?_, fun c => ?_⟩
  · rw [c] at hQ
    exact hQ _ hM fun _ _ => rfl
  rw [Bool.not_eq_false] at c
  rw [c] at hQ
  obtain ⟨t, _, ht, rfl⟩ := f_in_t (by omega) (by omega) c
  rw [e_ix (by omega)] at hQ
  simp (disch := omega) only [e_q0, e_nil, e_cons, e_q, e_qf, e_qt, e_af, z_hd, z_mk1, z_lg, z_s1, z_s2, z_kl, z_en, z_kI, z_fv, z_ic, z_c1, z_sh, z_pop, z_rc, z_tgt, z_tsw, z_lsw, z_nw, z_ac, o_kI, o_kL, o_ldi, o_ldl, o_lda, o_sti, o_sta, o_stl, o_inc, o_b2, o_bz, o_l2, o_lz, o_ls, o_lneg, o_i2l, o_l2i, o_lcmp, o_dup, o_dupx1, o_dup2, o_if, o_if2, o_ifnull, o_get, o_put, o_iald, o_zald, o_aald, o_alen, o_iast, o_zast, o_aast, o_new, o_newa, o_call, o_call1, o_callN, o_obj, o_reti, o_retl, o_ret, o_tsw, o_lsw, va_rf_s, va_rf_n, z_u2_s, z_u2_k, z_u2_f, z_uR_f, z_uL_f, e_ix, e_vp, e_lt, e_le, e_eq, e_lt0, e_eq0, e_b0, e_b1, e_10, e_11, true_or, or_true, false_or, nI_add, z_bi_0, z_bi_1, e_bb, z_uR_s, z_uR_k, z_uL_s, z_uL_k, true_and, and_true, and_self, not_true_eq_false, not_false_eq_true, forall_const, Option.toList, List.cons_append, List.nil_append, List.singleton_append, Nat.reduceAdd, Nat.zero_add, Nat.add_zero, Nat.reduceEqDiff, ↓reduceIte, ite_true, ite_false, reduceCtorEq, Int.cast_ofNat_Int, Int.reduceAdd, Int.reduceToNat, ne_eq, false_imp_iff, true_imp_iff, cl_173, bf_173_0, bf_173_12, bf_173_21, bf_173_50, bo_173_0, bo_173_12, bo_173_21, bo_173_50, hS]
  have u1 : ∀ c, c ≠ 386 → z_u2 mi 386 t (nI 1) c = mi c := fun c hc => z_u2_f hc
  have u2 : z_u2 mi 386 t (nI 1) 386 t = nI 1 := z_u2_s
  have u3 : ∀ j, j ≠ t → z_u2 mi 386 t (nI 1) 386 j = mi 386 j := fun j hj => z_u2_k hj
  generalize z_u2 mi 386 t (nI 1) = g at u1 u2 u3
  refine z_for (P := fun k f => (∀ c j, f c j = if c = 385 then (if 78 * t ≤ j ∧ j < 78 * t + k then A.r (j - 78 * t) else mi 385 j) else g c j) → z_W l G 173 (T.2.1, T.2.2) (fun v M' => Q v M' ∧ M'.2.2.2 = T) 21 [some (.ref 373), some (.int (nI t)), some (.int (nI k))] [] (f, mr, ml, T)) 78 (fun f hf => ?_) (fun k hk ih f hf => ?_) 0 (by omega) g (fun c j => by
    by_cases q : c = 385
    · rw [if_pos q, if_neg (by omega), q, u1 _ (by omega)]
    · rw [if_neg q])
  · have f1 : ∀ c, c ≠ 385 → c ≠ 386 → f c = mi c := fun c c1 c2 => by rw [z_sw hf c1, u1 c c2]
    have f2 : f 386 = g 386 := z_sw hf (by omega)
    refine z_run ck_173 4 bf_173_21 ?_
    simp (disch := omega) only [e_q0, e_nil, e_cons, e_q, e_qf, e_qt, e_af, z_hd, z_mk1, z_lg, z_s1, z_s2, z_kl, z_en, z_kI, z_fv, z_ic, z_c1, z_sh, z_pop, z_rc, z_tgt, z_tsw, z_lsw, z_nw, z_ac, o_kI, o_kL, o_ldi, o_ldl, o_lda, o_sti, o_sta, o_stl, o_inc, o_b2, o_bz, o_l2, o_lz, o_ls, o_lneg, o_i2l, o_l2i, o_lcmp, o_dup, o_dupx1, o_dup2, o_if, o_if2, o_ifnull, o_get, o_put, o_iald, o_zald, o_aald, o_alen, o_iast, o_zast, o_aast, o_new, o_newa, o_call, o_call1, o_callN, o_obj, o_reti, o_retl, o_ret, o_tsw, o_lsw, va_rf_s, va_rf_n, z_u2_s, z_u2_k, z_u2_f, z_uR_f, z_uL_f, e_ix, e_vp, e_lt, e_le, e_eq, e_lt0, e_eq0, e_b0, e_b1, e_10, e_11, true_or, or_true, false_or, nI_add, z_bi_0, z_bi_1, e_bb, z_uR_s, z_uR_k, z_uL_s, z_uL_k, true_and, and_true, and_self, not_true_eq_false, not_false_eq_true, forall_const, Option.toList, List.cons_append, List.nil_append, List.singleton_append, Nat.reduceAdd, Nat.zero_add, Nat.add_zero, Nat.reduceEqDiff, ↓reduceIte, ite_true, ite_false, reduceCtorEq, Int.cast_ofNat_Int, Int.reduceAdd, Int.reduceToNat, ne_eq, false_imp_iff, true_imp_iff, cl_173, bf_173_0, bf_173_12, bf_173_21, bf_173_50, bo_173_0, bo_173_12, bo_173_21, bo_173_50, hS, Nat.le_refl]
    rw [f1 381 (by omega) (by omega), a3.1]
    refine hQ f ?_ fun c hc => f1 c (by omega) (by omega)
    obtain ⟨b1, b2⟩ := PM.base hM (f := f) ⟨by rw [f1 _ (by omega) (by omega)], by rw [f1 _ (by omega) (by omega)], by rw [f1 _ (by omega) (by omega)]⟩ (fun c _ _ => f1 c (by omega) (by omega))
    refine ⟨b1, b2, ?_, ?_, fun t' ht' => ⟨?_, fun k hk => ?_⟩, ?_, a7⟩
    · rw [f1 381 (by omega) (by omega), f1 382 (by omega) (by omega), f1 383 (by omega) (by omega), f1 373 (by omega) (by omega)]; exact a3
    · rw [f1 373 (by omega) (by omega), f1 384 (by omega) (by omega)]; exact a4
    · rw [f2]
      by_cases q : t' = t
      · rw [q, u2]; exact (if_pos rfl).symm
      · rw [u3 _ q, (a5 t' ht').1]; exact (if_neg q).symm
    · rw [hf, if_pos rfl]
      by_cases q : t' = t
      · rw [q, if_pos (by omega)]
        simp only [ZA.K, ↓reduceIte]
        congr 1
        omega
      · rw [if_neg (by omega), (a5 t' ht').2 k hk]
        show A.K t' k = (if t' = t then A.r else A.K t') k
        rw [if_neg q]
    · rw [f1 373 (by omega) (by omega), f1 387 (by omega) (by omega), f1 388 (by omega) (by omega), f1 389 (by omega) (by omega)]; exact a6
  · have f1 : ∀ c, c ≠ 385 → c ≠ 386 → f c = mi c := fun c c1 c2 => by rw [z_sw hf c1, u1 c c2]
    have f3 : f 381 = A.r := by rw [f1 _ (by omega) (by omega), a3.1]
    refine z_run ck_173 4 bf_173_21 ?_
    simp (disch := omega) only [e_q0, e_nil, e_cons, e_q, e_qf, e_qt, e_af, z_hd, z_mk1, z_lg, z_s1, z_s2, z_kl, z_en, z_kI, z_fv, z_ic, z_c1, z_sh, z_pop, z_rc, z_tgt, z_tsw, z_lsw, z_nw, z_ac, o_kI, o_kL, o_ldi, o_ldl, o_lda, o_sti, o_sta, o_stl, o_inc, o_b2, o_bz, o_l2, o_lz, o_ls, o_lneg, o_i2l, o_l2i, o_lcmp, o_dup, o_dupx1, o_dup2, o_if, o_if2, o_ifnull, o_get, o_put, o_iald, o_zald, o_aald, o_alen, o_iast, o_zast, o_aast, o_new, o_newa, o_call, o_call1, o_callN, o_obj, o_reti, o_retl, o_ret, o_tsw, o_lsw, va_rf_s, va_rf_n, z_u2_s, z_u2_k, z_u2_f, z_uR_f, z_uL_f, e_ix, e_vp, e_lt, e_le, e_eq, e_lt0, e_eq0, e_b0, e_b1, e_10, e_11, true_or, or_true, false_or, nI_add, z_bi_0, z_bi_1, e_bb, z_uR_s, z_uR_k, z_uL_s, z_uL_k, true_and, and_true, and_self, not_true_eq_false, not_false_eq_true, forall_const, Option.toList, List.cons_append, List.nil_append, List.singleton_append, Nat.reduceAdd, Nat.zero_add, Nat.add_zero, Nat.reduceEqDiff, ↓reduceIte, ite_true, ite_false, reduceCtorEq, Int.cast_ofNat_Int, Int.reduceAdd, Int.reduceToNat, ne_eq, false_imp_iff, true_imp_iff, cl_173, bf_173_0, bf_173_12, bf_173_21, bf_173_50, bo_173_0, bo_173_12, bo_173_21, bo_173_50, hS, f3, pk_mul, Nat.not_le.mpr, hk]
    refine ih _ (z_rw (z_ru hf) fun j => ?_)
    by_cases q : j = 78 * t + k
    · rw [if_pos q, if_pos (by omega), q]
      congr 1
      omega
    · rw [if_neg q]
      by_cases q2 : 78 * t ≤ j ∧ j < 78 * t + k
      · rw [if_pos q2, if_pos (by omega)]
      · rw [if_neg q2, if_neg (by omega)]
theorem k_again {x : Int32} (hS : SM T mr) (hM : PA A mi ml) (hW : WA A) (hQ : ∀ f, PA (a_again A x).2 f ml → (∀ c, c < 373 → f c = mi c) → Q (some (.int (a_again A x).1)) (f, mr, ml, T)) : z_Ok l G m_Model_again [.ref 373, .int x] (mi, mr, ml, T) Q := by
  have hs := hM.1
  obtain ⟨a1, a2, a3, a4, a5, a6, a7⟩ := id hM
  unfold a_again at hQ
  refine z_okN cz_174.1 (by rw [cl_174]; exact Nat.le_of_ble_eq_true rfl) cz_174.2 (z_run ck_174 5 bf_174_0 ?_)
  simp (disch := omega) only [e_q0, e_nil, e_cons, e_q, e_qf, e_qt, e_af, z_hd, z_mk1, z_lg, z_s1, z_s2, z_kl, z_en, z_kI, z_fv, z_ic, z_c1, z_sh, z_pop, z_rc, z_tgt, z_tsw, z_lsw, z_nw, z_ac, o_kI, o_kL, o_ldi, o_ldl, o_lda, o_sti, o_sta, o_stl, o_inc, o_b2, o_bz, o_l2, o_lz, o_ls, o_lneg, o_i2l, o_l2i, o_lcmp, o_dup, o_dupx1, o_dup2, o_if, o_if2, o_ifnull, o_get, o_put, o_iald, o_zald, o_aald, o_alen, o_iast, o_zast, o_aast, o_new, o_newa, o_call, o_call1, o_callN, o_obj, o_reti, o_retl, o_ret, o_tsw, o_lsw, va_rf_s, va_rf_n, z_u2_s, z_u2_k, z_u2_f, z_uR_f, z_uL_f, e_ix, e_vp, e_lt, e_le, e_eq, e_lt0, e_eq0, e_b0, e_b1, e_10, e_11, true_or, or_true, false_or, nI_add, z_bi_0, z_bi_1, e_bb, z_uR_s, z_uR_k, z_uL_s, z_uL_k, true_and, and_true, and_self, not_true_eq_false, not_false_eq_true, forall_const, Option.toList, List.cons_append, List.nil_append, List.singleton_append, Nat.reduceAdd, Nat.zero_add, Nat.add_zero, Nat.reduceEqDiff, ↓reduceIte, ite_true, ite_false, reduceCtorEq, Int.cast_ofNat_Int, Int.reduceAdd, Int.reduceToNat, ne_eq, false_imp_iff, true_imp_iff, cl_174, bf_174_0, bf_174_12, bf_174_24, bf_174_26, bf_174_55, bo_174_0, bo_174_12, bo_174_24, bo_174_26, bo_174_55, hS]
  refine k_inI (by omega) (by omega) ?_
  simp (disch := omega) only [e_q0, e_nil, e_cons, e_q, e_qf, e_qt, e_af, z_hd, z_mk1, z_lg, z_s1, z_s2, z_kl, z_en, z_kI, z_fv, z_ic, z_c1, z_sh, z_pop, z_rc, z_tgt, z_tsw, z_lsw, z_nw, z_ac, o_kI, o_kL, o_ldi, o_ldl, o_lda, o_sti, o_sta, o_stl, o_inc, o_b2, o_bz, o_l2, o_lz, o_ls, o_lneg, o_i2l, o_l2i, o_lcmp, o_dup, o_dupx1, o_dup2, o_if, o_if2, o_ifnull, o_get, o_put, o_iald, o_zald, o_aald, o_alen, o_iast, o_zast, o_aast, o_new, o_newa, o_call, o_call1, o_callN, o_obj, o_reti, o_retl, o_ret, o_tsw, o_lsw, va_rf_s, va_rf_n, z_u2_s, z_u2_k, z_u2_f, z_uR_f, z_uL_f, e_ix, e_vp, e_lt, e_le, e_eq, e_lt0, e_eq0, e_b0, e_b1, e_10, e_11, true_or, or_true, false_or, nI_add, z_bi_0, z_bi_1, e_bb, z_uR_s, z_uR_k, z_uL_s, z_uL_k, true_and, and_true, and_self, not_true_eq_false, not_false_eq_true, forall_const, Option.toList, List.cons_append, List.nil_append, List.singleton_append, Nat.reduceAdd, Nat.zero_add, Nat.add_zero, Nat.reduceEqDiff, ↓reduceIte, ite_true, ite_false, reduceCtorEq, Int.cast_ofNat_Int, Int.reduceAdd, Int.reduceToNat, ne_eq, false_imp_iff, true_imp_iff, cl_174, bf_174_0, bf_174_12, bf_174_24, bf_174_26, bf_174_55, bo_174_0, bo_174_12, bo_174_24, bo_174_26, bo_174_55, hS]
  refine ⟨fun c => ?_, fun c => ?_⟩
  · rw [c] at hQ
    exact hQ _ hM fun _ _ => rfl
  rw [Bool.not_eq_false] at c
  rw [c] at hQ
  obtain ⟨t, _, ht, rfl⟩ := f_in_t (by omega) (by omega) c
  rw [e_ix (by omega)] at hQ
  have b5 := (a5 t (by omega)).1
  simp (disch := omega) only [e_q0, e_nil, e_cons, e_q, e_qf, e_qt, e_af, z_hd, z_mk1, z_lg, z_s1, z_s2, z_kl, z_en, z_kI, z_fv, z_ic, z_c1, z_sh, z_pop, z_rc, z_tgt, z_tsw, z_lsw, z_nw, z_ac, o_kI, o_kL, o_ldi, o_ldl, o_lda, o_sti, o_sta, o_stl, o_inc, o_b2, o_bz, o_l2, o_lz, o_ls, o_lneg, o_i2l, o_l2i, o_lcmp, o_dup, o_dupx1, o_dup2, o_if, o_if2, o_ifnull, o_get, o_put, o_iald, o_zald, o_aald, o_alen, o_iast, o_zast, o_aast, o_new, o_newa, o_call, o_call1, o_callN, o_obj, o_reti, o_retl, o_ret, o_tsw, o_lsw, va_rf_s, va_rf_n, z_u2_s, z_u2_k, z_u2_f, z_uR_f, z_uL_f, e_ix, e_vp, e_lt, e_le, e_eq, e_lt0, e_eq0, e_b0, e_b1, e_10, e_11, true_or, or_true, false_or, nI_add, z_bi_0, z_bi_1, e_bb, z_uR_s, z_uR_k, z_uL_s, z_uL_k, true_and, and_true, and_self, not_true_eq_false, not_false_eq_true, forall_const, Option.toList, List.cons_append, List.nil_append, List.singleton_append, Nat.reduceAdd, Nat.zero_add, Nat.add_zero, Nat.reduceEqDiff, ↓reduceIte, ite_true, ite_false, reduceCtorEq, Int.cast_ofNat_Int, Int.reduceAdd, Int.reduceToNat, ne_eq, false_imp_iff, true_imp_iff, cl_174, bf_174_0, bf_174_12, bf_174_24, bf_174_26, bf_174_55, bo_174_0, bo_174_12, bo_174_24, bo_174_26, bo_174_55, hS, b5]
  refine ⟨fun c3 => ?_, fun c3 => ?_⟩
  · simp only [c3, ↓reduceIte] at hQ
    exact hQ _ hM fun _ _ => rfl
  simp only [c3, ↓reduceIte] at hQ
  have hk1 : A.fl t = nI 1 := ((hW.2.2.2 t (by omega)).1).resolve_left c3
  have hkk := (hW.2.2.2 t (by omega)).2 hk1
  refine z_for (P := fun k f => (∀ c j, f c j = if c = 381 then (if j < k then A.K t j else A.r j) else mi c j) → z_W l G 174 (T.2.1, T.2.2) (fun v M' => Q v M' ∧ M'.2.2.2 = T) 26 [some (.ref 373), some (.int (nI t)), some (.int (nI k))] [] (f, mr, ml, T)) 78 (fun f hf => ?_) (fun k hk ih f hf => ?_) 0 (by omega) mi (fun c j => by
    by_cases q : c = 381
    · rw [if_pos q, if_neg (Nat.not_lt_zero _), q, a3.1]
    · rw [if_neg q])
  · have f1 : ∀ c, c ≠ 381 → f c = mi c := fun c c1 => z_sw hf c1
    have f2 : f 381 = A.K t := by
      funext j
      rw [hf, if_pos rfl]
      by_cases q : j < 78
      · rw [if_pos q]
      · rw [if_neg q, hW.2.1.2.2 j (by omega)]
        exact (hkk.2.2 j (by omega)).symm
    refine z_run ck_174 5 bf_174_26 ?_
    simp (disch := omega) only [e_q0, e_nil, e_cons, e_q, e_qf, e_qt, e_af, z_hd, z_mk1, z_lg, z_s1, z_s2, z_kl, z_en, z_kI, z_fv, z_ic, z_c1, z_sh, z_pop, z_rc, z_tgt, z_tsw, z_lsw, z_nw, z_ac, o_kI, o_kL, o_ldi, o_ldl, o_lda, o_sti, o_sta, o_stl, o_inc, o_b2, o_bz, o_l2, o_lz, o_ls, o_lneg, o_i2l, o_l2i, o_lcmp, o_dup, o_dupx1, o_dup2, o_if, o_if2, o_ifnull, o_get, o_put, o_iald, o_zald, o_aald, o_alen, o_iast, o_zast, o_aast, o_new, o_newa, o_call, o_call1, o_callN, o_obj, o_reti, o_retl, o_ret, o_tsw, o_lsw, va_rf_s, va_rf_n, z_u2_s, z_u2_k, z_u2_f, z_uR_f, z_uL_f, e_ix, e_vp, e_lt, e_le, e_eq, e_lt0, e_eq0, e_b0, e_b1, e_10, e_11, true_or, or_true, false_or, nI_add, z_bi_0, z_bi_1, e_bb, z_uR_s, z_uR_k, z_uL_s, z_uL_k, true_and, and_true, and_self, not_true_eq_false, not_false_eq_true, forall_const, Option.toList, List.cons_append, List.nil_append, List.singleton_append, Nat.reduceAdd, Nat.zero_add, Nat.add_zero, Nat.reduceEqDiff, ↓reduceIte, ite_true, ite_false, reduceCtorEq, Int.cast_ofNat_Int, Int.reduceAdd, Int.reduceToNat, ne_eq, false_imp_iff, true_imp_iff, cl_174, bf_174_0, bf_174_12, bf_174_24, bf_174_26, bf_174_55, bo_174_0, bo_174_12, bo_174_24, bo_174_26, bo_174_55, hS, Nat.le_refl]
    rw [f2]
    have u1 : ∀ c, c ≠ 373 → c ≠ 381 → z_u2 f 373 14 (nI 0) c = mi c := fun c c1 c2 => by rw [z_u2_f c1, f1 c c2]
    have u2 : ∀ j, j ≠ 14 → z_u2 f 373 14 (nI 0) 373 j = mi 373 j := fun j hj => by rw [z_u2_k hj, f1 _ (by omega)]
    have u3 : z_u2 f 373 14 (nI 0) 373 14 = nI 0 := z_u2_s
    have u4 : z_u2 f 373 14 (nI 0) 381 = A.K t := by rw [z_u2_f (by omega), f2]
    generalize z_u2 f 373 14 (nI 0) = g at u1 u2 u3 u4
    refine hQ g ?_ fun c hc => u1 c (by omega) (by omega)
    obtain ⟨b1, b2⟩ := PM.base hM (f := g) ⟨u2 _ (by omega), u2 _ (by omega), u2 _ (by omega)⟩ (fun c _ _ => u1 c (by omega) (by omega))
    refine ⟨b1, b2, ⟨u4, ?_, ?_, ?_⟩, ⟨u3, Nat.zero_le _, ?_⟩, ?_, ?_, a7⟩
    · rw [u1 _ (by omega) (by omega)]; exact a3.2.1
    · rw [u1 _ (by omega) (by omega)]; exact a3.2.2.1
    · rw [u2 _ (by omega)]; exact a3.2.2.2
    · obtain ⟨p, hp, hp2, _⟩ := a4.2.2
      exact ⟨p, hp, by rw [u2 _ (by omega)]; exact hp2, fun j hj => absurd hj (Nat.not_lt_zero _)⟩
    · rw [u1 385 (by omega) (by omega), u1 386 (by omega) (by omega)]; exact a5
    · rw [u2 21 (by omega), u1 387 (by omega) (by omega), u1 388 (by omega) (by omega), u1 389 (by omega) (by omega)]; exact a6
  · have f4 : f 385 = mi 385 := z_sw hf (by omega)
    have b6 := (a5 t (by omega)).2 k hk
    refine z_run ck_174 5 bf_174_26 ?_
    simp (disch := omega) only [e_q0, e_nil, e_cons, e_q, e_qf, e_qt, e_af, z_hd, z_mk1, z_lg, z_s1, z_s2, z_kl, z_en, z_kI, z_fv, z_ic, z_c1, z_sh, z_pop, z_rc, z_tgt, z_tsw, z_lsw, z_nw, z_ac, o_kI, o_kL, o_ldi, o_ldl, o_lda, o_sti, o_sta, o_stl, o_inc, o_b2, o_bz, o_l2, o_lz, o_ls, o_lneg, o_i2l, o_l2i, o_lcmp, o_dup, o_dupx1, o_dup2, o_if, o_if2, o_ifnull, o_get, o_put, o_iald, o_zald, o_aald, o_alen, o_iast, o_zast, o_aast, o_new, o_newa, o_call, o_call1, o_callN, o_obj, o_reti, o_retl, o_ret, o_tsw, o_lsw, va_rf_s, va_rf_n, z_u2_s, z_u2_k, z_u2_f, z_uR_f, z_uL_f, e_ix, e_vp, e_lt, e_le, e_eq, e_lt0, e_eq0, e_b0, e_b1, e_10, e_11, true_or, or_true, false_or, nI_add, z_bi_0, z_bi_1, e_bb, z_uR_s, z_uR_k, z_uL_s, z_uL_k, true_and, and_true, and_self, not_true_eq_false, not_false_eq_true, forall_const, Option.toList, List.cons_append, List.nil_append, List.singleton_append, Nat.reduceAdd, Nat.zero_add, Nat.add_zero, Nat.reduceEqDiff, ↓reduceIte, ite_true, ite_false, reduceCtorEq, Int.cast_ofNat_Int, Int.reduceAdd, Int.reduceToNat, ne_eq, false_imp_iff, true_imp_iff, cl_174, bf_174_0, bf_174_12, bf_174_24, bf_174_26, bf_174_55, bo_174_0, bo_174_12, bo_174_24, bo_174_26, bo_174_55, hS, f4, pk_mul, b6, Nat.not_le.mpr, hk]
    refine ih _ (z_rw (z_ru hf) fun j => ?_)
    by_cases q : j = k
    · rw [if_pos q, if_pos (by omega), q]
    · rw [if_neg q]
      by_cases q2 : j < k
      · rw [if_pos q2, if_pos (by omega)]
      · rw [if_neg q2, if_neg (by omega)]
theorem k_seed {v : Int64} (hS : SM T mr) (hM : PA A mi ml) (hQ : ∀ g, PA (a_seed A v).2 mi g → (∀ c, c < 373 → g c = ml c) → Q (some (.long (a_seed A v).1)) (mi, mr, g, T)) : z_Ok l G m_Model_seed [.ref 373, .long v] (mi, mr, ml, T) Q := by
  have hs := hM.1
  obtain ⟨a1, a2, a3, a4, a5, a6, a7⟩ := id hM
  refine z_okN cz_171.1 (by rw [cl_171]; exact Nat.le_of_ble_eq_true rfl) cz_171.2 (z_run ck_171 2 bf_171_0 ?_)
  simp (disch := omega) only [e_q0, e_nil, e_cons, e_q, e_qf, e_qt, e_af, z_hd, z_mk1, z_lg, z_s1, z_s2, z_kl, z_en, z_kI, z_fv, z_ic, z_c1, z_sh, z_pop, z_rc, z_tgt, z_tsw, z_lsw, z_nw, z_ac, o_kI, o_kL, o_ldi, o_ldl, o_lda, o_sti, o_sta, o_stl, o_inc, o_b2, o_bz, o_l2, o_lz, o_ls, o_lneg, o_i2l, o_l2i, o_lcmp, o_dup, o_dupx1, o_dup2, o_if, o_if2, o_ifnull, o_get, o_put, o_iald, o_zald, o_aald, o_alen, o_iast, o_zast, o_aast, o_new, o_newa, o_call, o_call1, o_callN, o_obj, o_reti, o_retl, o_ret, o_tsw, o_lsw, va_rf_s, va_rf_n, z_u2_s, z_u2_k, z_u2_f, z_uR_f, z_uL_f, e_ix, e_vp, e_lt, e_le, e_eq, e_lt0, e_eq0, e_b0, e_b1, e_10, e_11, true_or, or_true, false_or, nI_add, z_bi_0, z_bi_1, e_bb, z_uR_s, z_uR_k, z_uL_s, z_uL_k, true_and, and_true, and_self, not_true_eq_false, not_false_eq_true, forall_const, Option.toList, List.cons_append, List.nil_append, List.singleton_append, Nat.reduceAdd, Nat.zero_add, Nat.add_zero, Nat.reduceEqDiff, ↓reduceIte, ite_true, ite_false, reduceCtorEq, Int.cast_ofNat_Int, Int.reduceAdd, Int.reduceToNat, ne_eq, false_imp_iff, true_imp_iff, cl_171, bf_171_0, bo_171_0, hS, a7]
  exact hQ _ ⟨a1, a2, a3, a4, a5, a6, z_uL_s⟩ fun c hc => by rw [z_uL_f (by omega)]
end
end
