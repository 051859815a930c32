section
-- ===== PART A: goes FIRST, ahead of the names: the tables' words, and 'selects' of the private methods out of them =====
/-- a private method of a class that the tables say can be made, by its rows of tables_1 -/
def lw_okq (q : MethodName × Nat) : Prop := (q.1.cls ≠ "java/lang/invoke/MethodHandle" ∧ q.1.cls ≠ "java/lang/invoke/VarHandle") ∧ Cond.instantiable q.1.cls q.2 ∈ tables_1 ∧ Cond.privateMethod q.1 ∈ tables_1 ∧ Cond.instanceMethod q.1 ∈ tables_1
theorem lw_p0 : lw_okq (⟨"GossipMembership$World", "twoAgree", "(II)Z"⟩, 7) := ⟨⟨by decide +kernel, by decide +kernel⟩, List.mem_of_getElem? (i := 28) (by decide +kernel), List.mem_of_getElem? (i := 202) (by decide +kernel), List.mem_of_getElem? (i := 203) (by decide +kernel)⟩
theorem lw_p1 : lw_okq (⟨"GossipMembership$Knowledge", "differ", "(II)Z"⟩, 10) := ⟨⟨by decide +kernel, by decide +kernel⟩, List.mem_of_getElem? (i := 60) (by decide +kernel), List.mem_of_getElem? (i := 215) (by decide +kernel), List.mem_of_getElem? (i := 216) (by decide +kernel)⟩
theorem lw_p2 : lw_okq (⟨"java/lang/Throwable", "fillInStackTrace", "(I)Ljava/lang/Throwable;"⟩, 6) := ⟨⟨by decide +kernel, by decide +kernel⟩, List.mem_of_getElem? (i := 315) (by decide +kernel), List.mem_of_getElem? (i := 313) (by decide +kernel), List.mem_of_getElem? (i := 314) (by decide +kernel)⟩
theorem lw_p3 : lw_okq (⟨"GossipMembership$World", "introduce", "(II)V"⟩, 7) := ⟨⟨by decide +kernel, by decide +kernel⟩, List.mem_of_getElem? (i := 28) (by decide +kernel), List.mem_of_getElem? (i := 443) (by decide +kernel), List.mem_of_getElem? (i := 444) (by decide +kernel)⟩
theorem lw_p4 : lw_okq (⟨"GossipMembership$Knowledge", "outweighs", "(III)Z"⟩, 10) := ⟨⟨by decide +kernel, by decide +kernel⟩, List.mem_of_getElem? (i := 60) (by decide +kernel), List.mem_of_getElem? (i := 459) (by decide +kernel), List.mem_of_getElem? (i := 460) (by decide +kernel)⟩
theorem lw_p5 : lw_okq (⟨"GossipMembership$Knowledge", "replaceView", "(III)V"⟩, 10) := ⟨⟨by decide +kernel, by decide +kernel⟩, List.mem_of_getElem? (i := 60) (by decide +kernel), List.mem_of_getElem? (i := 463) (by decide +kernel), List.mem_of_getElem? (i := 464) (by decide +kernel)⟩
theorem lw_p6 : lw_okq (⟨"GossipMembership$World", "takeTurn", "(I)V"⟩, 7) := ⟨⟨by decide +kernel, by decide +kernel⟩, List.mem_of_getElem? (i := 28) (by decide +kernel), List.mem_of_getElem? (i := 520) (by decide +kernel), List.mem_of_getElem? (i := 521) (by decide +kernel)⟩
theorem lw_p7 : lw_okq (⟨"GossipMembership$World", "declareOverdue", "(I)V"⟩, 7) := ⟨⟨by decide +kernel, by decide +kernel⟩, List.mem_of_getElem? (i := 28) (by decide +kernel), List.mem_of_getElem? (i := 524) (by decide +kernel), List.mem_of_getElem? (i := 525) (by decide +kernel)⟩
theorem lw_p8 : lw_okq (⟨"GossipMembership$World", "drawFrom", "(I)I"⟩, 7) := ⟨⟨by decide +kernel, by decide +kernel⟩, List.mem_of_getElem? (i := 28) (by decide +kernel), List.mem_of_getElem? (i := 533) (by decide +kernel), List.mem_of_getElem? (i := 534) (by decide +kernel)⟩
theorem lw_p9 : lw_okq (⟨"GossipMembership$World", "send", "(II)V"⟩, 7) := ⟨⟨by decide +kernel, by decide +kernel⟩, List.mem_of_getElem? (i := 28) (by decide +kernel), List.mem_of_getElem? (i := 546) (by decide +kernel), List.mem_of_getElem? (i := 547) (by decide +kernel)⟩
theorem lw_p10 : lw_okq (⟨"GossipMembership$World", "helpersReach", "(II)Z"⟩, 7) := ⟨⟨by decide +kernel, by decide +kernel⟩, List.mem_of_getElem? (i := 28) (by decide +kernel), List.mem_of_getElem? (i := 554) (by decide +kernel), List.mem_of_getElem? (i := 555) (by decide +kernel)⟩
theorem lw_p11 : lw_okq (⟨"GossipMembership$CommandText", "findFaultOfCommand", "(I)I"⟩, 2) := ⟨⟨by decide +kernel, by decide +kernel⟩, List.mem_of_getElem? (i := 140) (by decide +kernel), List.mem_of_getElem? (i := 679) (by decide +kernel), List.mem_of_getElem? (i := 680) (by decide +kernel)⟩
theorem lw_p12 : lw_okq (⟨"GossipMembership", "carryOut", "(I)I"⟩, 6) := ⟨⟨by decide +kernel, by decide +kernel⟩, List.mem_of_getElem? (i := 20) (by decide +kernel), List.mem_of_getElem? (i := 697) (by decide +kernel), List.mem_of_getElem? (i := 698) (by decide +kernel)⟩
theorem lw_p13 : lw_okq (⟨"GossipMembershipModel", "sets", "(IIII)I"⟩, 12) := ⟨⟨by decide +kernel, by decide +kernel⟩, List.mem_of_getElem? (i := 765) (by decide +kernel), List.mem_of_getElem? (i := 816) (by decide +kernel), List.mem_of_getElem? (i := 817) (by decide +kernel)⟩
theorem lw_p14 : lw_okq (⟨"GossipMembershipModel", "fails", "(I)I"⟩, 12) := ⟨⟨by decide +kernel, by decide +kernel⟩, List.mem_of_getElem? (i := 765) (by decide +kernel), List.mem_of_getElem? (i := 823) (by decide +kernel), List.mem_of_getElem? (i := 824) (by decide +kernel)⟩
theorem lw_p15 : lw_okq (⟨"GossipMembershipModel", "areLinked", "(II)Z"⟩, 12) := ⟨⟨by decide +kernel, by decide +kernel⟩, List.mem_of_getElem? (i := 765) (by decide +kernel), List.mem_of_getElem? (i := 851) (by decide +kernel), List.mem_of_getElem? (i := 852) (by decide +kernel)⟩
def lw_privs_1 : List (MethodName × Nat) := [(⟨"GossipMembership$World", "twoAgree", "(II)Z"⟩, 7), (⟨"GossipMembership$Knowledge", "differ", "(II)Z"⟩, 10), (⟨"java/lang/Throwable", "fillInStackTrace", "(I)Ljava/lang/Throwable;"⟩, 6), (⟨"GossipMembership$World", "introduce", "(II)V"⟩, 7), (⟨"GossipMembership$Knowledge", "outweighs", "(III)Z"⟩, 10), (⟨"GossipMembership$Knowledge", "replaceView", "(III)V"⟩, 10), (⟨"GossipMembership$World", "takeTurn", "(I)V"⟩, 7), (⟨"GossipMembership$World", "declareOverdue", "(I)V"⟩, 7), (⟨"GossipMembership$World", "drawFrom", "(I)I"⟩, 7), (⟨"GossipMembership$World", "send", "(II)V"⟩, 7), (⟨"GossipMembership$World", "helpersReach", "(II)Z"⟩, 7), (⟨"GossipMembership$CommandText", "findFaultOfCommand", "(I)I"⟩, 2), (⟨"GossipMembership", "carryOut", "(I)I"⟩, 6), (⟨"GossipMembershipModel", "sets", "(IIII)I"⟩, 12), (⟨"GossipMembershipModel", "fails", "(I)I"⟩, 12), (⟨"GossipMembershipModel", "areLinked", "(II)Z"⟩, 12)]
theorem lw_r1 : ∀ q ∈ lw_privs_1, lw_okq q := List.forall_mem_cons.mpr ⟨lw_p0, List.forall_mem_cons.mpr ⟨lw_p1, List.forall_mem_cons.mpr ⟨lw_p2, List.forall_mem_cons.mpr ⟨lw_p3, List.forall_mem_cons.mpr ⟨lw_p4, List.forall_mem_cons.mpr ⟨lw_p5, List.forall_mem_cons.mpr ⟨lw_p6, List.forall_mem_cons.mpr ⟨lw_p7, List.forall_mem_cons.mpr ⟨lw_p8, List.forall_mem_cons.mpr ⟨lw_p9, List.forall_mem_cons.mpr ⟨lw_p10, List.forall_mem_cons.mpr ⟨lw_p11, List.forall_mem_cons.mpr ⟨lw_p12, List.forall_mem_cons.mpr ⟨lw_p13, List.forall_mem_cons.mpr ⟨lw_p14, List.forall_mem_cons.mpr ⟨lw_p15, fun _ h => absurd h List.not_mem_nil⟩⟩⟩⟩⟩⟩⟩⟩⟩⟩⟩⟩⟩⟩⟩⟩
theorem lw_p16 : lw_okq (⟨"GossipMembershipModel", "changes", "(II)V"⟩, 12) := ⟨⟨by decide +kernel, by decide +kernel⟩, List.mem_of_getElem? (i := 765) (by decide +kernel), List.mem_of_getElem? (i := 858) (by decide +kernel), List.mem_of_getElem? (i := 859) (by decide +kernel)⟩
theorem lw_p17 : lw_okq (⟨"GossipMembershipModel", "greets", "(II)V"⟩, 12) := ⟨⟨by decide +kernel, by decide +kernel⟩, List.mem_of_getElem? (i := 765) (by decide +kernel), List.mem_of_getElem? (i := 862) (by decide +kernel), List.mem_of_getElem? (i := 863) (by decide +kernel)⟩
theorem lw_p18 : lw_okq (⟨"GossipMembershipModel", "takesIn", "(IIII)Z"⟩, 12) := ⟨⟨by decide +kernel, by decide +kernel⟩, List.mem_of_getElem? (i := 765) (by decide +kernel), List.mem_of_getElem? (i := 866) (by decide +kernel), List.mem_of_getElem? (i := 867) (by decide +kernel)⟩
theorem lw_p19 : lw_okq (⟨"GossipMembershipModel", "refutes", "(III)Z"⟩, 12) := ⟨⟨by decide +kernel, by decide +kernel⟩, List.mem_of_getElem? (i := 765) (by decide +kernel), List.mem_of_getElem? (i := 870) (by decide +kernel), List.mem_of_getElem? (i := 871) (by decide +kernel)⟩
theorem lw_p20 : lw_okq (⟨"GossipMembershipModel", "becomes", "(IIII)V"⟩, 12) := ⟨⟨by decide +kernel, by decide +kernel⟩, List.mem_of_getElem? (i := 765) (by decide +kernel), List.mem_of_getElem? (i := 874) (by decide +kernel), List.mem_of_getElem? (i := 875) (by decide +kernel)⟩
theorem lw_p21 : lw_okq (⟨"GossipMembershipModel", "round1", "()V"⟩, 12) := ⟨⟨by decide +kernel, by decide +kernel⟩, List.mem_of_getElem? (i := 765) (by decide +kernel), List.mem_of_getElem? (i := 894) (by decide +kernel), List.mem_of_getElem? (i := 895) (by decide +kernel)⟩
theorem lw_p22 : lw_okq (⟨"GossipMembershipModel", "turns", "(I)V"⟩, 12) := ⟨⟨by decide +kernel, by decide +kernel⟩, List.mem_of_getElem? (i := 765) (by decide +kernel), List.mem_of_getElem? (i := 898) (by decide +kernel), List.mem_of_getElem? (i := 899) (by decide +kernel)⟩
theorem lw_p23 : lw_okq (⟨"GossipMembershipModel", "declares", "(I)V"⟩, 12) := ⟨⟨by decide +kernel, by decide +kernel⟩, List.mem_of_getElem? (i := 765) (by decide +kernel), List.mem_of_getElem? (i := 902) (by decide +kernel), List.mem_of_getElem? (i := 903) (by decide +kernel)⟩
theorem lw_p24 : lw_okq (⟨"GossipMembershipModel", "canReach", "(II)Z"⟩, 12) := ⟨⟨by decide +kernel, by decide +kernel⟩, List.mem_of_getElem? (i := 765) (by decide +kernel), List.mem_of_getElem? (i := 906) (by decide +kernel), List.mem_of_getElem? (i := 907) (by decide +kernel)⟩
theorem lw_p25 : lw_okq (⟨"GossipMembershipModel", "viewed", "(III)I"⟩, 12) := ⟨⟨by decide +kernel, by decide +kernel⟩, List.mem_of_getElem? (i := 765) (by decide +kernel), List.mem_of_getElem? (i := 910) (by decide +kernel), List.mem_of_getElem? (i := 911) (by decide +kernel)⟩
theorem lw_p26 : lw_okq (⟨"GossipMembershipModel", "drawn", "(I)I"⟩, 12) := ⟨⟨by decide +kernel, by decide +kernel⟩, List.mem_of_getElem? (i := 765) (by decide +kernel), List.mem_of_getElem? (i := 914) (by decide +kernel), List.mem_of_getElem? (i := 915) (by decide +kernel)⟩
theorem lw_p27 : lw_okq (⟨"GossipMembershipModel", "draws", "(I)I"⟩, 12) := ⟨⟨by decide +kernel, by decide +kernel⟩, List.mem_of_getElem? (i := 765) (by decide +kernel), List.mem_of_getElem? (i := 921) (by decide +kernel), List.mem_of_getElem? (i := 922) (by decide +kernel)⟩
theorem lw_p28 : lw_okq (⟨"GossipMembershipModel", "sends", "(II)V"⟩, 12) := ⟨⟨by decide +kernel, by decide +kernel⟩, List.mem_of_getElem? (i := 765) (by decide +kernel), List.mem_of_getElem? (i := 929) (by decide +kernel), List.mem_of_getElem? (i := 930) (by decide +kernel)⟩
theorem lw_p29 : lw_okq (⟨"GossipMembershipModel", "composes", "(II)V"⟩, 12) := ⟨⟨by decide +kernel, by decide +kernel⟩, List.mem_of_getElem? (i := 765) (by decide +kernel), List.mem_of_getElem? (i := 933) (by decide +kernel), List.mem_of_getElem? (i := 934) (by decide +kernel)⟩
theorem lw_p30 : lw_okq (⟨"GossipMembershipModel", "mostCounted", "(II)I"⟩, 12) := ⟨⟨by decide +kernel, by decide +kernel⟩, List.mem_of_getElem? (i := 765) (by decide +kernel), List.mem_of_getElem? (i := 937) (by decide +kernel), List.mem_of_getElem? (i := 938) (by decide +kernel)⟩
theorem lw_p31 : lw_okq (⟨"GossipMembershipModel", "isHelped", "(II)Z"⟩, 12) := ⟨⟨by decide +kernel, by decide +kernel⟩, List.mem_of_getElem? (i := 765) (by decide +kernel), List.mem_of_getElem? (i := 941) (by decide +kernel), List.mem_of_getElem? (i := 942) (by decide +kernel)⟩
def lw_privs_2 : List (MethodName × Nat) := [(⟨"GossipMembershipModel", "changes", "(II)V"⟩, 12), (⟨"GossipMembershipModel", "greets", "(II)V"⟩, 12), (⟨"GossipMembershipModel", "takesIn", "(IIII)Z"⟩, 12), (⟨"GossipMembershipModel", "refutes", "(III)Z"⟩, 12), (⟨"GossipMembershipModel", "becomes", "(IIII)V"⟩, 12), (⟨"GossipMembershipModel", "round1", "()V"⟩, 12), (⟨"GossipMembershipModel", "turns", "(I)V"⟩, 12), (⟨"GossipMembershipModel", "declares", "(I)V"⟩, 12), (⟨"GossipMembershipModel", "canReach", "(II)Z"⟩, 12), (⟨"GossipMembershipModel", "viewed", "(III)I"⟩, 12), (⟨"GossipMembershipModel", "drawn", "(I)I"⟩, 12), (⟨"GossipMembershipModel", "draws", "(I)I"⟩, 12), (⟨"GossipMembershipModel", "sends", "(II)V"⟩, 12), (⟨"GossipMembershipModel", "composes", "(II)V"⟩, 12), (⟨"GossipMembershipModel", "mostCounted", "(II)I"⟩, 12), (⟨"GossipMembershipModel", "isHelped", "(II)Z"⟩, 12)]
theorem lw_r2 : ∀ q ∈ lw_privs_2, lw_okq q := List.forall_mem_cons.mpr ⟨lw_p16, List.forall_mem_cons.mpr ⟨lw_p17, List.forall_mem_cons.mpr ⟨lw_p18, List.forall_mem_cons.mpr ⟨lw_p19, List.forall_mem_cons.mpr ⟨lw_p20, List.forall_mem_cons.mpr ⟨lw_p21, List.forall_mem_cons.mpr ⟨lw_p22, List.forall_mem_cons.mpr ⟨lw_p23, List.forall_mem_cons.mpr ⟨lw_p24, List.forall_mem_cons.mpr ⟨lw_p25, List.forall_mem_cons.mpr ⟨lw_p26, List.forall_mem_cons.mpr ⟨lw_p27, List.forall_mem_cons.mpr ⟨lw_p28, List.forall_mem_cons.mpr ⟨lw_p29, List.forall_mem_cons.mpr ⟨lw_p30, List.forall_mem_cons.mpr ⟨lw_p31, fun _ h => absurd h List.not_mem_nil⟩⟩⟩⟩⟩⟩⟩⟩⟩⟩⟩⟩⟩⟩⟩⟩
theorem lw_p32 : lw_okq (⟨"GossipMembershipModel", "doAgree", "()Z"⟩, 12) := ⟨⟨by decide +kernel, by decide +kernel⟩, List.mem_of_getElem? (i := 765) (by decide +kernel), List.mem_of_getElem? (i := 949) (by decide +kernel), List.mem_of_getElem? (i := 950) (by decide +kernel)⟩
theorem lw_p33 : lw_okq (⟨"GossipMembershipModel", "allDifferences", "()I"⟩, 12) := ⟨⟨by decide +kernel, by decide +kernel⟩, List.mem_of_getElem? (i := 765) (by decide +kernel), List.mem_of_getElem? (i := 953) (by decide +kernel), List.mem_of_getElem? (i := 954) (by decide +kernel)⟩
theorem lw_p34 : lw_okq (⟨"GossipMembershipModel", "differences", "(II)I"⟩, 12) := ⟨⟨by decide +kernel, by decide +kernel⟩, List.mem_of_getElem? (i := 765) (by decide +kernel), List.mem_of_getElem? (i := 957) (by decide +kernel), List.mem_of_getElem? (i := 958) (by decide +kernel)⟩
theorem lw_p35 : lw_okq (⟨"GossipMembershipModel", "knows", "(II)Z"⟩, 12) := ⟨⟨by decide +kernel, by decide +kernel⟩, List.mem_of_getElem? (i := 765) (by decide +kernel), List.mem_of_getElem? (i := 961) (by decide +kernel), List.mem_of_getElem? (i := 962) (by decide +kernel)⟩
theorem lw_p36 : lw_okq (⟨"GossipMembershipModel", "viewRefusal", "(II)I"⟩, 12) := ⟨⟨by decide +kernel, by decide +kernel⟩, List.mem_of_getElem? (i := 765) (by decide +kernel), List.mem_of_getElem? (i := 989) (by decide +kernel), List.mem_of_getElem? (i := 990) (by decide +kernel)⟩
theorem lw_p37 : lw_okq (⟨"GossipMembershipModel", "plain", "(I)I"⟩, 12) := ⟨⟨by decide +kernel, by decide +kernel⟩, List.mem_of_getElem? (i := 765) (by decide +kernel), List.mem_of_getElem? (i := 1025) (by decide +kernel), List.mem_of_getElem? (i := 1026) (by decide +kernel)⟩
theorem lw_p38 : lw_okq (⟨"GossipMembershipModel", "script", "(Z)I"⟩, 12) := ⟨⟨by decide +kernel, by decide +kernel⟩, List.mem_of_getElem? (i := 765) (by decide +kernel), List.mem_of_getElem? (i := 1053) (by decide +kernel), List.mem_of_getElem? (i := 1054) (by decide +kernel)⟩
theorem lw_p39 : lw_okq (⟨"GossipMembershipModel", "command", "(Z)V"⟩, 12) := ⟨⟨by decide +kernel, by decide +kernel⟩, List.mem_of_getElem? (i := 765) (by decide +kernel), List.mem_of_getElem? (i := 1057) (by decide +kernel), List.mem_of_getElem? (i := 1058) (by decide +kernel)⟩
theorem lw_p40 : lw_okq (⟨"GossipMembershipModel", "here", "()I"⟩, 12) := ⟨⟨by decide +kernel, by decide +kernel⟩, List.mem_of_getElem? (i := 765) (by decide +kernel), List.mem_of_getElem? (i := 1061) (by decide +kernel), List.mem_of_getElem? (i := 1062) (by decide +kernel)⟩
theorem lw_p41 : lw_okq (⟨"GossipMembershipModel", "digit", "(CC)I"⟩, 12) := ⟨⟨by decide +kernel, by decide +kernel⟩, List.mem_of_getElem? (i := 765) (by decide +kernel), List.mem_of_getElem? (i := 1065) (by decide +kernel), List.mem_of_getElem? (i := 1066) (by decide +kernel)⟩
theorem lw_p42 : lw_okq (⟨"GossipMembershipModel", "does", "(III)V"⟩, 12) := ⟨⟨by decide +kernel, by decide +kernel⟩, List.mem_of_getElem? (i := 765) (by decide +kernel), List.mem_of_getElem? (i := 1069) (by decide +kernel), List.mem_of_getElem? (i := 1070) (by decide +kernel)⟩
def lw_privs_3 : List (MethodName × Nat) := [(⟨"GossipMembershipModel", "doAgree", "()Z"⟩, 12), (⟨"GossipMembershipModel", "allDifferences", "()I"⟩, 12), (⟨"GossipMembershipModel", "differences", "(II)I"⟩, 12), (⟨"GossipMembershipModel", "knows", "(II)Z"⟩, 12), (⟨"GossipMembershipModel", "viewRefusal", "(II)I"⟩, 12), (⟨"GossipMembershipModel", "plain", "(I)I"⟩, 12), (⟨"GossipMembershipModel", "script", "(Z)I"⟩, 12), (⟨"GossipMembershipModel", "command", "(Z)V"⟩, 12), (⟨"GossipMembershipModel", "here", "()I"⟩, 12), (⟨"GossipMembershipModel", "digit", "(CC)I"⟩, 12), (⟨"GossipMembershipModel", "does", "(III)V"⟩, 12)]
theorem lw_r3 : ∀ q ∈ lw_privs_3, lw_okq q := List.forall_mem_cons.mpr ⟨lw_p32, List.forall_mem_cons.mpr ⟨lw_p33, List.forall_mem_cons.mpr ⟨lw_p34, List.forall_mem_cons.mpr ⟨lw_p35, List.forall_mem_cons.mpr ⟨lw_p36, List.forall_mem_cons.mpr ⟨lw_p37, List.forall_mem_cons.mpr ⟨lw_p38, List.forall_mem_cons.mpr ⟨lw_p39, List.forall_mem_cons.mpr ⟨lw_p40, List.forall_mem_cons.mpr ⟨lw_p41, List.forall_mem_cons.mpr ⟨lw_p42, fun _ h => absurd h List.not_mem_nil⟩⟩⟩⟩⟩⟩⟩⟩⟩⟩⟩
def lw_privs : List (MethodName × Nat) := lw_privs_1 ++ (lw_privs_2 ++ (lw_privs_3))
def lw_tbl : List Cond := k2_sels lw_privs ++ tables_1
theorem lw_privs_ok : ∀ q ∈ lw_privs, lw_okq q := by
  show ∀ q ∈ lw_privs_1 ++ (lw_privs_2 ++ (lw_privs_3)), lw_okq q
  exact List.forall_mem_append.mpr ⟨lw_r1, List.forall_mem_append.mpr ⟨lw_r2, lw_r3⟩⟩
/-- the streams that the claim lets the run draw from -/
abbrev lw_cs : List Choice := [Jvm.Choice.named "NaN.bits"]
theorem lw_bits : nanBits ∈ lw_cs := by first | decide | exact List.mem_cons_self | simp [lw_cs, nanBits]
-- ===== end of PART A; then your names; then what follows =====
end
section
/-! ===== BEGIN words of one list among another's, by their places ===== -/
theorem goodIn_r {big : List Cond} (ws : List Cond) (ps : List Nat) (hp : ws = ps.filterMap (fun i => big[i]?)) (h : ws.all goodWord = true) : GoodIn big ws := by
  intro w hw
  have h1 := List.all_eq_true.mp h w hw
  rw [hp] at hw
  obtain ⟨i, -, hi⟩ := List.mem_filterMap.mp hw
  have hm : w ∈ big := by first | exact List.mem_of_getElem? hi | exact List.getElem?_mem hi
  exact ⟨hm, good_of_word h1⟩
theorem goodIn_app {big a b : List Cond} (ha : GoodIn big a) (hb : GoodIn big b) : GoodIn big (a ++ b) := fun w h => (List.mem_append.mp h).elim (ha w) (hb w)
theorem goodIn_ca {big a b : List Cond} {c : Cond} (ha : GoodIn big (c :: a)) (hb : GoodIn big b) : GoodIn big (c :: (a ++ b)) := fun w h => (List.mem_cons.mp h).elim (fun e => ha w (List.mem_cons.mpr (Or.inl e))) (fun h => (List.mem_append.mp h).elim (fun h => ha w (List.mem_cons.mpr (Or.inr h))) (hb w))
theorem goodIn_sub {big ws : List Cond} (hm : ∀ w ∈ ws, w ∈ big) (h : ws.all goodWord = true) : GoodIn big ws := fun w hw => ⟨hm w hw, good_of_word (List.all_eq_true.mp h w hw)⟩
/-! ===== END ===== -/

/-! ===== BEGIN exceptions that leave a method, and their catching by the caller (launches without stack traces) ===== -/
section VXA
/-! The laws vx_back, vx_callV, vx_callS, vx_callSW, vx_throw0, vx_throwS follow proofs of the library, with one case more: JvmDerived/Free/Laws.lean (Back.of_free), Shelf42/LK1.lean (callV, callS), Shelf/KitTraced.lean (throwNew0V, throwNewS). -/
/-- where a method has thrown q: the class by its name, the cell, what was written, the world -/
def vx_T (XC : String → State → State → Prop) (st : State) (q : Addr) (t : State) (mc ms : Nat) (free : Addr → Prop) : Prop :=
  ∃ (E : String) (ce : Cell) (L : List Loc), XC E st t ∧ t.heap[q]? = some ce ∧ ce.vm = .none ∧ st.vm.findClass E = some ce.cls ∧ st.WarmedH t.vm ∧ st.sameButNew ({ t with vm := st.vm } : State) L mc ms ∧ ∀ z ∈ L, free z.base
def vx_Q (Qc : Array Value → State → Outcome → State → Prop) (XC : String → State → State → Prop) (mc ms : Nat) (free : Addr → Prop) : Array Value → State → Outcome → State → Prop := fun a st o t =>
  (Qc a st o t ∧ ∃ L, FrameEnd st o t L mc ms ∧ ∀ q ∈ L, free q.base) ∨ ∃ q, o = .threw q ∧ vx_T XC st q t mc ms free
/-- a callee that returns or throws -/
def vx_Met (l : Launch) (y : MethodName) (ws : List Cond) (rm : Room) (Pc : Array Value → State → Prop) (Qc : Array Value → State → Outcome → State → Prop) (XC : String → State → State → Prop) (mc ms : Nat) (free : Addr → Prop) : Prop :=
  MetFree l y (headSpec ws rm) Pc (fun _ _ _ _ _ => True) (vx_Q Qc XC mc ms free)
def vx_Post (XC : String → State → State → Prop) (mc ms : Nat) (free : Addr → Prop) : Pt → Array Value → Addr → Pt → Prop := fun A a q B =>
  ∃ (g : JFrame) (mk : MethodId) (t : State) (L : List Loc) (E : String) (ce : Cell), B.U.heap = t.heap ∧ B.U.vm = t.vm ∧ XC E (A.U.calling g mk a) t ∧ t.heap[q]? = some ce ∧ ce.vm = .none ∧ A.U.vm.findClass E = some ce.cls ∧ B.locs = A.locs ++ L ∧ (∀ z ∈ L, free z.base) ∧ B.cells = A.cells + mc ∧ B.slots = A.slots + ms
def vx_Back (l : Launch) (R : Room) (p : Program) (e : Env) (below : List Frame) (s : State) (sargs : Array Value) (y : MethodName) (len W9 : Nat)
    (Pre : Pt → Array Value → Prop) (Post : Pt → Array Value → Option Value → Pt → Prop) (PostX : Pt → Array Value → Addr → Pt → Prop) : Prop :=
  ∀ (m : MethodId) (meth : Method) (c : Code) (A : Pt) (g : JFrame) (ig : Instr) (mk : MethodId) (a : Array Value),
    Stand p l e R s m sargs below meth c A.U A.locs A.cells A.slots → g.method = m → g.locals.size = c.maxLocals → decode c.code g.pc = .ok (ig, len) →
    2 * g.monitorRoom + (g.stack.map fun v => v.category).sum ≤ W9 → A.U.methodNamed? y = some mk → Pre A a →
    (∃ (v : Option Value) (B : Pt), Stand p l e R s m sargs below meth c B.U B.locs B.cells B.slots ∧ Post A a v B ∧
      Steps p.tables e below (doInvoke e (A.U.setTop g) [] mk a).1 (B.U.setTop { g with pc := g.pc + len, stack := v.toList ++ g.stack })) ∨
    (∃ (q : Addr) (B : Pt), Stand p l e R s m sargs below meth c B.U B.locs B.cells B.slots ∧ PostX A a q B ∧
      Steps p.tables e below (doInvoke e (A.U.setTop g) [] mk a).1 ((B.U.setTop g).pushFrame (.throwing q)))
section Payer
variable {l : Launch} {R : Room} {p : Program} {e : Env} {below : List Frame} {s : State} {sargs : Array Value} {y : MethodName} {len W9 : Nat}
theorem vx_back {ws : List Cond} {rm : Room} {Pc : Array Value → State → Prop} {Qc : Array Value → State → Outcome → State → Prop} {XC : String → State → State → Prop} {mc ms : Nat} {free : Addr → Prop} {bytes : ByteArray} {maxL : Nat} {ret : Option FieldType}
    (hM : vx_Met l y ws rm Pc Qc XC mc ms free) (hblind : FrameBlind Pc) (hrc : rm.cells = mc) (hrs : rm.slots = ms)
    (hframes : rm.frames + 1 ≤ R.frames) (hlocals : W9 + (maxL + 11) + rm.locals ≤ R.locals)
    (hws : ∀ w ∈ ws, ∀ a' U, s.WarmedH U.vm → w.before a' U = true) (hcode : Cond.code y bytes maxL ret ∈ ws) (hinit : ∀ a' U, s.WarmedH U.vm → (Cond.initialized y.cls).before a' U = true) :
    vx_Back l R p e below s sargs y len W9 (PreOf R mc ms Pc) (PostOf Qc mc ms free) (vx_Post XC mc ms free) := by
  intro m meth c A g ig mk a X hg hsize hdg hW hn hp
  have h1 : (headSpec ws rm).pre.before a A.U = true := atoms_intro fun w hw => hws w hw _ _ X.warmed
  have h2 : (Cond.code y bytes maxL ret).before a A.U = true := hws _ hcode _ _ X.warmed
  have h3 : (Cond.initialized y.cls).before a A.U = true := hinit _ _ X.warmed
  have h4 : A.cells + (headSpec ws rm).room.cells ≤ R.cells := by rw [show (headSpec ws rm).room.cells = mc from hrc]; exact hp.1
  have h5 : A.slots + (headSpec ws rm).room.slots ≤ R.slots := by rw [show (headSpec ws rm).room.slots = ms from hrs]; exact hp.2.1
  have hPc : Pc a (A.U.calling g mk a) := hblind _ _ _ _ hp.2.2
  obtain ⟨U, Ls, c0, s0⟩ := A
  dsimp only [Pt.U, Pt.locs, Pt.cells, Pt.slots] at h1 h2 h3 h4 h5 X hn hPc ⊢
  obtain ⟨methY, cY, hmY, hcY, -, hlY, -, -, -, -⟩ := Cond.code_spec hn h2
  obtain ⟨kY, hkY, -⟩ := className_of_methodNamed hn
  have hinitY : kY.init = .initialized := Cond.initialized_spec (findClass_of_methodNamed hn) hkY h3
  have h : At U g.method c below := by rw [hg]; exact X.here
  have hlocals9 : W9 + (maxL + 11) + (headSpec ws rm).room.locals ≤ R.locals := hlocals
  have happ : (headSpec ws rm).appliesLoose y e.platform (U.calling g mk a) = true :=
    Spec.appliesLoose_calling (g := g) h hdg hn hkY hinitY
      (X.room_calling (g := g) (R' := (headSpec ws rm).room) hsize hmY hcY hframes (by rw [hlY]; omega) h4 h5) h1
  obtain ⟨mid, hmid⟩ := h.above
  have hfr : (U.setTop g).frames = (.java g :: mid) ++ below := by rw [State.frames_setTop' g h.top, hmid]; rfl
  obtain ⟨o, s₂, hsteps, -, hend, hq⟩ := Steps.callFree hM p X.admits X.cas X.clock (acts := []) hfr happ hPc trivial
  have hq' : vx_Q Qc XC mc ms free a (U.calling g mk a) o s₂ := hq
  rw [State.frames_setTop' g h.top] at hend
  obtain ⟨g₀, hg0⟩ := Option.isSome_iff_exists.mp h.top
  obtain ⟨r, hr⟩ := State.topJava?_eq_some.mp hg0
  have hr' : (({ U with heap := s₂.heap, slotsUsed := s₂.slotsUsed } : State).setVm s₂.vm).frames = .java g₀ :: r := hr
  rcases hq' with ⟨hqc, L, hfe, hL⟩ | ⟨q, rfl, E, ce, L, hx, hce, hcv, hcl, hW₂, hsm, hL⟩
  · obtain ⟨⟨v, rfl⟩, hW₂, e2, q2, q3, q4, q5, q6⟩ := id hfe
    have e3 : s₂ = ({ (U.calling g mk a).setFrames s₂.frames with heap := s₂.heap, slotsUsed := s₂.slotsUsed } : State).setVm s₂.vm := by
      have : s₂ = ({ s₂ with vm := (U.calling g mk a).vm } : State).setVm s₂.vm := rfl
      rw [e2] at this
      exact this
    obtain ⟨c₂, i₂, len₂, hc₂, hd₂, hf₂⟩ := hend
    have hW' : U.WarmedH s₂.vm := hW₂
    have hcc : c₂ = c := by
      have h1 : s₂.code? g.method = U.code? g.method := by
        rw [State.code?_eq, State.code?_eq, hW'.alike.method?]
      exact Option.some.inj (hc₂.symm.trans (h1.trans h.code))
    subst hcc
    have hlen : len₂ = len := by rw [hdg] at hd₂; cases hd₂; rfl
    subst hlen
    have hs₂ : s₂ = (({ U with heap := s₂.heap, slotsUsed := s₂.slotsUsed } : State).setVm s₂.vm).setTop { g with pc := g.pc + len₂, stack := v.toList ++ g.stack } := by
      refine e3.trans ?_
      rw [hf₂, State.calling_eq h.top, State.setFrames_setFrames, State.setTop_of_frames _ hr', hr]
      rfl
    have hsame : U.sameButNew ({ U with heap := s₂.heap, slotsUsed := s₂.slotsUsed } : State) L mc ms := by
      refine ⟨?_, q2, q3, q4, q5, q6⟩
      obtain ⟨t, ht, -⟩ := State.frames_cons hr
      show ({ U with heap := s₂.heap, slotsUsed := s₂.slotsUsed } : State) = { U.setFrames U.frames with heap := s₂.heap, slotsUsed := s₂.slotsUsed }
      rw [State.setFrames_self ht]
    subst hg
    refine Or.inl ⟨v, ⟨(({ U with heap := s₂.heap, slotsUsed := s₂.slotsUsed } : State).setVm s₂.vm), Ls ++ L, c0 + mc, s0 + ms⟩,
      ⟨X.admits, X.cas, X.clock, X.frames, X.room, X.hears, X.method, X.code, (X.here.setHeapUsed s₂.heap s₂.slotsUsed).setVm hW'.alike, X.tail, State.WarmedH.trans X.warmed hW', X.limits, X.bytes, X.same.trans (hsame.setVm s.vm)⟩,
      ⟨g, mk, s₂, L, rfl, rfl, hqc, rfl, hL, rfl, rfl⟩, ?_⟩
    show Steps p.tables e below _ ((({ U with heap := s₂.heap, slotsUsed := s₂.slotsUsed } : State).setVm s₂.vm).setTop { g with pc := g.pc + len₂, stack := v.toList ++ g.stack })
    rw [← hs₂]
    exact hsteps
  · obtain ⟨e2, q2, q3, q4, q5, q6⟩ := id hsm
    have e3 : s₂ = ({ (U.calling g mk a).setFrames s₂.frames with heap := s₂.heap, slotsUsed := s₂.slotsUsed } : State).setVm s₂.vm := by
      have : s₂ = ({ s₂ with vm := (U.calling g mk a).vm } : State).setVm s₂.vm := rfl
      rw [e2] at this
      exact this
    have hf₂ : s₂.frames = .throwing q :: .java g :: U.frames.tail := hend
    have hW' : U.WarmedH s₂.vm := hW₂
    have hs₂ : s₂ = ((({ U with heap := s₂.heap, slotsUsed := s₂.slotsUsed } : State).setVm s₂.vm).setTop g).pushFrame (.throwing q) := by
      refine e3.trans ?_
      rw [hf₂, State.calling_eq h.top, State.setFrames_setFrames, State.pushFrame, State.frames_setTop _ hr', State.setTop_of_frames _ hr', State.setFrames_setFrames, hr]
      rfl
    have hsame : U.sameButNew ({ U with heap := s₂.heap, slotsUsed := s₂.slotsUsed } : State) L mc ms := by
      refine ⟨?_, q2, q3, q4, q5, q6⟩
      obtain ⟨t, ht, -⟩ := State.frames_cons hr
      show ({ U with heap := s₂.heap, slotsUsed := s₂.slotsUsed } : State) = { U.setFrames U.frames with heap := s₂.heap, slotsUsed := s₂.slotsUsed }
      rw [State.setFrames_self ht]
    subst hg
    refine Or.inr ⟨q, ⟨(({ U with heap := s₂.heap, slotsUsed := s₂.slotsUsed } : State).setVm s₂.vm), Ls ++ L, c0 + mc, s0 + ms⟩,
      ⟨X.admits, X.cas, X.clock, X.frames, X.room, X.hears, X.method, X.code, (X.here.setHeapUsed s₂.heap s₂.slotsUsed).setVm hW'.alike, X.tail, State.WarmedH.trans X.warmed hW', X.limits, X.bytes, X.same.trans (hsame.setVm s.vm)⟩,
      ⟨g, mk, s₂, L, E, ce, rfl, rfl, hx, hce, hcv, hcl, rfl, hL, rfl, rfl⟩, ?_⟩
    show Steps p.tables e below _ (((({ U with heap := s₂.heap, slotsUsed := s₂.slotsUsed } : State).setVm s₂.vm).setTop g).pushFrame (.throwing q))
    rw [← hs₂]
    exact hsteps
end Payer
section Calls
variable {p : Program} {l : Launch} {e : Env} {R : Room} {s : State} {m : MethodId} {args : Array Value} {below : List Frame} {meth : Method} {c : Code} {T : State} {locs : List Loc} {cells slots : Nat}
theorem vx_callV (X : Stand p l e R s m args below meth c T locs cells slots) (hexec : p.tables.exec = Jvm.exec) {own C : String} {index : Nat} {y : MethodName} {bytes : ByteArray} {maxL : Nat} {ret : Option FieldType}
    (hown : s.vm.findClass own = some m.cls) (hlink : (Cond.methodLink own index y).before args s = true) (hinst : (Cond.instanceMethod y).before args s = true) (hsel : (Cond.selects C y y).before args s = true)
    (hcode : (Cond.code y bytes maxL ret).before args s = true) (hy : y.cls ≠ "java/lang/invoke/MethodHandle" ∧ y.cls ≠ "java/lang/invoke/VarHandle")
    {W9 : Nat} {Pre : Pt → Array Value → Prop} {Post : Pt → Array Value → Option Value → Pt → Prop} {PostX : Pt → Array Value → Addr → Pt → Prop} (hK : vx_Back l R p e below s args y 3 W9 Pre Post PostX)
    {b : Addr} {cellB : Cell} (hcell : T.heap[b]? = some cellB) (hobj : cellB.vm.isStatics = false) (hcls : s.vm.findClass C = some cellB.cls)
    {g : JFrame} (hg : g.method = m) (hsize : g.locals.size = c.maxLocals) {argsL rest : List Value} (hlen : ∀ sig, parseMethodDescriptor y.desc = some sig → argsL.length = sig.parameters.length)
    (hstack : g.stack = argsL.reverse ++ .ref b :: rest) (hW : 2 * g.monitorRoom + (rest.map fun v => v.category).sum ≤ W9) (hdg : decode c.code g.pc = .ok (.invokevirtual index, 3))
    (hpre : ∀ vm₁, s.WarmedH vm₁ → Pre ⟨T.setVm vm₁, locs, cells, slots⟩ (Value.ref b :: argsL).toArray) :
    (∃ (v : Option Value) (vm₁ : Vm) (B : Pt), s.WarmedH vm₁ ∧ Stand p l e R s m args below meth c B.U B.locs B.cells B.slots ∧ Post ⟨T.setVm vm₁, locs, cells, slots⟩ (Value.ref b :: argsL).toArray v B ∧
      ∀ target, Steps p.tables e below (B.U.setTop { g with pc := g.pc + 3, stack := v.toList ++ rest }) target → Steps p.tables e below (T.setTop g) target) ∨
    (∃ (q : Addr) (vm₁ : Vm) (B : Pt), s.WarmedH vm₁ ∧ Stand p l e R s m args below meth c B.U B.locs B.cells B.slots ∧ PostX ⟨T.setVm vm₁, locs, cells, slots⟩ (Value.ref b :: argsL).toArray q B ∧
      Steps p.tables e below (T.setTop g) ((B.U.setTop { g with stack := rest }).pushFrame (.throwing q))) := by
  obtain ⟨mk, methM, hnamed, hmethM, hstM, habM⟩ := Cond.instanceMethod_spec hinst
  obtain ⟨methM', cM, hmethM', -, -, -, -, -, -, hsigM⟩ := Cond.code_spec hnamed hcode
  cases hmethM.symm.trans hmethM'
  obtain ⟨c2, r2, m2, q1, q2, q3, q4, kP, hkP, hkPi⟩ := Cond.selects_spec hsel
  cases hcls.symm.trans q1
  cases (State.methodFound?_of_named hnamed hy).symm.trans q2
  cases hnamed.symm.trans q3
  have hselP : selectMethod e.platform s.vm cellB.cls mk = .method mk := by rw [Launch.admits_selectMethod X.admits]; exact q4
  obtain ⟨vm₁, X₁, hstep₁⟩ := X.invokevirtual hexec hown hlink hnamed hmethM hstM hkP hkPi hy (a := b) (cell := cellB) hcell
    (fun z h => by rw [h] at hobj; cases hobj) hselP hmethM habM hkP hkPi (g := g) hg (argsL := argsL) (rest := rest) (hlen _ hsigM) hstack hdg
  rcases hK m meth c ⟨T.setVm vm₁, locs, cells, slots⟩ { g with stack := rest } (.invokevirtual index) mk (Value.ref b :: argsL).toArray X₁ hg hsize hdg hW (X₁.named hnamed) (hpre vm₁ X₁.warmed) with ⟨v, B, X', hpost, hsteps⟩ | ⟨q, B, X', hpost, hsteps⟩
  · exact Or.inl ⟨v, vm₁, B, X₁.warmed, X', hpost, fun target h => hstep₁ _ fun acts => by rw [doInvoke_state]; exact hsteps.trans h⟩
  · exact Or.inr ⟨q, vm₁, B, X₁.warmed, X', hpost, hstep₁ _ fun acts => by rw [doInvoke_state]; exact hsteps⟩
theorem vx_callS (X : Stand p l e R s m args below meth c T locs cells slots) (hexec : p.tables.exec = Jvm.exec) {own : String} {index : Nat} {y : MethodName} {bytes : ByteArray} {maxL : Nat} {ret : Option FieldType}
    (hown : s.vm.findClass own = some m.cls) (hlink : (Cond.methodLink own index y).before args s = true) (hstat : (Cond.static y).before args s = true) (hinit : (Cond.initialized y.cls).before args s = true)
    (hcode : (Cond.code y bytes maxL ret).before args s = true) (hy : y.cls ≠ "java/lang/invoke/MethodHandle" ∧ y.cls ≠ "java/lang/invoke/VarHandle")
    {W9 : Nat} {Pre : Pt → Array Value → Prop} {Post : Pt → Array Value → Option Value → Pt → Prop} {PostX : Pt → Array Value → Addr → Pt → Prop} (hK : vx_Back l R p e below s args y 3 W9 Pre Post PostX)
    {g : JFrame} (hg : g.method = m) (hsize : g.locals.size = c.maxLocals) {argsL rest : List Value} (hlen : ∀ sig, parseMethodDescriptor y.desc = some sig → argsL.length = sig.parameters.length)
    (hstack : g.stack = argsL.reverse ++ rest) (hW : 2 * g.monitorRoom + (rest.map fun v => v.category).sum ≤ W9) (hdg : decode c.code g.pc = .ok (.invokestatic index, 3))
    (hpre : ∀ vm₁, s.WarmedH vm₁ → Pre ⟨T.setVm vm₁, locs, cells, slots⟩ argsL.toArray) :
    (∃ (v : Option Value) (vm₁ : Vm) (B : Pt), s.WarmedH vm₁ ∧ Stand p l e R s m args below meth c B.U B.locs B.cells B.slots ∧ Post ⟨T.setVm vm₁, locs, cells, slots⟩ argsL.toArray v B ∧
      ∀ target, Steps p.tables e below (B.U.setTop { g with pc := g.pc + 3, stack := v.toList ++ rest }) target → Steps p.tables e below (T.setTop g) target) ∨
    (∃ (q : Addr) (vm₁ : Vm) (B : Pt), s.WarmedH vm₁ ∧ Stand p l e R s m args below meth c B.U B.locs B.cells B.slots ∧ PostX ⟨T.setVm vm₁, locs, cells, slots⟩ argsL.toArray q B ∧
      Steps p.tables e below (T.setTop g) ((B.U.setTop { g with stack := rest }).pushFrame (.throwing q))) := by
  obtain ⟨mk, hnamed⟩ := Cond.code_named hcode
  obtain ⟨methM, cM, hmethM, -, -, -, -, -, -, hsigM⟩ := Cond.code_spec hnamed hcode
  have hstatic : methM.isStatic = true := Cond.static_spec hnamed hmethM hstat
  obtain ⟨kP, hkP, -⟩ := className_of_methodNamed hnamed
  have hinitP : kP.init = .initialized := Cond.initialized_spec (findClass_of_methodNamed hnamed) hkP hinit
  obtain ⟨vm₁, X₁, hstep₁⟩ := X.invokestatic hexec hown hlink hnamed hmethM hstatic hkP hinitP hy (g := g) hg (argsL := argsL) (rest := rest) (hlen _ hsigM) hstack hdg
  rcases hK m meth c ⟨T.setVm vm₁, locs, cells, slots⟩ { g with stack := rest } (.invokestatic index) mk argsL.toArray X₁ hg hsize hdg hW (X₁.named hnamed) (hpre vm₁ X₁.warmed) with ⟨v, B, X', hpost, hsteps⟩ | ⟨q, B, X', hpost, hsteps⟩
  · exact Or.inl ⟨v, vm₁, B, X₁.warmed, X', hpost, fun target h => hstep₁ _ fun acts => by rw [doInvoke_state]; exact hsteps.trans h⟩
  · exact Or.inr ⟨q, vm₁, B, X₁.warmed, X', hpost, hstep₁ _ fun acts => by rw [doInvoke_state]; exact hsteps⟩
end Calls
theorem vx_cls {s : State} {T : State} {vm₁ : Vm} {E : String} {k : ClassId} (hW : s.WarmedH vm₁) (h : (T.setVm vm₁).vm.findClass E = some k) : s.vm.findClass E = some k := by
  have h1 : vm₁.findClass E = some k := h
  rw [hW.alike.findClass] at h1
  exact h1
/-- the method's frame g, with q thrown over it -/
def vx_W (p : Program) (l : Launch) (e : Env) (R : Room) (s : State) (m : MethodId) (args : Array Value) (below : List Frame) (meth : Method) (c : Code) (H : Heap) (locs : List Loc) (cells slots : Nat) (Q : State → Prop) (g : JFrame) (q : Addr) : Prop :=
  ∀ T : State, T.heap = H → Stand p l e R s m args below meth c T locs cells slots → ∃ t, Steps p.tables e below ((T.setTop g).pushFrame (.throwing q)) t ∧ Q t
def vx_Run (p : Program) (l : Launch) (e : Env) (R : Room) (s : State) (m : MethodId) (args : Array Value) (below : List Frame) (meth : Method) (c : Code) (H : Heap) (locs : List Loc) (cells slots mc ms : Nat) (g : JFrame) (rest : List Value) (Qa : State → Outcome → State → Prop) (XC : String → State → State → Prop) (free : Addr → Prop) : Prop :=
  ∀ T : State, T.heap = H → Stand p l e R s m args below meth c T locs cells slots →
    (∃ (v : Option Value) (st₀ t T' : State) (L : List Loc), st₀.heap = H ∧ Stand p l e R s m args below meth c T' (locs ++ L) (cells + mc) (slots + ms) ∧ (∀ q ∈ L, free q.base) ∧ T'.heap = t.heap ∧ T'.vm = t.vm ∧ Qa st₀ (.returned v) t ∧
      Goes p e below T g T' { g with pc := g.pc + 3, stack := v.toList ++ rest }) ∨
    (∃ (q : Addr) (st₀ t T' : State) (L : List Loc) (E : String) (ce : Cell), st₀.heap = H ∧ Stand p l e R s m args below meth c T' (locs ++ L) (cells + mc) (slots + ms) ∧ (∀ z ∈ L, free z.base) ∧ T'.heap = t.heap ∧ T'.vm = t.vm ∧ XC E st₀ t ∧ t.heap[q]? = some ce ∧ ce.vm = .none ∧ s.vm.findClass E = some ce.cls ∧
      Steps p.tables e below (T.setTop g) ((T'.setTop { g with stack := rest }).pushFrame (.throwing q)))
def vx_X {S : Type} (px : S → Prop) (B : String → S → State → Prop) (A : Nat → Prop) : String → State → State → Prop := fun E st t => ∃ u : S, px u ∧ B E u t ∧ va_F A st t
section Runs
variable {p : Program} {l : Launch} {e : Env} {R : Room} {s : State} {m : MethodId} {args : Array Value} {below : List Frame} {meth : Method} {c : Code} {H : Heap} {locs : List Loc} {cells slots : Nat}
variable {y : MethodName} {bytes cc : ByteArray} {maxL nL mc ms n index : Nat} {ret : Option FieldType} {ws : List Cond} {rm : Room} {Pc : Array Value → State → Prop} {Qc : Array Value → State → Outcome → State → Prop} {XC : String → State → State → Prop} {free : Addr → Prop} {Ts : List Cond} {own C : String} {b : Addr} {As rest : List Value} {g : JFrame}
theorem vx_callBack (cb : CallB R s args own index y bytes maxL ret ws rm mc ms n) (hM : vx_Met l y ws rm Pc Qc XC mc ms free) (hbl : FrameBlind Pc) : vx_Back l R p e below s args y 3 8 (PreOf R mc ms Pc) (PostOf Qc mc ms free) (vx_Post XC mc ms free) := by
  obtain ⟨hrc, hrs, hfr, hlo, hws, hcw, -, hini, -⟩ := cb
  exact vx_back (bytes := bytes) (maxL := maxL) (ret := ret) hM hbl hrc hrs hfr hlo hws hcw (fun a' U hW => word_at hW (Or.inl (by first | rfl | simp [Cond.onTables, Cond.keeps, Cond.steady])) hini)
theorem vx_runV (S : CallFix p m c cc nL s args Ts own) (hM : vx_Met l y ws rm Pc Qc XC mc ms free) (cw : CallW R s args own C index y bytes maxL ret ws rm mc ms n) (hp : PreV s H C b Pc As)
    (hg : g.method = m) (hn : As.length = n) (hsize : g.locals.size = nL) (hstack : g.stack = As.reverse ++ .ref b :: rest) (hW : 2 * g.monitorRoom + (rest.map fun v => v.category).sum ≤ 8) (hdg : decode cc g.pc = .ok (.invokevirtual index, 3)) (hf : cells + mc ≤ R.cells ∧ slots + ms ≤ R.slots) :
    vx_Run p l e R s m args below meth c H locs cells slots mc ms g rest (Qc (Value.ref b :: As).toArray) XC free := by
  have hK : vx_Back l R p e below s args y 3 8 (PreOf R mc ms Pc) (PostOf Qc mc ms free) (vx_Post XC mc ms free) := vx_callBack cw.1 hM hp.1
  obtain ⟨⟨-, -, -, -, -, -, hcode, -, hy, hlen, hl⟩, hin, hse⟩ := cw
  obtain ⟨hx, hb, hml, ho, -⟩ := S
  obtain ⟨-, ⟨cellB, hcB, hoB, hclB⟩, hPc⟩ := hp
  intro T hT X
  rcases vx_callV X hx (C := C) (bytes := bytes) (maxL := maxL) (ret := ret) ho hl hin hse hcode hy hK (by rw [hT]; exact hcB) hoB hclB hg (hsize.trans hml.symm) (argsL := As) (rest := rest) (fun sig h => hn.trans (hlen sig h)) hstack hW (by rw [hb]; exact hdg)
    (fun vm₁ hW₁ => ⟨hf.1, hf.2, hPc (T.setVm vm₁) hT hW₁⟩) with ⟨v, vm₁, ⟨U', l2, c2, s2⟩, hW₁, X', ⟨g', mk, t, L, e1, e2, hq, h1, hL, h2, h3⟩, st⟩ | ⟨q, vm₁, ⟨U', l2, c2, s2⟩, hW₁, X', ⟨g', mk, t, L, E, ce, e1, e2, hq, hce, hcv, hcl, h1, hL, h2, h3⟩, st⟩
  · dsimp only [Pt.U, Pt.locs, Pt.cells, Pt.slots] at X' e1 e2 h1 h2 h3 st
    subst h1; subst h2; subst h3
    exact Or.inl ⟨v, (T.setVm vm₁).calling g' mk (Value.ref b :: As).toArray, t, U', L, hT, X', hL, e1, e2, hq, st⟩
  · dsimp only [Pt.U, Pt.locs, Pt.cells, Pt.slots] at X' e1 e2 h1 h2 h3 st hcl
    subst h1; subst h2; subst h3
    exact Or.inr ⟨q, (T.setVm vm₁).calling g' mk (Value.ref b :: As).toArray, t, U', L, E, ce, hT, X', hL, e1, e2, hq, hce, hcv, vx_cls hW₁ hcl, st⟩
theorem vx_runS (S : CallFix p m c cc nL s args Ts own) (hM : vx_Met l y ws rm Pc Qc XC mc ms free) (cw : CallB R s args own index y bytes maxL ret ws rm mc ms n ∧ (Cond.static y).before args s = true) (hp : PreS s H Pc As)
    (hg : g.method = m) (hn : As.length = n) (hsize : g.locals.size = nL) (hstack : g.stack = As.reverse ++ rest) (hW : 2 * g.monitorRoom + (rest.map fun v => v.category).sum ≤ 8) (hdg : decode cc g.pc = .ok (.invokestatic index, 3)) (hf : cells + mc ≤ R.cells ∧ slots + ms ≤ R.slots) :
    vx_Run p l e R s m args below meth c H locs cells slots mc ms g rest (Qc As.toArray) XC free := by
  have hK : vx_Back l R p e below s args y 3 8 (PreOf R mc ms Pc) (PostOf Qc mc ms free) (vx_Post XC mc ms free) := vx_callBack cw.1 hM hp.1
  obtain ⟨⟨-, -, -, -, -, -, hcode, hini, hy, hlen, hl⟩, hstt⟩ := cw
  obtain ⟨hx, hb, hml, ho, -⟩ := S
  intro T hT X
  rcases vx_callS X hx (bytes := bytes) (maxL := maxL) (ret := ret) ho hl hstt hini hcode hy hK hg (hsize.trans hml.symm) (argsL := As) (rest := rest) (fun sig h => hn.trans (hlen sig h)) hstack hW (by rw [hb]; exact hdg)
    (fun vm₁ hW₁ => ⟨hf.1, hf.2, hp.2 (T.setVm vm₁) hT hW₁⟩) with ⟨v, vm₁, ⟨U', l2, c2, s2⟩, hW₁, X', ⟨g', mk, t, L, e1, e2, hq, h1, hL, h2, h3⟩, st⟩ | ⟨q, vm₁, ⟨U', l2, c2, s2⟩, hW₁, X', ⟨g', mk, t, L, E, ce, e1, e2, hq, hce, hcv, hcl, h1, hL, h2, h3⟩, st⟩
  · dsimp only [Pt.U, Pt.locs, Pt.cells, Pt.slots] at X' e1 e2 h1 h2 h3 st
    subst h1; subst h2; subst h3
    exact Or.inl ⟨v, (T.setVm vm₁).calling g' mk As.toArray, t, U', L, hT, X', hL, e1, e2, hq, st⟩
  · dsimp only [Pt.U, Pt.locs, Pt.cells, Pt.slots] at X' e1 e2 h1 h2 h3 st hcl
    subst h1; subst h2; subst h3
    exact Or.inr ⟨q, (T.setVm vm₁).calling g' mk As.toArray, t, U', L, E, ce, hT, X', hL, e1, e2, hq, hce, hcv, vx_cls hW₁ hcl, st⟩
end Runs
section Rows
variable {p : Program} {l : Launch} {e : Env} {R : Room} {s : State} {m : MethodId} {args : Array Value} {below : List Frame} {meth : Method} {c : Code} {H : Heap} {locs : List Loc} {cells slots : Nat} {Q : State → Prop}
variable {mc ms : Nat} {free : Addr → Prop} {A0 A1 : Nat → Prop} {H0 : Heap} {a : Array Value} {pc : Nat} {ls : Array Slot} {st0 rest : List Value}
theorem vx_keep {st₀ t T' : State} {L : List Loc} (h0 : st₀.heap = H) (e1 : T'.heap = t.heap) (hS : va_S A0 H0 H locs) (hA : ∀ q, q < H.size → A1 q → A0 q) (hf : ∀ q, free q → A0 q) (hL : ∀ q ∈ L, free q.base) (hF : va_F A1 st₀ t) :
    H.size ≤ T'.heap.size ∧ (∀ q : Nat, q < H.size → ¬ A1 q → T'.heap[q]? = H[q]?) ∧ va_S A0 H0 T'.heap (locs ++ L) := by
  obtain ⟨hz, hk⟩ := hF
  rw [h0] at hz hk
  exact ⟨by rw [e1]; exact hz, fun q h1 h2 => by rw [e1]; exact hk q h1 h2,
    ⟨Nat.le_trans hS.1 (by rw [e1]; exact hz), fun q h1 h2 => by rw [e1, hk q (Nat.lt_of_lt_of_le h1 hS.1) (fun z => h2 (hA q (Nat.lt_of_lt_of_le h1 hS.1) z))]; exact hS.2.1 q h1 h2, fun q hq => by
      rcases List.mem_append.mp hq with h | h
      · exact hS.2.2 q h
      · exact hf _ (hL q h)⟩⟩
theorem vx_calli {S SX : Type} {post : Int32 → S → Prop} {px : SX → Prop} {B : S → State → Prop} {BX : String → SX → State → Prop} {AX : Nat → Prop} (hr : vx_Run p l e R s m args below meth c H locs cells slots mc ms (F0 m pc ls st0) rest (va_Qi post B A1 a) (vx_X px BX AX) free) (hS : va_S A0 H0 H locs) (hA : ∀ q, q < H.size → A1 q → A0 q) (hf : ∀ q, free q → A0 q) (hAX : ∀ q, q < H.size → AX q → A0 q)
    (kx : ∀ (E : String) (ce : Cell) (q9 : Addr) (u : SX) (t : State) (H1 : Heap) (locs1 : List Loc), t.heap = H1 → s.vm.Alike t.vm → px u → BX E u t → H.size ≤ H1.size → (∀ q : Nat, q < H.size → ¬ AX q → H1[q]? = H[q]?) → va_S A0 H0 H1 locs1 → H1[q9]? = some ce → ce.vm = .none → s.vm.findClass E = some ce.cls → vx_W p l e R s m args below meth c H1 locs1 (cells + mc) (slots + ms) Q (F0 m pc ls rest) q9)
    (kk : ∀ (r : Int32) (u : S) (t : State) (H1 : Heap) (locs1 : List Loc), t.heap = H1 → s.vm.Alike t.vm → post r u → B u t → H.size ≤ H1.size → (∀ q : Nat, q < H.size → ¬ A1 q → H1[q]? = H[q]?) → va_S A0 H0 H1 locs1 → W p l e R s m args below meth c H1 locs1 (cells + mc) (slots + ms) Q (F0 m (pc + 3) ls (.int r :: rest))) : W p l e R s m args below meth c H locs cells slots Q (F0 m pc ls st0) := by
  intro T hT X
  rcases hr T hT X with ⟨v, st₀, t, T', L, h0, X', hL, e1, e2, ⟨⟨r, u, hv, hp, hb⟩, hF⟩, st⟩ | ⟨q, st₀, t, T', L, E, ce, h0, X', hL, e1, e2, ⟨u, hp, hb, hF⟩, hce, hcv, hcl, st⟩
  · cases hv
    obtain ⟨k1, k2, k3⟩ := vx_keep h0 e1 hS hA hf hL hF
    obtain ⟨t2, a1, b1⟩ := kk r u t T'.heap (locs ++ L) e1.symm (by rw [← e2]; exact X'.warmed.alike) hp hb k1 k2 k3 T' rfl X'
    exact ⟨t2, st t2 a1, b1⟩
  · obtain ⟨k1, k2, k3⟩ := vx_keep h0 e1 hS hAX hf hL hF
    obtain ⟨t2, a1, b1⟩ := kx E ce q u t T'.heap (locs ++ L) e1.symm (by rw [← e2]; exact X'.warmed.alike) hp hb k1 k2 k3 (by rw [e1]; exact hce) hcv hcl T' rfl X'
    exact ⟨t2, st.trans a1, b1⟩
theorem vx_calll {S SX : Type} {post : Int64 → S → Prop} {px : SX → Prop} {B : S → State → Prop} {BX : String → SX → State → Prop} {AX : Nat → Prop} (hr : vx_Run p l e R s m args below meth c H locs cells slots mc ms (F0 m pc ls st0) rest (va_Ql post B A1 a) (vx_X px BX AX) free) (hS : va_S A0 H0 H locs) (hA : ∀ q, q < H.size → A1 q → A0 q) (hf : ∀ q, free q → A0 q) (hAX : ∀ q, q < H.size → AX q → A0 q)
    (kx : ∀ (E : String) (ce : Cell) (q9 : Addr) (u : SX) (t : State) (H1 : Heap) (locs1 : List Loc), t.heap = H1 → s.vm.Alike t.vm → px u → BX E u t → H.size ≤ H1.size → (∀ q : Nat, q < H.size → ¬ AX q → H1[q]? = H[q]?) → va_S A0 H0 H1 locs1 → H1[q9]? = some ce → ce.vm = .none → s.vm.findClass E = some ce.cls → vx_W p l e R s m args below meth c H1 locs1 (cells + mc) (slots + ms) Q (F0 m pc ls rest) q9)
    (kk : ∀ (r : Int64) (u : S) (t : State) (H1 : Heap) (locs1 : List Loc), t.heap = H1 → s.vm.Alike t.vm → post r u → B u t → H.size ≤ H1.size → (∀ q : Nat, q < H.size → ¬ A1 q → H1[q]? = H[q]?) → va_S A0 H0 H1 locs1 → W p l e R s m args below meth c H1 locs1 (cells + mc) (slots + ms) Q (F0 m (pc + 3) ls (.long r :: rest))) : W p l e R s m args below meth c H locs cells slots Q (F0 m pc ls st0) := by
  intro T hT X
  rcases hr T hT X with ⟨v, st₀, t, T', L, h0, X', hL, e1, e2, ⟨⟨r, u, hv, hp, hb⟩, hF⟩, st⟩ | ⟨q, st₀, t, T', L, E, ce, h0, X', hL, e1, e2, ⟨u, hp, hb, hF⟩, hce, hcv, hcl, st⟩
  · cases hv
    obtain ⟨k1, k2, k3⟩ := vx_keep h0 e1 hS hA hf hL hF
    obtain ⟨t2, a1, b1⟩ := kk r u t T'.heap (locs ++ L) e1.symm (by rw [← e2]; exact X'.warmed.alike) hp hb k1 k2 k3 T' rfl X'
    exact ⟨t2, st t2 a1, b1⟩
  · obtain ⟨k1, k2, k3⟩ := vx_keep h0 e1 hS hAX hf hL hF
    obtain ⟨t2, a1, b1⟩ := kx E ce q u t T'.heap (locs ++ L) e1.symm (by rw [← e2]; exact X'.warmed.alike) hp hb k1 k2 k3 (by rw [e1]; exact hce) hcv hcl T' rfl X'
    exact ⟨t2, st.trans a1, b1⟩
theorem vx_callf {S SX : Type} {post : UInt32 → S → Prop} {px : SX → Prop} {B : S → State → Prop} {BX : String → SX → State → Prop} {AX : Nat → Prop} (hr : vx_Run p l e R s m args below meth c H locs cells slots mc ms (F0 m pc ls st0) rest (va_Qf post B A1 a) (vx_X px BX AX) free) (hS : va_S A0 H0 H locs) (hA : ∀ q, q < H.size → A1 q → A0 q) (hf : ∀ q, free q → A0 q) (hAX : ∀ q, q < H.size → AX q → A0 q)
    (kx : ∀ (E : String) (ce : Cell) (q9 : Addr) (u : SX) (t : State) (H1 : Heap) (locs1 : List Loc), t.heap = H1 → s.vm.Alike t.vm → px u → BX E u t → H.size ≤ H1.size → (∀ q : Nat, q < H.size → ¬ AX q → H1[q]? = H[q]?) → va_S A0 H0 H1 locs1 → H1[q9]? = some ce → ce.vm = .none → s.vm.findClass E = some ce.cls → vx_W p l e R s m args below meth c H1 locs1 (cells + mc) (slots + ms) Q (F0 m pc ls rest) q9)
    (kk : ∀ (r : UInt32) (u : S) (t : State) (H1 : Heap) (locs1 : List Loc), t.heap = H1 → s.vm.Alike t.vm → post r u → B u t → H.size ≤ H1.size → (∀ q : Nat, q < H.size → ¬ A1 q → H1[q]? = H[q]?) → va_S A0 H0 H1 locs1 → W p l e R s m args below meth c H1 locs1 (cells + mc) (slots + ms) Q (F0 m (pc + 3) ls (.float r :: rest))) : W p l e R s m args below meth c H locs cells slots Q (F0 m pc ls st0) := by
  intro T hT X
  rcases hr T hT X with ⟨v, st₀, t, T', L, h0, X', hL, e1, e2, ⟨⟨r, u, hv, hp, hb⟩, hF⟩, st⟩ | ⟨q, st₀, t, T', L, E, ce, h0, X', hL, e1, e2, ⟨u, hp, hb, hF⟩, hce, hcv, hcl, st⟩
  · cases hv
    obtain ⟨k1, k2, k3⟩ := vx_keep h0 e1 hS hA hf hL hF
    obtain ⟨t2, a1, b1⟩ := kk r u t T'.heap (locs ++ L) e1.symm (by rw [← e2]; exact X'.warmed.alike) hp hb k1 k2 k3 T' rfl X'
    exact ⟨t2, st t2 a1, b1⟩
  · obtain ⟨k1, k2, k3⟩ := vx_keep h0 e1 hS hAX hf hL hF
    obtain ⟨t2, a1, b1⟩ := kx E ce q u t T'.heap (locs ++ L) e1.symm (by rw [← e2]; exact X'.warmed.alike) hp hb k1 k2 k3 (by rw [e1]; exact hce) hcv hcl T' rfl X'
    exact ⟨t2, st.trans a1, b1⟩
theorem vx_calld {S SX : Type} {post : UInt64 → S → Prop} {px : SX → Prop} {B : S → State → Prop} {BX : String → SX → State → Prop} {AX : Nat → Prop} (hr : vx_Run p l e R s m args below meth c H locs cells slots mc ms (F0 m pc ls st0) rest (va_Qd post B A1 a) (vx_X px BX AX) free) (hS : va_S A0 H0 H locs) (hA : ∀ q, q < H.size → A1 q → A0 q) (hf : ∀ q, free q → A0 q) (hAX : ∀ q, q < H.size → AX q → A0 q)
    (kx : ∀ (E : String) (ce : Cell) (q9 : Addr) (u : SX) (t : State) (H1 : Heap) (locs1 : List Loc), t.heap = H1 → s.vm.Alike t.vm → px u → BX E u t → H.size ≤ H1.size → (∀ q : Nat, q < H.size → ¬ AX q → H1[q]? = H[q]?) → va_S A0 H0 H1 locs1 → H1[q9]? = some ce → ce.vm = .none → s.vm.findClass E = some ce.cls → vx_W p l e R s m args below meth c H1 locs1 (cells + mc) (slots + ms) Q (F0 m pc ls rest) q9)
    (kk : ∀ (r : UInt64) (u : S) (t : State) (H1 : Heap) (locs1 : List Loc), t.heap = H1 → s.vm.Alike t.vm → post r u → B u t → H.size ≤ H1.size → (∀ q : Nat, q < H.size → ¬ A1 q → H1[q]? = H[q]?) → va_S A0 H0 H1 locs1 → W p l e R s m args below meth c H1 locs1 (cells + mc) (slots + ms) Q (F0 m (pc + 3) ls (.double r :: rest))) : W p l e R s m args below meth c H locs cells slots Q (F0 m pc ls st0) := by
  intro T hT X
  rcases hr T hT X with ⟨v, st₀, t, T', L, h0, X', hL, e1, e2, ⟨⟨r, u, hv, hp, hb⟩, hF⟩, st⟩ | ⟨q, st₀, t, T', L, E, ce, h0, X', hL, e1, e2, ⟨u, hp, hb, hF⟩, hce, hcv, hcl, st⟩
  · cases hv
    obtain ⟨k1, k2, k3⟩ := vx_keep h0 e1 hS hA hf hL hF
    obtain ⟨t2, a1, b1⟩ := kk r u t T'.heap (locs ++ L) e1.symm (by rw [← e2]; exact X'.warmed.alike) hp hb k1 k2 k3 T' rfl X'
    exact ⟨t2, st t2 a1, b1⟩
  · obtain ⟨k1, k2, k3⟩ := vx_keep h0 e1 hS hAX hf hL hF
    obtain ⟨t2, a1, b1⟩ := kx E ce q u t T'.heap (locs ++ L) e1.symm (by rw [← e2]; exact X'.warmed.alike) hp hb k1 k2 k3 (by rw [e1]; exact hce) hcv hcl T' rfl X'
    exact ⟨t2, st.trans a1, b1⟩
theorem vx_callv {S SX : Type} {post : S → Prop} {px : SX → Prop} {B : S → State → Prop} {BX : String → SX → State → Prop} {AX : Nat → Prop} (hr : vx_Run p l e R s m args below meth c H locs cells slots mc ms (F0 m pc ls st0) rest (va_Qv post B A1 a) (vx_X px BX AX) free) (hS : va_S A0 H0 H locs) (hA : ∀ q, q < H.size → A1 q → A0 q) (hf : ∀ q, free q → A0 q) (hAX : ∀ q, q < H.size → AX q → A0 q)
    (kx : ∀ (E : String) (ce : Cell) (q9 : Addr) (u : SX) (t : State) (H1 : Heap) (locs1 : List Loc), t.heap = H1 → s.vm.Alike t.vm → px u → BX E u t → H.size ≤ H1.size → (∀ q : Nat, q < H.size → ¬ AX q → H1[q]? = H[q]?) → va_S A0 H0 H1 locs1 → H1[q9]? = some ce → ce.vm = .none → s.vm.findClass E = some ce.cls → vx_W p l e R s m args below meth c H1 locs1 (cells + mc) (slots + ms) Q (F0 m pc ls rest) q9)
    (kk : ∀ (u : S) (t : State) (H1 : Heap) (locs1 : List Loc), t.heap = H1 → s.vm.Alike t.vm → post u → B u t → H.size ≤ H1.size → (∀ q : Nat, q < H.size → ¬ A1 q → H1[q]? = H[q]?) → va_S A0 H0 H1 locs1 → W p l e R s m args below meth c H1 locs1 (cells + mc) (slots + ms) Q (F0 m (pc + 3) ls (rest))) : W p l e R s m args below meth c H locs cells slots Q (F0 m pc ls st0) := by
  intro T hT X
  rcases hr T hT X with ⟨v, st₀, t, T', L, h0, X', hL, e1, e2, ⟨⟨u, hv, hp, hb⟩, hF⟩, st⟩ | ⟨q, st₀, t, T', L, E, ce, h0, X', hL, e1, e2, ⟨u, hp, hb, hF⟩, hce, hcv, hcl, st⟩
  · cases hv
    obtain ⟨k1, k2, k3⟩ := vx_keep h0 e1 hS hA hf hL hF
    obtain ⟨t2, a1, b1⟩ := kk u t T'.heap (locs ++ L) e1.symm (by rw [← e2]; exact X'.warmed.alike) hp hb k1 k2 k3 T' rfl X'
    exact ⟨t2, st t2 a1, b1⟩
  · obtain ⟨k1, k2, k3⟩ := vx_keep h0 e1 hS hAX hf hL hF
    obtain ⟨t2, a1, b1⟩ := kx E ce q u t T'.heap (locs ++ L) e1.symm (by rw [← e2]; exact X'.warmed.alike) hp hb k1 k2 k3 (by rw [e1]; exact hce) hcv hcl T' rfl X'
    exact ⟨t2, st.trans a1, b1⟩
/-- caught by the row x of this method's table; the rows ahead don't take it -/
theorem vx_catch {own name : String} {E : String} {ce : Cell} {q : Addr} (hown : s.vm.findClass own = some m.cls) (pre : List ExceptionTableEntry) (x : ExceptionTableEntry) (suf : List ExceptionTableEntry) (hsplit : c.exceptionTable.toList = pre ++ x :: suf)
    (hpass : ∀ z ∈ pre, covers z pc = false ∨ (z.catchType ≠ 0 ∧ ∃ nm : String, (Cond.classLink own z.catchType nm).before args s = true ∧ va_Nc E nm s)) (hx : covers x pc = true) (h0 : x.catchType ≠ 0)
    (hlink : (Cond.classLink own x.catchType name).before args s = true) (hcast : (Cond.castable E name).before args s = true) (hcell : H[q]? = some ce) (hv : ce.vm = .none) (hcl : s.vm.findClass E = some ce.cls)
    (kk : W p l e R s m args below meth c H locs cells slots Q (F0 m x.handlerPc ls [.ref q])) : vx_W p l e R s m args below meth c H locs cells slots Q (F0 m pc ls rest) q := by
  intro T hT X
  have hpl : e.platform.magicAccessors = ({} : Platform).magicAccessors := by rw [X.admits.platform]
  obtain ⟨c3, c4, hc3, hc4, hasg⟩ := Cond.castable_spec hcast
  cases Option.some.inj (hc3.symm.trans hcl)
  obtain ⟨c5, hc5, hcl5⟩ := Cond.classLink_spec hown hlink e.platform hpl
  cases Option.some.inj (hc4.symm.trans hc5)
  obtain ⟨vm', X', st⟩ := X.thenCaughtThrough q (g := F0 m pc ls rest) rfl (Steps.refl _) (by rw [hT]; exact hcell) (by rw [hv]; rfl) (by obtain ⟨k9, h9, -⟩ := Vm.findClass_spec hcl; exact ⟨k9, h9⟩) pre x suf hsplit
    (fun z hz => by
      rcases hpass z hz with h | ⟨hz0, nm, hl1, hn1⟩
      · exact Or.inl h
      · obtain ⟨c6, hc6, hcl6⟩ := Cond.classLink_spec hown hl1 e.platform hpl
        obtain ⟨a8, b8, h1, h2, h3⟩ := hn1
        cases Option.some.inj (h1.symm.trans hcl)
        cases Option.some.inj (h2.symm.trans hc6)
        exact Or.inr ⟨hz0, _, hcl6, h3⟩) hx (Or.inr ⟨h0, c4, hcl5, hasg⟩)
  obtain ⟨t, a1, b1⟩ := kk (T.setVm vm') hT X'
  exact ⟨t, st.trans a1, b1⟩
end Rows
section Ends
variable {p : Program} {l : Launch} {e : Env} {R : Room} {s : State} {m : MethodId} {args : Array Value} {below : List Frame} {meth : Method} {c : Code} {H : Heap} {locs : List Loc} {cells slots : Nat} {Q : State → Prop}
variable {mc ms : Nat} {free : Addr → Prop} {A0 A1 : Nat → Prop} {H0 : Heap} {a : Array Value} {ls : Array Slot} {st0 rest : List Value}
variable {Qc : Array Value → State → Outcome → State → Prop} {XC : String → State → State → Prop}
/-- what a body that may throw owes at its end -/
def vx_MQ (below : List Frame) (Qc : Array Value → State → Outcome → State → Prop) (XC : String → State → State → Prop) (a : Array Value) (s : State) (mc ms : Nat) (free : Addr → Prop) : State → Prop := fun t =>
  ∃ o, t.status = .running ∧ Ended t below o ∧ vx_Q Qc XC mc ms free a s o t
theorem vx_ret {g : JFrame} {mc ms : Nat} (k : W p l e R s m args below meth c H locs cells slots (MQ below Qc args s mc ms free) g) : W p l e R s m args below meth c H locs cells slots (vx_MQ below Qc XC args s mc ms free) g := by
  intro T hT X
  obtain ⟨t, a1, o, b1, b2, b3, b4⟩ := k T hT X
  exact ⟨t, a1, o, b1, b2, Or.inl ⟨b3, b4⟩⟩
/-- not caught here: it goes on to the caller -/
theorem vx_widen {g : JFrame} {q : Addr} {k n : Nat} (h1 : cells ≤ k) (h2 : slots ≤ n) (kk : vx_W p l e R s m args below meth c H locs k n Q g q) : vx_W p l e R s m args below meth c H locs cells slots Q g q := fun T hT X => kk T hT (stand_widen X h1 h2)
theorem vx_out {pc : Nat} {E : String} {ce : Cell} {q : Addr} {mc ms : Nat} (hout : ∀ x ∈ c.exceptionTable.toList, covers x pc = false) (hlocks : meth.locks = false) (hcell : H[q]? = some ce) (hv : ce.vm = .none) (hcl : s.vm.findClass E = some ce.cls)
    (hx : ∀ t : State, t.heap = H → s.vm.Alike t.vm → XC E s t) (hf : ∀ z ∈ locs, free z.base) (hc : cells ≤ mc) (hs : slots ≤ ms) :
    vx_W p l e R s m args below meth c H locs cells slots (vx_MQ below Qc XC args s mc ms free) (F0 m pc ls rest) q := by
  intro T hT X
  obtain ⟨st1, hrun, hend, hW, hsm⟩ := X.leaveThrown q (g := F0 m pc ls rest) rfl rfl rfl hout hlocks
  have hcell9 : (T.setFrames (.throwing q :: below)).heap[q]? = some ce := by
    show T.heap[q]? = some ce
    rw [hT]; exact hcell
  exact ⟨_, st1, .threw q, hrun, hend, Or.inr ⟨q, rfl, E, ce, locs, hx _ hT hW.alike, hcell9, hv, hcl, hW, hsm.mono hc hs, hf⟩⟩
theorem vx_frame {U : State} {k n : Nat} (h : s.sameButNew ({ U with vm := s.vm } : State) locs k n) : s.heap.size ≤ U.heap.size ∧ ∀ q : Nat, q < s.heap.size → (∀ z ∈ locs, z.base ≠ q) → U.heap[q]? = s.heap[q]? := by
  obtain ⟨-, h2, -, -, -, h6⟩ := h
  refine ⟨h2, fun q hq hz => ?_⟩
  obtain ⟨c9, e1, e2, e3, e4⟩ := h6 q _ (Array.getElem?_eq_getElem hq)
  have hs : c9.slots = (s.heap[q]).slots := Array.ext_getElem? fun i => e4 i fun hm => hz _ hm rfl
  have h9 : c9 = s.heap[q] := by
    rw [hs] at e2
    exact e2
  have e5 : U.heap[q]? = some c9 := e1
  rw [e5, h9, Array.getElem?_eq_getElem hq]
/-- the words of a throw but the four that speak of the heap -/
def vx_no (w : Cond) : Bool := decide (w ≠ .isRef (.static Bundle.tN "UNASSIGNED_STACK" Bundle.steD)) && decide (w ≠ .isRef (.static Bundle.tN "SUPPRESSED_SENTINEL" Bundle.listD)) && decide (w ≠ .laysStatic Bundle.tN "UNASSIGNED_STACK" Bundle.steD) && decide (w ≠ .laysStatic Bundle.tN "SUPPRESSED_SENTINEL" Bundle.listD)
def vx_at0 (own : String) (ic : Nat) (X : String) (names : List String) : List Cond := (Bundle.ownAtoms0 own ic X names).filter vx_no
def vx_atS (own : String) (ic : Nat) (X : String) (names : List String) : List Cond := (Bundle.ownAtoms own ic X names).filter vx_no
/-- a word that the tables alone decide, or a good one -/
def vx_ot (w : Cond) : Bool := w.onTables || goodWord w
theorem vx_ot_at {args a' : Array Value} {s U : State} {w : Cond} (hW : s.WarmedH U.vm) (hvm : s.vm = U.vm) (hg : vx_ot w = true) (h : w.before args s = true) : w.before a' U = true := by
  simp only [vx_ot, Bool.or_eq_true] at hg
  rcases hg with hg | hg
  · exact va_tabs hg hvm h
  · exact word_at hW (good_of_word hg) h
/-- a list's words: the good ones out of the method's own list, the others by premises of their own -/
theorem vx_hat {args : Array Value} {s : State} {L B : List Cond} (h1 : ∀ w ∈ L.filter goodWord, w.before args s = true) (h2 : ∀ w ∈ L.filter (fun w => !goodWord w), w ∈ B) (h3 : ∀ w ∈ B, w.before args s = true) : ∀ w ∈ L, w.before args s = true := by
  intro w hw
  by_cases g : goodWord w = true
  · exact h1 w (List.mem_filter.mpr ⟨hw, g⟩)
  · refine h3 w (h2 w (List.mem_filter.mpr ⟨hw, ?_⟩))
    show (!goodWord w) = true
    cases hgw : goodWord w
    · rfl
    · exact absurd hgw g
theorem vx_c {args : Array Value} {s : State} {w : Cond} {B : List Cond} (h : w.before args s = true) (t : ∀ w ∈ B, w.before args s = true) : ∀ w' ∈ w :: B, w'.before args s = true := fun w' h' => (List.mem_cons.mp h').elim (fun e => by rw [e]; exact h) (t w')
theorem vx_n {args : Array Value} {s : State} : ∀ w ∈ ([] : List Cond), w.before args s = true := fun _ h => nomatch h
theorem vx_own {args : Array Value} {s : State} {L : List Cond} (h1 : ∀ w ∈ L.filter vx_no, w.before args s = true)
    (hU : (Cond.isRef (.static Bundle.tN "UNASSIGNED_STACK" Bundle.steD)).before args s = true) (hN : (Cond.isRef (.static Bundle.tN "SUPPRESSED_SENTINEL" Bundle.listD)).before args s = true)
    (lU : (Cond.laysStatic Bundle.tN "UNASSIGNED_STACK" Bundle.steD).before args s = true) (lN : (Cond.laysStatic Bundle.tN "SUPPRESSED_SENTINEL" Bundle.listD).before args s = true) : ∀ w ∈ L, w.before args s = true := by
  intro w hw
  by_cases e1 : w = .isRef (.static Bundle.tN "UNASSIGNED_STACK" Bundle.steD)
  · rw [e1]; exact hU
  · by_cases e2 : w = .isRef (.static Bundle.tN "SUPPRESSED_SENTINEL" Bundle.listD)
    · rw [e2]; exact hN
    · by_cases e3 : w = .laysStatic Bundle.tN "UNASSIGNED_STACK" Bundle.steD
      · rw [e3]; exact lU
      · by_cases e4 : w = .laysStatic Bundle.tN "SUPPRESSED_SENTINEL" Bundle.listD
        · rw [e4]; exact lN
        · exact h1 w (List.mem_filter.mpr ⟨hw, by unfold vx_no; rw [decide_eq_true e1, decide_eq_true e2, decide_eq_true e3, decide_eq_true e4]; rfl⟩)
/-- where a static field lies, its class's statics cell in H -/
def vx_L (C n d : String) (A : Nat → Prop) (U : State) (H : Heap) : Prop := ∃ (c : ClassId) (k : Class) (i : Nat) (f : Field) (a : Nat) (cell : Cell), U.vm.findClass C = some c ∧ U.fieldFound? C n d = some (c, k, i, f) ∧ f.isStatic = true ∧ k.statics = some a ∧ H[a]? = some cell ∧ cell.vm.isStatics = true ∧ cell.cls = c ∧ f.slot < cell.slots.size ∧ k.staticTypes[f.slot]? = some f.type ∧ ¬ A a
theorem vx_L.moved {C n d : String} {A : Nat → Prop} {u U : State} {H : Heap} (hvm : u.vm.Alike U.vm) (h : vx_L C n d A u H) : vx_L C n d A U H := by
  obtain ⟨c, k, i, f, a, cell, h1, h2, h3, h4, h5, h6, h7, h8, h9, h10⟩ := h
  obtain ⟨k', hi', he⟩ := State.fieldFound?_setVm hvm h2
  exact ⟨c, k', i, f, a, cell, by rw [hvm.findClass]; exact h1, hi', h3, by rw [he]; exact h4, h5, h6, h7, h8, by rw [he]; exact h9, h10⟩
theorem vx_L.kept {C n d : String} {A : Nat → Prop} {U : State} {H H1 : Heap} (h : vx_L C n d A U H) (hq : ∀ a : Nat, a < H.size → ¬ A a → H1[a]? = H[a]?) : vx_L C n d A U H1 := by
  obtain ⟨c, k, i, f, a, cell, h1, h2, h3, h4, h5, h6, h7, h8, h9, h10⟩ := h
  exact ⟨c, k, i, f, a, cell, h1, h2, h3, h4, by rw [hq a (Array.getElem?_eq_some_iff.mp h5).1 h10]; exact h5, h6, h7, h8, h9, h10⟩
theorem vx_L.narrow {C n d : String} {A B : Nat → Prop} {U : State} {H : Heap} (h : vx_L C n d A U H) (hAB : ∀ q, B q → A q) : vx_L C n d B U H := by
  obtain ⟨c, k, i, f, a, cell, h1, h2, h3, h4, h5, h6, h7, h8, h9, h10⟩ := h
  exact ⟨c, k, i, f, a, cell, h1, h2, h3, h4, h5, h6, h7, h8, h9, fun z => h10 (hAB _ z)⟩
theorem vx_L.word {C n d : String} {A : Nat → Prop} {s : State} {args : Array Value} (h : vx_L C n d A s s.heap) : (Cond.laysStatic C n d).before args s = true := by
  obtain ⟨c, k, i, f, a, cell, h1, h2, h3, h4, h5, h6, h7, h8, h9, -⟩ := h
  show (Cond.laysStatic C n d).holds args s none s [] = true
  exact Cond.laysStatic_of h1 h2 h3 h4 h5 h6 h7 h8 h9
/-- .. and what it holds: null or some reference -/
def vx_Zq (C n d : String) (A : Nat → Prop) (U : State) (H : Heap) : Prop := va_Zq C n d A U H ∧ vx_L C n d A U H
theorem vx_Zq.moved {C n d : String} {A : Nat → Prop} {u U : State} {H : Heap} (hvm : u.vm.Alike U.vm) (h : vx_Zq C n d A u H) : vx_Zq C n d A U H := ⟨va_Zq.moved hvm h.1, vx_L.moved hvm h.2⟩
theorem vx_Zq.kept {C n d : String} {A : Nat → Prop} {U : State} {H H1 : Heap} (h : vx_Zq C n d A U H) (hq : ∀ a : Nat, a < H.size → ¬ A a → H1[a]? = H[a]?) : vx_Zq C n d A U H1 := ⟨va_Zq.kept h.1 hq, vx_L.kept h.2 hq⟩
theorem vx_Zq.narrow {C n d : String} {A B : Nat → Prop} {U : State} {H : Heap} (h : vx_Zq C n d A U H) (hAB : ∀ q, B q → A q) : vx_Zq C n d B U H := ⟨va_Zq.narrow h.1 hAB, vx_L.narrow h.2 hAB⟩
theorem vx_Zqof {args : Array Value} {s : State} {C n d : String} {A : Nat → Prop} (hl : (Cond.laysStatic C n d).before args s = true) (hini : (Cond.initialized C).before args s = true) (h : (Cond.isRef (.static C n d)).before args s = true) (hA : ∀ a : Nat, a < s.heap.size → ¬ A a) : vx_Zq C n d A s s.heap := by
  refine ⟨va_Zqof hl hini h hA, ?_⟩
  obtain ⟨c, k, i, f, a, cell, h1, h2, h3, h4, h5, h6, h7, h8, h9⟩ := Cond.laysStatic_spec hl
  exact ⟨c, k, i, f, a, cell, h1, h2, h3, h4, h5, h6, h7, h8, h9, hA a (Array.getElem?_eq_some_iff.mp h5).1⟩
theorem vx_isRef {C n d : String} {v : Value} {A : Nat → Prop} {s : State} {args : Array Value} (h : va_Z C n d v A s s.heap) (hv : v.isRef = true) : (Cond.isRef (.static C n d)).before args s = true := by
  obtain ⟨cf, kf, fi, f, a, cell, h1, h2, h3, h4, h5, h6, h7, -⟩ := h
  have he : (Term.static C n d).eval args s none [] s = some v := by
    simp [Term.eval, State.fieldNamed?, h1, h2, h4, h5, h6, h7]
  simp only [Cond.before, Cond.holds, Cond.value, he]
  cases v <;> simp_all [Value.isRef]
theorem vx_isRefq {C n d : String} {A : Nat → Prop} {s : State} {args : Array Value} (h : va_Zq C n d A s s.heap) : (Cond.isRef (.static C n d)).before args s = true := by
  rcases h with h | ⟨t, h⟩
  · exact vx_isRef h rfl
  · exact vx_isRef h rfl
/-- the same frame, seen from here: as if the method were called anew in this heap -/
theorem vx_rebase {T : State} (X : Stand p l e R s m args below meth c T locs cells slots) {R' : Room} (hf : R'.frames ≤ R.frames) (hl : R'.locals ≤ R.locals) (hc : cells + R'.cells ≤ R.cells) (hs : slots + R'.slots ≤ R.slots) :
    Stand p l e R' ((T.setVm s.vm).setFrames (.invoking m args :: below)) m args below meth c T [] 0 0 := by
  have htop : (T.setVm s.vm).topJava?.isSome := X.here.top
  have hF : ((T.setVm s.vm).setFrames (.invoking m args :: below)).frames = .invoking m args :: below := State.frames_setFrames _ (State.cur_lt_of_top htop)
  obtain ⟨g₀, hg0⟩ := Option.isSome_iff_exists.mp htop
  obtain ⟨r, hr⟩ := State.topJava?_eq_some.mp hg0
  have hl9 : e.platform.stackLimits (T.setVm s.vm).me = e.platform.stackLimits s.me := X.limits
  have hb9 : (T.setVm s.vm).me.stackBytes = s.me.stackBytes := X.bytes
  refine ⟨X.admits, X.cas, X.clock, hF, ?_, X.hears, X.method, X.code, X.here, X.tail, X.warmed, ?_, ?_, ?_⟩
  · have h := X.room
    have hU : ((T.setVm s.vm).setFrames (.invoking m args :: below)).localsInUse = s.localsInUse := by
      rw [State.localsInUse_invoking hF (meth := meth) (c := c) X.method X.code, State.localsInUse_invoking X.frames X.method X.code]
    simp only [State.hasRoom, Bool.and_eq_true, decide_eq_true_eq] at h ⊢
    obtain ⟨⟨⟨⟨h1, h2, h3, h4, h5, h6⟩, h7⟩, h8⟩, h9⟩ := h
    rw [X.frames, List.length_cons] at h2 h3
    have q1 := X.heapSize
    have q2 := X.used
    simp only [hF, hU, List.length_cons, State.stackLimits_setFrames, State.stackBytes_setFrames, hl9, hb9]
    refine ⟨⟨⟨⟨by omega, by omega, by omega, by omega, by omega, h6⟩, ?_⟩, ?_⟩, X.book⟩
    · show T.heap.size + R'.cells ≤ e.platform.maxCells
      omega
    · show T.slotsUsed + R'.slots ≤ e.platform.maxSlots
      omega
  · rw [State.stackLimits_setFrames]; rfl
  · rw [State.stackBytes_setFrames]; rfl
  · refine ⟨?_, Nat.le_refl _, Nat.le_refl _, ?_, ?_, fun a c9 h9 => ⟨c9, h9, rfl, rfl, fun _ _ => rfl⟩⟩
    · obtain ⟨t, ht, -⟩ := State.frames_cons hr
      show T.setVm s.vm = { ((T.setVm s.vm).setFrames (.invoking m args :: below)).setFrames (T.setVm s.vm).frames with heap := T.heap, slotsUsed := T.slotsUsed }
      rw [State.setFrames_setFrames, State.setFrames_self ht]
      rfl
    · show T.slotsUsed = T.slotsUsed + ((T.heap.toList.drop T.heap.size).map (·.slots.size)).sum
      rw [List.drop_eq_nil_of_le (Nat.le_of_eq Array.length_toList)]
      rfl
    · show ((T.heap.toList.drop T.heap.size).map (·.slots.size)).sum ≤ 0
      rw [List.drop_eq_nil_of_le (Nat.le_of_eq Array.length_toList)]
      exact Nat.le_refl _
/-- 'throw new E()': new; dup; invokespecial; athrow -/
theorem vx_throw0 {cc : ByteArray} {pc : Nat} (hexec : p.tables.exec = Jvm.exec) (hb : c.code = cc) (hl : l.stackTraces = false) {own cls : String} {names : List String} {ik ic mc ms : Nat} {A : Nat → Prop}
    (hown : s.vm.findClass own = some m.cls) (hcls : Bundle.fit cls = true) (hnames : ∀ n ∈ names, Bundle.fit n = true)
    (hk : (Cond.classLink own ik cls).before args s = true) (hini : (Cond.initialized cls).before args s = true) (hat : ∀ w ∈ vx_at0 own ic cls names, w.before args s = true)
    (hgood : ∀ w ∈ Cond.classLink own ik cls :: Cond.initialized cls :: vx_at0 own ic cls names, vx_ot w = true)
    (hU : vx_Zq Bundle.tN "UNASSIGNED_STACK" Bundle.steD A s s.heap) (hN : vx_Zq Bundle.tN "SUPPRESSED_SENTINEL" Bundle.listD A s s.heap) (hS : va_S A s.heap H locs) (hsize : ls.size = c.maxLocals)
    (d0 : decode cc pc = .ok (.new ik, 3)) (d3 : decode cc (pc + 3) = .ok (.dup, 1)) (d4 : decode cc (pc + 4) = .ok (.invokespecial ic, 3)) (d7 : decode cc (pc + 7) = .ok (.athrow, 1))
    (hout : ∀ x ∈ c.exceptionTable.toList, covers x (pc + 7) = false)
    (hRframes : names.length + 3 < R.frames) (hRlocals : (rest.map fun v => v.category).sum + (13 * (names.length + 1) + 42) ≤ R.locals) (hRcells : cells + 1 ≤ R.cells) (hRslots : slots + 6 ≤ R.slots) (hlocks : meth.locks = false)
    (hx : ∀ t : State, s.vm.Alike t.vm → H.size ≤ t.heap.size → (∀ q : Nat, q < H.size → t.heap[q]? = H[q]?) → XC cls s t)
    (hf : ∀ z ∈ locs, free z.base) (hc : cells + 1 ≤ mc) (hs : slots + 6 ≤ ms) :
    W p l e R s m args below meth c H locs cells slots (vx_MQ below Qc XC args s mc ms free) (F0 m pc ls rest) := by
  intro T hT X
  have htr : e.platform.stackTraces = false := (show e.platform.stackTraces = l.stackTraces by rw [X.admits.platform]).trans hl
  have Y := vx_rebase X (R' := { frames := R.frames, locals := R.locals, cells := 1, slots := 6 }) (Nat.le_refl _) (Nat.le_refl _) hRcells hRslots
  obtain ⟨s', hA⟩ : ∃ z, z = (T.setVm s.vm).setFrames (.invoking m args :: below) := ⟨_, rfl⟩
  rw [← hA] at Y
  have hvm : s'.vm = s.vm := by rw [hA]; rfl
  have hhp : s'.heap = H := by rw [hA]; exact hT
  have hW0 : s.WarmedH s'.vm := by rw [hvm]; exact State.WarmedH.refl s
  have hat' : ∀ w ∈ vx_at0 own ic cls names, w.before args s' = true := fun w hw => vx_ot_at hW0 hvm.symm (hgood w (List.mem_cons_of_mem _ (List.mem_cons_of_mem _ hw))) (hat w hw)
  have hk' : (Cond.classLink own ik cls).before args s' = true := vx_ot_at hW0 hvm.symm (hgood _ List.mem_cons_self) hk
  have hini' : (Cond.initialized cls).before args s' = true := vx_ot_at hW0 hvm.symm (hgood _ (List.mem_cons_of_mem _ List.mem_cons_self)) hini
  have hU' : vx_Zq Bundle.tN "UNASSIGNED_STACK" Bundle.steD A s' s'.heap := by rw [hhp]; exact vx_Zq.moved hW0.alike (hU.kept hS.2.1)
  have hN' : vx_Zq Bundle.tN "SUPPRESSED_SENTINEL" Bundle.listD A s' s'.heap := by rw [hhp]; exact vx_Zq.moved hW0.alike (hN.kept hS.2.1)
  have h : ∀ w ∈ Bundle.ownAtoms0 own ic cls names, w.before args s' = true := vx_own hat' (vx_isRefq hU'.1) (vx_isRefq hN'.1) hU'.2.word hN'.2.word
  have hown' : s'.vm.findClass own = some m.cls := by rw [hvm]; exact hown
  have hins : (Cond.instantiable cls 6).before args s' = true := h _ (by simp [Bundle.ownAtoms0])
  obtain ⟨vm₁, cX, kX, hfX, hkX, -, -, X₁, st1⟩ := Y.newCold hexec (own := own) (C := cls) (index := ik) (n := 6) hown' hk' hins hini'
    (g := F0 m pc ls rest) rfl (by rw [hb]; exact d0) (Nat.le_refl _) (Nat.le_refl _)
  generalize hT1 : (T.setVm vm₁).pushCell { cls := cX, slots := kX.instanceTypes.map defaultValue, vm := .none } = T1 at X₁ st1
  have hcat : (Value.ref T.heap.size).category = 1 := rfl
  have hcellA : T1.heap[T.heap.size]? = some (freshCell cX kX) := by rw [← hT1]; exact State.heap_pushCell_size _ _
  have d3' : decode c.code (pc + 3) = .ok (.dup, 1) := by rw [hb]; exact d3
  obtain ⟨U, hsteps, hrun, hend, hW, hsame, ce, hce, hO⟩ := X₁.ctorThrow0 hexec htr (own := own) (cls := cls) (names := names) (ic := ic) hown' hcls hnames h (fun x hx => nomatch hx) hfX hkX hcellA (by rw [hhp, hT]; exact Nat.le_refl _)
    (g := { method := m, pc := pc + 4, locals := ls, stack := .ref T.heap.size :: .ref T.heap.size :: rest, locked := none }) rfl hsize rfl rfl (rest := rest) rfl
    (by rw [hb]; exact d4) (by rw [hb]; exact d7) hout hRframes (by simp only [List.map_cons, List.sum_cons, hcat]; omega) hlocks
  obtain ⟨f1, f2⟩ := vx_frame hsame
  rw [hhp] at f1 f2
  have hWs : s.WarmedH U.vm := State.WarmedH.trans hW0 hW
  have hcl : s.vm.findClass cls = some ce.cls := by
    have h9 := hO.cls
    rw [hvm] at h9
    exact h9
  have hall : s.sameButNew ({ U with vm := s.vm } : State) locs mc ms := by
    subst hA
    obtain ⟨e1, e2⟩ := hsame
    rw [State.setFrames_setFrames] at e1
    have h2 : (T.setVm s.vm).sameButNew ({ U with vm := s.vm } : State) [] (0 + 1) (0 + 6) := ⟨e1, e2⟩
    have h3 := X.same.trans h2
    rw [List.append_nil] at h3
    exact h3.mono hc hs
  refine ⟨U, ?_, .threw T.heap.size, hrun, hend, Or.inr ⟨T.heap.size, rfl, cls, ce, locs, hx U hWs.alike f1 (fun q hq => f2 q hq (fun z hz => nomatch hz)), hce, hO.vm, hcl, hWs, hall, hf⟩⟩
  refine st1 _ ?_
  show Steps p.tables e below (T1.setTop { method := m, pc := pc + 3, locals := ls, stack := .ref T.heap.size :: rest, locked := none }) _
  jvm_step X₁.here [X₁.here.top, hexec, d3', Value.category]
  exact hsteps
/-- 'throw new E("text")': new; dup; ldc; invokespecial; athrow -/
theorem vx_throwS {cc : ByteArray} {pc : Nat} (hexec : p.tables.exec = Jvm.exec) (hb : c.code = cc) (hl : l.stackTraces = false) {own cls text : String} {names : List String} {ik is ic mc ms sa : Nat} {A : Nat → Prop}
    (hown : s.vm.findClass own = some m.cls) (hcls : Bundle.fit cls = true) (hnames : ∀ n ∈ names, Bundle.fit n = true)
    (hk : (Cond.classLink own ik cls).before args s = true) (hini : (Cond.initialized cls).before args s = true) (hstr : vk_R own is text sa s) (hat : ∀ w ∈ vx_atS own ic cls names, w.before args s = true)
    (hgood : ∀ w ∈ Cond.classLink own ik cls :: Cond.initialized cls :: vx_atS own ic cls names, vx_ot w = true)
    (hU : vx_Zq Bundle.tN "UNASSIGNED_STACK" Bundle.steD A s s.heap) (hN : vx_Zq Bundle.tN "SUPPRESSED_SENTINEL" Bundle.listD A s s.heap) (hS : va_S A s.heap H locs) (hsize : ls.size = c.maxLocals)
    (d0 : decode cc pc = .ok (.new ik, 3)) (d3 : decode cc (pc + 3) = .ok (.dup, 1)) (d4 : decode cc (pc + 4) = .ok (.ldc is, 2)) (d6 : decode cc (pc + 6) = .ok (.invokespecial ic, 3)) (d9 : decode cc (pc + 9) = .ok (.athrow, 1))
    (hout : ∀ x ∈ c.exceptionTable.toList, covers x (pc + 9) = false)
    (hRframes : names.length + 3 < R.frames) (hRlocals : (rest.map fun v => v.category).sum + (13 * (names.length + 1) + 43) ≤ R.locals) (hRcells : cells + 1 ≤ R.cells) (hRslots : slots + 6 ≤ R.slots) (hlocks : meth.locks = false)
    (hx : ∀ t : State, s.vm.Alike t.vm → H.size ≤ t.heap.size → (∀ q : Nat, q < H.size → t.heap[q]? = H[q]?) → XC cls s t)
    (hf : ∀ z ∈ locs, free z.base) (hc : cells + 1 ≤ mc) (hs : slots + 6 ≤ ms) :
    W p l e R s m args below meth c H locs cells slots (vx_MQ below Qc XC args s mc ms free) (F0 m pc ls rest) := by
  intro T hT X
  have htr : e.platform.stackTraces = false := (show e.platform.stackTraces = l.stackTraces by rw [X.admits.platform]).trans hl
  have Y := vx_rebase X (R' := { frames := R.frames, locals := R.locals, cells := 1, slots := 6 }) (Nat.le_refl _) (Nat.le_refl _) hRcells hRslots
  obtain ⟨s', hA⟩ : ∃ z, z = (T.setVm s.vm).setFrames (.invoking m args :: below) := ⟨_, rfl⟩
  rw [← hA] at Y
  have hvm : s'.vm = s.vm := by rw [hA]; rfl
  have hhp : s'.heap = H := by rw [hA]; exact hT
  have hW0 : s.WarmedH s'.vm := by rw [hvm]; exact State.WarmedH.refl s
  have hat' : ∀ w ∈ vx_atS own ic cls names, w.before args s' = true := fun w hw => vx_ot_at hW0 hvm.symm (hgood w (List.mem_cons_of_mem _ (List.mem_cons_of_mem _ hw))) (hat w hw)
  have hk' : (Cond.classLink own ik cls).before args s' = true := vx_ot_at hW0 hvm.symm (hgood _ List.mem_cons_self) hk
  have hini' : (Cond.initialized cls).before args s' = true := vx_ot_at hW0 hvm.symm (hgood _ (List.mem_cons_of_mem _ List.mem_cons_self)) hini
  have hU' : vx_Zq Bundle.tN "UNASSIGNED_STACK" Bundle.steD A s' s'.heap := by rw [hhp]; exact vx_Zq.moved hW0.alike (hU.kept hS.2.1)
  have hN' : vx_Zq Bundle.tN "SUPPRESSED_SENTINEL" Bundle.listD A s' s'.heap := by rw [hhp]; exact vx_Zq.moved hW0.alike (hN.kept hS.2.1)
  have h : ∀ w ∈ Bundle.ownAtoms own ic cls names, w.before args s' = true := vx_own hat' (vx_isRefq hU'.1) (vx_isRefq hN'.1) hU'.2.word hN'.2.word
  have hown' : s'.vm.findClass own = some m.cls := by rw [hvm]; exact hown
  have hins : (Cond.instantiable cls 6).before args s' = true := h _ (by simp [Bundle.ownAtoms])
  obtain ⟨vm₁, cX, kX, hfX, hkX, -, -, X₁, st1⟩ := Y.newCold hexec (own := own) (C := cls) (index := ik) (n := 6) hown' hk' hins hini'
    (g := F0 m pc ls rest) rfl (by rw [hb]; exact d0) (Nat.le_refl _) (Nat.le_refl _)
  generalize hT1 : (T.setVm vm₁).pushCell { cls := cX, slots := kX.instanceTypes.map defaultValue, vm := .none } = T1 at X₁ st1
  have hcat : (Value.ref T.heap.size).category = 1 := rfl
  have hcellA : T1.heap[T.heap.size]? = some (freshCell cX kX) := by rw [← hT1]; exact State.heap_pushCell_size _ _
  have d3' : decode c.code (pc + 3) = .ok (.dup, 1) := by rw [hb]; exact d3
  have d4' : decode c.code (pc + 4) = .ok (.ldc is, 2) := by rw [hb]; exact d4
  have hstr' : vk_R own is text sa s' := vk_R.warm hW0 hstr
  obtain ⟨U, hsteps, hrun, hend, hW, hsame, ce, hce, hO⟩ := X₁.ctorThrowS hexec htr (own := own) (cls := cls) (names := names) (ic := ic) hown' hcls hnames h (fun x hx => nomatch hx) hfX hkX hcellA (by rw [hhp, hT]; exact Nat.le_refl _) (msg := .ref sa) rfl
    (g := { method := m, pc := pc + 6, locals := ls, stack := .ref sa :: .ref T.heap.size :: .ref T.heap.size :: rest, locked := none }) rfl hsize rfl rfl (rest := rest) rfl
    (by rw [hb]; exact d6) (by rw [hb]; exact d9) hout hRframes (by simp only [List.map_cons, List.sum_cons, hcat]; omega) hlocks
  obtain ⟨f1, f2⟩ := vx_frame hsame
  rw [hhp] at f1 f2
  have hWs : s.WarmedH U.vm := State.WarmedH.trans hW0 hW
  have hcl : s.vm.findClass cls = some ce.cls := by
    have h9 := hO.cls
    rw [hvm] at h9
    exact h9
  have hall : s.sameButNew ({ U with vm := s.vm } : State) locs mc ms := by
    subst hA
    obtain ⟨e1, e2⟩ := hsame
    rw [State.setFrames_setFrames] at e1
    have h2 : (T.setVm s.vm).sameButNew ({ U with vm := s.vm } : State) [] (0 + 1) (0 + 6) := ⟨e1, e2⟩
    have h3 := X.same.trans h2
    rw [List.append_nil] at h3
    exact h3.mono hc hs
  refine ⟨U, ?_, .threw T.heap.size, hrun, hend, Or.inr ⟨T.heap.size, rfl, cls, ce, locs, hx U hWs.alike f1 (fun q hq => f2 q hq (fun z hz => nomatch hz)), hce, hO.vm, hcl, hWs, hall, hf⟩⟩
  refine st1 _ ?_
  show Steps p.tables e below (T1.setTop { method := m, pc := pc + 3, locals := ls, stack := .ref T.heap.size :: rest, locked := none }) _
  jvm_step X₁.here [X₁.here.top, hexec, d3', Value.category]
  exact X₁.ldcString hexec (own := own) (text := text) (index := is) (a := sa) hown' hstr'.1 hstr'.2
    (g := { method := m, pc := pc + 4, locals := ls, stack := .ref T.heap.size :: .ref T.heap.size :: rest, locked := none }) rfl d4' _ hsteps
/-- 'throw new E("text")', the text by a wide index -/
theorem vx_throwSW {cc : ByteArray} {pc : Nat} (hexec : p.tables.exec = Jvm.exec) (hb : c.code = cc) (hl : l.stackTraces = false) {own cls text : String} {names : List String} {ik is ic mc ms sa : Nat} {A : Nat → Prop}
    (hown : s.vm.findClass own = some m.cls) (hcls : Bundle.fit cls = true) (hnames : ∀ n ∈ names, Bundle.fit n = true)
    (hk : (Cond.classLink own ik cls).before args s = true) (hini : (Cond.initialized cls).before args s = true) (hstr : vk_R own is text sa s) (hat : ∀ w ∈ vx_atS own ic cls names, w.before args s = true)
    (hgood : ∀ w ∈ Cond.classLink own ik cls :: Cond.initialized cls :: vx_atS own ic cls names, vx_ot w = true)
    (hU : vx_Zq Bundle.tN "UNASSIGNED_STACK" Bundle.steD A s s.heap) (hN : vx_Zq Bundle.tN "SUPPRESSED_SENTINEL" Bundle.listD A s s.heap) (hS : va_S A s.heap H locs) (hsize : ls.size = c.maxLocals)
    (d0 : decode cc pc = .ok (.new ik, 3)) (d3 : decode cc (pc + 3) = .ok (.dup, 1)) (d4 : decode cc (pc + 4) = .ok (.ldc_w is, 3)) (d7 : decode cc (pc + 7) = .ok (.invokespecial ic, 3)) (d10 : decode cc (pc + 10) = .ok (.athrow, 1))
    (hout : ∀ x ∈ c.exceptionTable.toList, covers x (pc + 10) = false)
    (hRframes : names.length + 3 < R.frames) (hRlocals : (rest.map fun v => v.category).sum + (13 * (names.length + 1) + 43) ≤ R.locals) (hRcells : cells + 1 ≤ R.cells) (hRslots : slots + 6 ≤ R.slots) (hlocks : meth.locks = false)
    (hx : ∀ t : State, s.vm.Alike t.vm → H.size ≤ t.heap.size → (∀ q : Nat, q < H.size → t.heap[q]? = H[q]?) → XC cls s t)
    (hf : ∀ z ∈ locs, free z.base) (hc : cells + 1 ≤ mc) (hs : slots + 6 ≤ ms) :
    W p l e R s m args below meth c H locs cells slots (vx_MQ below Qc XC args s mc ms free) (F0 m pc ls rest) := by
  intro T hT X
  have htr : e.platform.stackTraces = false := (show e.platform.stackTraces = l.stackTraces by rw [X.admits.platform]).trans hl
  have Y := vx_rebase X (R' := { frames := R.frames, locals := R.locals, cells := 1, slots := 6 }) (Nat.le_refl _) (Nat.le_refl _) hRcells hRslots
  obtain ⟨s', hA⟩ : ∃ z, z = (T.setVm s.vm).setFrames (.invoking m args :: below) := ⟨_, rfl⟩
  rw [← hA] at Y
  have hvm : s'.vm = s.vm := by rw [hA]; rfl
  have hhp : s'.heap = H := by rw [hA]; exact hT
  have hW0 : s.WarmedH s'.vm := by rw [hvm]; exact State.WarmedH.refl s
  have hat' : ∀ w ∈ vx_atS own ic cls names, w.before args s' = true := fun w hw => vx_ot_at hW0 hvm.symm (hgood w (List.mem_cons_of_mem _ (List.mem_cons_of_mem _ hw))) (hat w hw)
  have hk' : (Cond.classLink own ik cls).before args s' = true := vx_ot_at hW0 hvm.symm (hgood _ List.mem_cons_self) hk
  have hini' : (Cond.initialized cls).before args s' = true := vx_ot_at hW0 hvm.symm (hgood _ (List.mem_cons_of_mem _ List.mem_cons_self)) hini
  have hU' : vx_Zq Bundle.tN "UNASSIGNED_STACK" Bundle.steD A s' s'.heap := by rw [hhp]; exact vx_Zq.moved hW0.alike (hU.kept hS.2.1)
  have hN' : vx_Zq Bundle.tN "SUPPRESSED_SENTINEL" Bundle.listD A s' s'.heap := by rw [hhp]; exact vx_Zq.moved hW0.alike (hN.kept hS.2.1)
  have h : ∀ w ∈ Bundle.ownAtoms own ic cls names, w.before args s' = true := vx_own hat' (vx_isRefq hU'.1) (vx_isRefq hN'.1) hU'.2.word hN'.2.word
  have hown' : s'.vm.findClass own = some m.cls := by rw [hvm]; exact hown
  have hins : (Cond.instantiable cls 6).before args s' = true := h _ (by simp [Bundle.ownAtoms])
  obtain ⟨vm₁, cX, kX, hfX, hkX, -, -, X₁, st1⟩ := Y.newCold hexec (own := own) (C := cls) (index := ik) (n := 6) hown' hk' hins hini'
    (g := F0 m pc ls rest) rfl (by rw [hb]; exact d0) (Nat.le_refl _) (Nat.le_refl _)
  generalize hT1 : (T.setVm vm₁).pushCell { cls := cX, slots := kX.instanceTypes.map defaultValue, vm := .none } = T1 at X₁ st1
  have hcat : (Value.ref T.heap.size).category = 1 := rfl
  have hcellA : T1.heap[T.heap.size]? = some (freshCell cX kX) := by rw [← hT1]; exact State.heap_pushCell_size _ _
  have d3' : decode c.code (pc + 3) = .ok (.dup, 1) := by rw [hb]; exact d3
  have d4' : decode c.code (pc + 4) = .ok (.ldc_w is, 3) := by rw [hb]; exact d4
  have hstr' : vk_R own is text sa s' := vk_R.warm hW0 hstr
  obtain ⟨U, hsteps, hrun, hend, hW, hsame, ce, hce, hO⟩ := X₁.ctorThrowS hexec htr (own := own) (cls := cls) (names := names) (ic := ic) hown' hcls hnames h (fun x hx => nomatch hx) hfX hkX hcellA (by rw [hhp, hT]; exact Nat.le_refl _) (msg := .ref sa) rfl
    (g := { method := m, pc := pc + 7, locals := ls, stack := .ref sa :: .ref T.heap.size :: .ref T.heap.size :: rest, locked := none }) rfl hsize rfl rfl (rest := rest) rfl
    (by rw [hb]; exact d7) (by rw [hb]; exact d10) hout hRframes (by simp only [List.map_cons, List.sum_cons, hcat]; omega) hlocks
  obtain ⟨f1, f2⟩ := vx_frame hsame
  rw [hhp] at f1 f2
  have hWs : s.WarmedH U.vm := State.WarmedH.trans hW0 hW
  have hcl : s.vm.findClass cls = some ce.cls := by
    have h9 := hO.cls
    rw [hvm] at h9
    exact h9
  have hall : s.sameButNew ({ U with vm := s.vm } : State) locs mc ms := by
    subst hA
    obtain ⟨e1, e2⟩ := hsame
    rw [State.setFrames_setFrames] at e1
    have h2 : (T.setVm s.vm).sameButNew ({ U with vm := s.vm } : State) [] (0 + 1) (0 + 6) := ⟨e1, e2⟩
    have h3 := X.same.trans h2
    rw [List.append_nil] at h3
    exact h3.mono hc hs
  refine ⟨U, ?_, .threw T.heap.size, hrun, hend, Or.inr ⟨T.heap.size, rfl, cls, ce, locs, hx U hWs.alike f1 (fun q hq => f2 q hq (fun z hz => nomatch hz)), hce, hO.vm, hcl, hWs, hall, hf⟩⟩
  refine st1 _ ?_
  show Steps p.tables e below (T1.setTop { method := m, pc := pc + 3, locals := ls, stack := .ref T.heap.size :: rest, locked := none }) _
  jvm_step X₁.here [X₁.here.top, hexec, d3', Value.category]
  exact X₁.ldcStringW hexec (own := own) (text := text) (index := is) (a := sa) hown' hstr'.1 hstr'.2
    (g := { method := m, pc := pc + 4, locals := ls, stack := .ref T.heap.size :: .ref T.heap.size :: rest, locked := none }) rfl d4' _ hsteps
end Ends
section Bodies
variable {l : Launch}
theorem vx_ofW {y : MethodName} {ws ws' : List Cond} {rm : Room} {Pc : Array Value → State → Prop} {Qc : Array Value → State → Outcome → State → Prop} {XC : String → State → State → Prop} {mc ms : Nat} {free : Addr → Prop} {cc : ByteArray} {maxL : Nat} {ret : Option FieldType}
    (hy : plainName y.cls = true) (hw : ws = Cond.code y cc maxL ret :: ws')
    (body : ∀ p e s m args below meth c s₁, BodyLoose p l y (headSpec ws rm) cc maxL ret e s m args below meth c s₁ → c.maxLocals = maxL → (∀ x ∈ c.exceptionTable.toList, False) → Pc args s →
      W p l e (headSpec ws rm).room s m args below meth c s.heap [] 0 0 (vx_MQ below Qc XC args s mc ms free) (entryFrame m args maxL)) : vx_Met l y ws rm Pc Qc XC mc ms free := by
  refine MetFree.of_bodyS (code := cc) (maxLocals := maxL) (ret := ret) hy ?_ ?_
  · intro args s m h hn
    obtain ⟨meth, c, h1, h2, h3, h4, h5, h6, -, -⟩ := Cond.code_spec hn (atoms_spec (ws := ws) h _ (by rw [hw]; exact List.mem_cons_self))
    exact ⟨meth, c, h1, h2, h3, h4, h5, h6⟩
  · intro p e s m args below meth c s₁ B hml hP _
    have hh0 : s₁.heap = s.heap := by rw [B.state]; rfl
    have ht : ∀ x ∈ c.exceptionTable.toList, False := by
      obtain ⟨meth9, c9, h1, h2, -, -, -, -, h7, -⟩ := Cond.code_spec B.named (atoms_spec (ws := ws) B.pre _ (by rw [hw]; exact List.mem_cons_self))
      cases Option.some.inj (h1.symm.trans B.method)
      cases Option.some.inj (h2.symm.trans (Stand.of_body B).code)
      intro x hx
      rw [Array.isEmpty_iff.mp h7] at hx
      cases hx
    obtain ⟨t, a1, o, b1, b2, b3⟩ := body p e s m args below meth c s₁ B hml ht hP s₁ hh0 (Stand.of_body B)
    exact ⟨t, o, a1, b1, b2, b3⟩
/-- the table of a body with handlers -/
theorem vx_table {p : Program} {x y : MethodName} {S : Spec} {cc bytes : ByteArray} {maxL maxL' : Nat} {ret ret' : Option FieldType} {e : Env} {s s₁ : State} {m : MethodId} {args : Array Value} {below : List Frame} {meth : Method} {c : Code} {hh : List (Nat × Nat × Nat × Nat)}
    (B : BodyLoose p l y S cc maxL ret e s m args below meth c s₁) (h : (Cond.codeWith y bytes maxL' ret' hh).before args s = true) : c.exceptionTable.toList = tableOf hh := by
  obtain ⟨m9, meth9, c9, hn9, h1, h2, -, -, h6, -⟩ := Cond.codeWith_spec h
  cases Option.some.inj (hn9.symm.trans B.named)
  cases Option.some.inj (h1.symm.trans B.method)
  cases Option.some.inj (h2.symm.trans (Stand.of_body B).code)
  rw [← h6, table_eq]
end Bodies
end VXA
/-! ===== END ===== -/
/-! ===== BEGIN a static call of a method with an exception table ===== -/
section VXS
variable {p : Program} {l : Launch} {e : Env} {R : Room} {s : State} {m : MethodId} {args : Array Value} {below : List Frame} {meth : Method} {c : Code} {T : State} {H : Heap} {locs : List Loc} {cells slots : Nat}
abbrev vx_CSW (R : Room) (s : State) (args : Array Value) (own : String) (index : Nat) (y : MethodName) (bytes : ByteArray) (maxL : Nat) (ret : Option FieldType) (hh : List (Nat × Nat × Nat × Nat)) (ws : List Cond) (rm : Room) (mc ms n : Nat) : Prop :=
  (rm.cells = mc ∧ rm.slots = ms ∧ rm.frames + 1 ≤ R.frames ∧ 8 + (maxL + 11) + rm.locals ≤ R.locals ∧ (∀ w ∈ ws, ∀ (a' : Array Value) (U : State), s.WarmedH U.vm → w.before a' U = true) ∧ Cond.codeWith y bytes maxL ret hh ∈ ws) ∧
  (Cond.codeWith y bytes maxL ret hh).before args s = true ∧ (Cond.initialized y.cls).before args s = true ∧ (y.cls ≠ "java/lang/invoke/MethodHandle" ∧ y.cls ≠ "java/lang/invoke/VarHandle") ∧
  (∀ sig, parseMethodDescriptor y.desc = some sig → n = sig.parameters.length) ∧ (Cond.methodLink own index y).before args s = true ∧ (Cond.static y).before args s = true
theorem vx_cwSW {own : String} {index maxL mc ms : Nat} {y : MethodName} {bytes : ByteArray} {ret : Option FieldType} {hh : List (Nat × Nat × Nat × Nat)} {Ts ws ws' : List Cond} {rm : Room} (n : Nat) (ht : ∀ w ∈ Ts, w.before args s = true) (hT : GoodIn Ts (va_wsS own index y ws)) (hw : ws = Cond.codeWith y bytes maxL ret hh :: ws') (hrc : rm.cells = mc) (hrs : rm.slots = ms)
    (hd : y.cls ≠ "java/lang/invoke/MethodHandle" ∧ y.cls ≠ "java/lang/invoke/VarHandle" ∧ (parseMethodDescriptor y.desc).map (fun d => d.parameters.length) = some n) (hR : rm.frames + 1 ≤ R.frames ∧ 8 + (maxL + 11) + rm.locals ≤ R.locals) :
    vx_CSW R s args own index y bytes maxL ret hh ws rm mc ms n := by
  have ok : ∀ w ∈ va_wsS own index y ws, w.before args s = true := fun w h => ht w (hT w h).1
  have hG : GoodIn Ts ws := fun w h => hT w (by unfold va_wsS; exact List.mem_append_right _ h)
  have hc : Cond.codeWith y bytes maxL ret hh ∈ ws := by rw [hw]; exact List.mem_cons_self
  refine ⟨⟨hrc, hrs, hR.1, hR.2, pay_in ht hG, hc⟩, ht _ (hG _ hc).1, ok _ (by simp [va_wsS]), ⟨hd.1, hd.2.1⟩, fun sig h => ?_, ok _ (by simp [va_wsS]), ok _ (by simp [va_wsS])⟩
  have h2 := hd.2.2
  rw [h] at h2
  exact (Option.some.inj h2).symm
theorem vx_callSW (X : Stand p l e R s m args below meth c T locs cells slots) (hexec : p.tables.exec = Jvm.exec) {own : String} {index : Nat} {y : MethodName} {bytes : ByteArray} {maxL : Nat} {ret : Option FieldType} {hh : List (Nat × Nat × Nat × Nat)}
    (hown : s.vm.findClass own = some m.cls) (hlink : (Cond.methodLink own index y).before args s = true) (hstat : (Cond.static y).before args s = true) (hinit : (Cond.initialized y.cls).before args s = true)
    (hcode : (Cond.codeWith y bytes maxL ret hh).before args s = true) (hy : y.cls ≠ "java/lang/invoke/MethodHandle" ∧ y.cls ≠ "java/lang/invoke/VarHandle")
    {W9 : Nat} {Pre : Pt → Array Value → Prop} {Post : Pt → Array Value → Option Value → Pt → Prop} (hK : Back l R p e below s args y 3 W9 Pre Post)
    {g : JFrame} (hg : g.method = m) (hsize : g.locals.size = c.maxLocals) {argsL rest : List Value} (hlen : ∀ sig, parseMethodDescriptor y.desc = some sig → argsL.length = sig.parameters.length)
    (hstack : g.stack = argsL.reverse ++ rest) (hW : 2 * g.monitorRoom + (rest.map fun v => v.category).sum ≤ W9) (hdg : decode c.code g.pc = .ok (.invokestatic index, 3))
    (hpre : ∀ vm₁, s.WarmedH vm₁ → Pre ⟨T.setVm vm₁, locs, cells, slots⟩ argsL.toArray) :
    ∃ (v : Option Value) (vm₁ : Vm) (B : Pt), s.WarmedH vm₁ ∧ Stand p l e R s m args below meth c B.U B.locs B.cells B.slots ∧ Post ⟨T.setVm vm₁, locs, cells, slots⟩ argsL.toArray v B ∧
      ∀ target, Steps p.tables e below (B.U.setTop { g with pc := g.pc + 3, stack := v.toList ++ rest }) target → Steps p.tables e below (T.setTop g) target := by
  obtain ⟨mk, methM, cM, hnamed, hmethM, -, -, -, -, -, -, hsigM⟩ := Cond.codeWith_spec hcode
  have hstatic : methM.isStatic = true := Cond.static_spec hnamed hmethM hstat
  obtain ⟨kP, hkP, -⟩ := className_of_methodNamed hnamed
  have hinitP : kP.init = .initialized := Cond.initialized_spec (findClass_of_methodNamed hnamed) hkP hinit
  obtain ⟨vm₁, X₁, hstep₁⟩ := X.invokestatic hexec hown hlink hnamed hmethM hstatic hkP hinitP hy (g := g) hg (argsL := argsL) (rest := rest) (hlen _ hsigM) hstack hdg
  obtain ⟨v, B, X', hpost, hsteps⟩ := hK m meth c ⟨T.setVm vm₁, locs, cells, slots⟩ { g with stack := rest } (.invokestatic index) mk argsL.toArray X₁ hg hsize hdg hW (X₁.named hnamed) (hpre vm₁ X₁.warmed)
  exact ⟨v, vm₁, B, X₁.warmed, X', hpost, fun target h => hstep₁ _ fun acts => by rw [doInvoke_state]; exact hsteps.trans h⟩
theorem vx_runSW {y : MethodName} {bytes cc : ByteArray} {maxL nL mc ms n index : Nat} {ret : Option FieldType} {hh : List (Nat × Nat × Nat × Nat)} {ws : List Cond} {rm : Room} {Pc : Array Value → State → Prop} {Qc : Array Value → State → Outcome → State → Prop} {free : Addr → Prop} {Ts : List Cond} {own : String} {As rest : List Value} {g : JFrame}
    (S : CallFix p m c cc nL s args Ts own) (hM : Met l y ws rm Pc Qc mc ms free) (cw : vx_CSW R s args own index y bytes maxL ret hh ws rm mc ms n) (hp : PreS s H Pc As)
    (hg : g.method = m) (hn : As.length = n) (hsize : g.locals.size = nL) (hstack : g.stack = As.reverse ++ rest) (hW : 2 * g.monitorRoom + (rest.map fun v => v.category).sum ≤ 8) (hdg : decode cc g.pc = .ok (.invokestatic index, 3)) (hf : cells + mc ≤ R.cells ∧ slots + ms ≤ R.slots) :
    va_Run p l e R s m args below meth c H locs cells slots mc ms g rest (Qc As.toArray) (free) := by
  obtain ⟨⟨hrc, hrs, hfr, hlo, hws, hcw⟩, hcode, hini, hy, hlen, hl, hstt⟩ := cw
  have hK : Back l R p e below s args y 3 8 (PreOf R mc ms Pc) (PostOf Qc mc ms free) := va_backW (hh := hh) (bytes := bytes) (maxL := maxL) (ret := ret) hM hp.1 hrc hrs hfr hlo hws hcw (fun a' U hW => word_at hW (Or.inl (by first | rfl | simp [Cond.onTables, Cond.keeps, Cond.steady])) hini)
  obtain ⟨hx, hb, hml, ho, -⟩ := S
  intro T hT X
  obtain ⟨v, vm₁, ⟨U', l2, c2, s2⟩, hW₁, X', ⟨g', mk, t, L, e1, e2, hq, h1, hL, h2, h3⟩, st⟩ := vx_callSW X hx (hh := hh) (bytes := bytes) (maxL := maxL) (ret := ret) ho hl hstt hini hcode hy hK hg (hsize.trans hml.symm) (argsL := As) (rest := rest) (fun sig h => hn.trans (hlen sig h)) hstack hW (by rw [hb]; exact hdg)
    (fun vm₁ hW₁ => ⟨hf.1, hf.2, hp.2 (T.setVm vm₁) hT hW₁⟩)
  dsimp only [Pt.U, Pt.locs, Pt.cells, Pt.slots] at X' e1 e2 h1 h2 h3 st
  subst h1; subst h2; subst h3
  exact ⟨v, (T.setVm vm₁).calling g' mk As.toArray, t, U', L, hT, X', hL, e1, e2, hq, st⟩
/-- not caught here, past rows that name other classes: it goes on to the caller -/
theorem vx_outP {p : Program} {l : Launch} {e : Env} {R : Room} {s : State} {m : MethodId} {args : Array Value} {below : List Frame} {meth : Method} {c : Code} {H : Heap} {locs : List Loc} {cells slots : Nat} {free : Addr → Prop} {ls : Array Slot} {rest : List Value} {Qc : Array Value → State → Outcome → State → Prop} {XC : String → State → State → Prop}
    {pc : Nat} {own E : String} {ce : Cell} {q : Addr} {mc ms : Nat} (hown : s.vm.findClass own = some m.cls) (hlocks : meth.locks = false)
    (hpass : ∀ z ∈ c.exceptionTable.toList, covers z pc = false ∨ (z.catchType ≠ 0 ∧ ∃ nm : String, (Cond.classLink own z.catchType nm).before args s = true ∧ va_Nc E nm s)) (hcell : H[q]? = some ce) (hv : ce.vm = .none) (hcl : s.vm.findClass E = some ce.cls)
    (hx : ∀ t : State, t.heap = H → s.vm.Alike t.vm → XC E s t) (hf : ∀ z ∈ locs, free z.base) (hc : cells ≤ mc) (hs : slots ≤ ms) :
    vx_W p l e R s m args below meth c H locs cells slots (vx_MQ below Qc XC args s mc ms free) (F0 m pc ls rest) q := by
  intro T hT X
  have hpl : e.platform.magicAccessors = ({} : Platform).magicAccessors := by rw [X.admits.platform]
  obtain ⟨vm', hW', X', st⟩ := X.outThrough hlocks q (g := F0 m pc ls rest) rfl rfl rfl (cell := ce) (by rw [hT]; exact hcell) (by rw [hv]; rfl)
    (by obtain ⟨k9, h9, -⟩ := Vm.findClass_spec hcl; exact ⟨k9, h9⟩) (fun z hz => by
      rcases hpass z hz with h | ⟨hz0, nm, hl1, hn1⟩
      · exact Or.inl h
      · obtain ⟨c6, hc6, hcl6⟩ := Cond.classLink_spec hown hl1 e.platform hpl
        obtain ⟨a8, b8, h1, h2, h3⟩ := hn1
        cases Option.some.inj (h1.symm.trans hcl)
        cases Option.some.inj (h2.symm.trans hc6)
        exact Or.inr ⟨hz0, _, hcl6, h3⟩)
  obtain ⟨g₀, hfr⟩ := X'.frames_eq
  have hcell9 : ((T.setVm vm').setFrames (.throwing q :: below)).heap[q]? = some ce := by
    show T.heap[q]? = some ce
    rw [hT]; exact hcell
  have hend : Ended ((T.setVm vm').setFrames (.throwing q :: below)) below (.threw q) := State.frames_setFrames _ (State.cur_lt_of_frames hfr)
  refine ⟨(T.setVm vm').setFrames (.throwing q :: below), ?_, .threw q, X'.here.running, hend, Or.inr ⟨q, rfl, E, ce, locs, hx _ hT (X'.ends _).1.alike, hcell9, hv, hcl, (X'.ends _).1, (X'.ends _).2.mono hc hs, hf⟩⟩
  rw [X.pushThrowing_eq]
  exact st
/-- a thing of a world lies in the heap -/
theorem vx_lt {D : va_G} {cl : List vw_C} {ws : va_W} {H1 : Heap} (h : va_P D cl ws H1) {k : Nat} {q : Nat × va_E} (hk : ws[k]? = some q) : q.1 < H1.size := (h k q hk).lt
end VXS
/-! ===== END ===== -/
/-! ===== BEGIN methods with a table of their own: called by a name, returning or throwing ===== -/
section VXH
/-! vx_backW, vx_callVX, vx_callSX, vx_callVW, vx_runVW, vx_runVX, vx_runSX, vx_ofWH follow the same proofs as their sisters above (Free/Laws.lean, Shelf42/LK1.lean); vx_outP calls Shelf42/NT130.lean (outThrough). -/
section
variable {l : Launch} {R : Room} {p : Program} {e : Env} {below : List Frame} {s : State} {sargs : Array Value} {y : MethodName} {len W9 : Nat}
theorem vx_backW {ws : List Cond} {rm : Room} {Pc : Array Value → State → Prop} {Qc : Array Value → State → Outcome → State → Prop} {XC : String → State → State → Prop} {mc ms : Nat} {free : Addr → Prop} {bytes : ByteArray} {maxL : Nat} {ret : Option FieldType} {hh : List (Nat × Nat × Nat × Nat)}
    (hM : vx_Met l y ws rm Pc Qc XC mc ms free) (hblind : FrameBlind Pc) (hrc : rm.cells = mc) (hrs : rm.slots = ms)
    (hframes : rm.frames + 1 ≤ R.frames) (hlocals : W9 + (maxL + 11) + rm.locals ≤ R.locals)
    (hws : ∀ w ∈ ws, ∀ a' U, s.WarmedH U.vm → w.before a' U = true) (hcode : Cond.codeWith y bytes maxL ret hh ∈ ws) (hinit : ∀ a' U, s.WarmedH U.vm → (Cond.initialized y.cls).before a' U = true) :
    vx_Back l R p e below s sargs y len W9 (PreOf R mc ms Pc) (PostOf Qc mc ms free) (vx_Post XC mc ms free) := by
  intro m meth c A g ig mk a X hg hsize hdg hW hn hp
  have h1 : (headSpec ws rm).pre.before a A.U = true := atoms_intro fun w hw => hws w hw _ _ X.warmed
  have h2 : (Cond.codeWith y bytes maxL ret hh).before a A.U = true := hws _ hcode _ _ X.warmed
  have h3 : (Cond.initialized y.cls).before a A.U = true := hinit _ _ X.warmed
  have h4 : A.cells + (headSpec ws rm).room.cells ≤ R.cells := by rw [show (headSpec ws rm).room.cells = mc from hrc]; exact hp.1
  have h5 : A.slots + (headSpec ws rm).room.slots ≤ R.slots := by rw [show (headSpec ws rm).room.slots = ms from hrs]; exact hp.2.1
  have hPc : Pc a (A.U.calling g mk a) := hblind _ _ _ _ hp.2.2
  obtain ⟨U, Ls, c0, s0⟩ := A
  dsimp only [Pt.U, Pt.locs, Pt.cells, Pt.slots] at h1 h2 h3 h4 h5 X hn hPc ⊢
  obtain ⟨m9, methY, cY, hn9, hmY, hcY, -, hlY, -⟩ := Cond.codeWith_spec h2
  cases Option.some.inj (hn9.symm.trans hn)
  obtain ⟨kY, hkY, -⟩ := className_of_methodNamed hn
  have hinitY : kY.init = .initialized := Cond.initialized_spec (findClass_of_methodNamed hn) hkY h3
  have h : At U g.method c below := by rw [hg]; exact X.here
  have hlocals9 : W9 + (maxL + 11) + (headSpec ws rm).room.locals ≤ R.locals := hlocals
  have happ : (headSpec ws rm).appliesLoose y e.platform (U.calling g mk a) = true :=
    Spec.appliesLoose_calling (g := g) h hdg hn hkY hinitY
      (X.room_calling (g := g) (R' := (headSpec ws rm).room) hsize hmY hcY hframes (by rw [hlY]; omega) h4 h5) h1
  obtain ⟨mid, hmid⟩ := h.above
  have hfr : (U.setTop g).frames = (.java g :: mid) ++ below := by rw [State.frames_setTop' g h.top, hmid]; rfl
  obtain ⟨o, s₂, hsteps, -, hend, hq⟩ := Steps.callFree hM p X.admits X.cas X.clock (acts := []) hfr happ hPc trivial
  have hq' : vx_Q Qc XC mc ms free a (U.calling g mk a) o s₂ := hq
  rw [State.frames_setTop' g h.top] at hend
  obtain ⟨g₀, hg0⟩ := Option.isSome_iff_exists.mp h.top
  obtain ⟨r, hr⟩ := State.topJava?_eq_some.mp hg0
  have hr' : (({ U with heap := s₂.heap, slotsUsed := s₂.slotsUsed } : State).setVm s₂.vm).frames = .java g₀ :: r := hr
  rcases hq' with ⟨hqc, L, hfe, hL⟩ | ⟨q, rfl, E, ce, L, hx, hce, hcv, hcl, hW₂, hsm, hL⟩
  · obtain ⟨⟨v, rfl⟩, hW₂, e2, q2, q3, q4, q5, q6⟩ := id hfe
    have e3 : s₂ = ({ (U.calling g mk a).setFrames s₂.frames with heap := s₂.heap, slotsUsed := s₂.slotsUsed } : State).setVm s₂.vm := by
      have : s₂ = ({ s₂ with vm := (U.calling g mk a).vm } : State).setVm s₂.vm := rfl
      rw [e2] at this
      exact this
    obtain ⟨c₂, i₂, len₂, hc₂, hd₂, hf₂⟩ := hend
    have hW' : U.WarmedH s₂.vm := hW₂
    have hcc : c₂ = c := by
      have h1 : s₂.code? g.method = U.code? g.method := by
        rw [State.code?_eq, State.code?_eq, hW'.alike.method?]
      exact Option.some.inj (hc₂.symm.trans (h1.trans h.code))
    subst hcc
    have hlen : len₂ = len := by rw [hdg] at hd₂; cases hd₂; rfl
    subst hlen
    have hs₂ : s₂ = (({ U with heap := s₂.heap, slotsUsed := s₂.slotsUsed } : State).setVm s₂.vm).setTop { g with pc := g.pc + len₂, stack := v.toList ++ g.stack } := by
      refine e3.trans ?_
      rw [hf₂, State.calling_eq h.top, State.setFrames_setFrames, State.setTop_of_frames _ hr', hr]
      rfl
    have hsame : U.sameButNew ({ U with heap := s₂.heap, slotsUsed := s₂.slotsUsed } : State) L mc ms := by
      refine ⟨?_, q2, q3, q4, q5, q6⟩
      obtain ⟨t, ht, -⟩ := State.frames_cons hr
      show ({ U with heap := s₂.heap, slotsUsed := s₂.slotsUsed } : State) = { U.setFrames U.frames with heap := s₂.heap, slotsUsed := s₂.slotsUsed }
      rw [State.setFrames_self ht]
    subst hg
    refine Or.inl ⟨v, ⟨(({ U with heap := s₂.heap, slotsUsed := s₂.slotsUsed } : State).setVm s₂.vm), Ls ++ L, c0 + mc, s0 + ms⟩,
      ⟨X.admits, X.cas, X.clock, X.frames, X.room, X.hears, X.method, X.code, (X.here.setHeapUsed s₂.heap s₂.slotsUsed).setVm hW'.alike, X.tail, State.WarmedH.trans X.warmed hW', X.limits, X.bytes, X.same.trans (hsame.setVm s.vm)⟩,
      ⟨g, mk, s₂, L, rfl, rfl, hqc, rfl, hL, rfl, rfl⟩, ?_⟩
    show Steps p.tables e below _ ((({ U with heap := s₂.heap, slotsUsed := s₂.slotsUsed } : State).setVm s₂.vm).setTop { g with pc := g.pc + len₂, stack := v.toList ++ g.stack })
    rw [← hs₂]
    exact hsteps
  · obtain ⟨e2, q2, q3, q4, q5, q6⟩ := id hsm
    have e3 : s₂ = ({ (U.calling g mk a).setFrames s₂.frames with heap := s₂.heap, slotsUsed := s₂.slotsUsed } : State).setVm s₂.vm := by
      have : s₂ = ({ s₂ with vm := (U.calling g mk a).vm } : State).setVm s₂.vm := rfl
      rw [e2] at this
      exact this
    have hf₂ : s₂.frames = .throwing q :: .java g :: U.frames.tail := hend
    have hW' : U.WarmedH s₂.vm := hW₂
    have hs₂ : s₂ = ((({ U with heap := s₂.heap, slotsUsed := s₂.slotsUsed } : State).setVm s₂.vm).setTop g).pushFrame (.throwing q) := by
      refine e3.trans ?_
      rw [hf₂, State.calling_eq h.top, State.setFrames_setFrames, State.pushFrame, State.frames_setTop _ hr', State.setTop_of_frames _ hr', State.setFrames_setFrames, hr]
      rfl
    have hsame : U.sameButNew ({ U with heap := s₂.heap, slotsUsed := s₂.slotsUsed } : State) L mc ms := by
      refine ⟨?_, q2, q3, q4, q5, q6⟩
      obtain ⟨t, ht, -⟩ := State.frames_cons hr
      show ({ U with heap := s₂.heap, slotsUsed := s₂.slotsUsed } : State) = { U.setFrames U.frames with heap := s₂.heap, slotsUsed := s₂.slotsUsed }
      rw [State.setFrames_self ht]
    subst hg
    refine Or.inr ⟨q, ⟨(({ U with heap := s₂.heap, slotsUsed := s₂.slotsUsed } : State).setVm s₂.vm), Ls ++ L, c0 + mc, s0 + ms⟩,
      ⟨X.admits, X.cas, X.clock, X.frames, X.room, X.hears, X.method, X.code, (X.here.setHeapUsed s₂.heap s₂.slotsUsed).setVm hW'.alike, X.tail, State.WarmedH.trans X.warmed hW', X.limits, X.bytes, X.same.trans (hsame.setVm s.vm)⟩,
      ⟨g, mk, s₂, L, E, ce, rfl, rfl, hx, hce, hcv, hcl, rfl, hL, rfl, rfl⟩, ?_⟩
    show Steps p.tables e below _ (((({ U with heap := s₂.heap, slotsUsed := s₂.slotsUsed } : State).setVm s₂.vm).setTop g).pushFrame (.throwing q))
    rw [← hs₂]
    exact hsteps
end
variable {p : Program} {l : Launch} {e : Env} {R : Room} {s : State} {m : MethodId} {args : Array Value} {below : List Frame} {meth : Method} {c : Code} {T : State} {H : Heap} {locs : List Loc} {cells slots : Nat}
theorem vx_callVX (X : Stand p l e R s m args below meth c T locs cells slots) (hexec : p.tables.exec = Jvm.exec) {own C : String} {index : Nat} {y : MethodName} {bytes : ByteArray} {maxL : Nat} {ret : Option FieldType} {hh : List (Nat × Nat × Nat × Nat)}
    (hown : s.vm.findClass own = some m.cls) (hlink : (Cond.methodLink own index y).before args s = true) (hinst : (Cond.instanceMethod y).before args s = true) (hsel : (Cond.selects C y y).before args s = true)
    (hcode : (Cond.codeWith y bytes maxL ret hh).before args s = true) (hy : y.cls ≠ "java/lang/invoke/MethodHandle" ∧ y.cls ≠ "java/lang/invoke/VarHandle")
    {W9 : Nat} {Pre : Pt → Array Value → Prop} {Post : Pt → Array Value → Option Value → Pt → Prop} {PostX : Pt → Array Value → Addr → Pt → Prop} (hK : vx_Back l R p e below s args y 3 W9 Pre Post PostX)
    {b : Addr} {cellB : Cell} (hcell : T.heap[b]? = some cellB) (hobj : cellB.vm.isStatics = false) (hcls : s.vm.findClass C = some cellB.cls)
    {g : JFrame} (hg : g.method = m) (hsize : g.locals.size = c.maxLocals) {argsL rest : List Value} (hlen : ∀ sig, parseMethodDescriptor y.desc = some sig → argsL.length = sig.parameters.length)
    (hstack : g.stack = argsL.reverse ++ .ref b :: rest) (hW : 2 * g.monitorRoom + (rest.map fun v => v.category).sum ≤ W9) (hdg : decode c.code g.pc = .ok (.invokevirtual index, 3))
    (hpre : ∀ vm₁, s.WarmedH vm₁ → Pre ⟨T.setVm vm₁, locs, cells, slots⟩ (Value.ref b :: argsL).toArray) :
    (∃ (v : Option Value) (vm₁ : Vm) (B : Pt), s.WarmedH vm₁ ∧ Stand p l e R s m args below meth c B.U B.locs B.cells B.slots ∧ Post ⟨T.setVm vm₁, locs, cells, slots⟩ (Value.ref b :: argsL).toArray v B ∧
      ∀ target, Steps p.tables e below (B.U.setTop { g with pc := g.pc + 3, stack := v.toList ++ rest }) target → Steps p.tables e below (T.setTop g) target) ∨
    (∃ (q : Addr) (vm₁ : Vm) (B : Pt), s.WarmedH vm₁ ∧ Stand p l e R s m args below meth c B.U B.locs B.cells B.slots ∧ PostX ⟨T.setVm vm₁, locs, cells, slots⟩ (Value.ref b :: argsL).toArray q B ∧
      Steps p.tables e below (T.setTop g) ((B.U.setTop { g with stack := rest }).pushFrame (.throwing q))) := by
  obtain ⟨mk, methM, hnamed, hmethM, hstM, habM⟩ := Cond.instanceMethod_spec hinst
  obtain ⟨m8, methM', cM, hn8, hmethM', -, -, -, -, -, -, hsigM⟩ := Cond.codeWith_spec hcode
  cases Option.some.inj (hn8.symm.trans hnamed)
  cases hmethM.symm.trans hmethM'
  obtain ⟨c2, r2, m2, q1, q2, q3, q4, kP, hkP, hkPi⟩ := Cond.selects_spec hsel
  cases hcls.symm.trans q1
  cases (State.methodFound?_of_named hnamed hy).symm.trans q2
  cases hnamed.symm.trans q3
  have hselP : selectMethod e.platform s.vm cellB.cls mk = .method mk := by rw [Launch.admits_selectMethod X.admits]; exact q4
  obtain ⟨vm₁, X₁, hstep₁⟩ := X.invokevirtual hexec hown hlink hnamed hmethM hstM hkP hkPi hy (a := b) (cell := cellB) hcell
    (fun z h => by rw [h] at hobj; cases hobj) hselP hmethM habM hkP hkPi (g := g) hg (argsL := argsL) (rest := rest) (hlen _ hsigM) hstack hdg
  rcases hK m meth c ⟨T.setVm vm₁, locs, cells, slots⟩ { g with stack := rest } (.invokevirtual index) mk (Value.ref b :: argsL).toArray X₁ hg hsize hdg hW (X₁.named hnamed) (hpre vm₁ X₁.warmed) with ⟨v, B, X', hpost, hsteps⟩ | ⟨q, B, X', hpost, hsteps⟩
  · exact Or.inl ⟨v, vm₁, B, X₁.warmed, X', hpost, fun target h => hstep₁ _ fun acts => by rw [doInvoke_state]; exact hsteps.trans h⟩
  · exact Or.inr ⟨q, vm₁, B, X₁.warmed, X', hpost, hstep₁ _ fun acts => by rw [doInvoke_state]; exact hsteps⟩
theorem vx_callSX (X : Stand p l e R s m args below meth c T locs cells slots) (hexec : p.tables.exec = Jvm.exec) {own : String} {index : Nat} {y : MethodName} {bytes : ByteArray} {maxL : Nat} {ret : Option FieldType} {hh : List (Nat × Nat × Nat × Nat)}
    (hown : s.vm.findClass own = some m.cls) (hlink : (Cond.methodLink own index y).before args s = true) (hstat : (Cond.static y).before args s = true) (hinit : (Cond.initialized y.cls).before args s = true)
    (hcode : (Cond.codeWith y bytes maxL ret hh).before args s = true) (hy : y.cls ≠ "java/lang/invoke/MethodHandle" ∧ y.cls ≠ "java/lang/invoke/VarHandle")
    {W9 : Nat} {Pre : Pt → Array Value → Prop} {Post : Pt → Array Value → Option Value → Pt → Prop} {PostX : Pt → Array Value → Addr → Pt → Prop} (hK : vx_Back l R p e below s args y 3 W9 Pre Post PostX)
    {g : JFrame} (hg : g.method = m) (hsize : g.locals.size = c.maxLocals) {argsL rest : List Value} (hlen : ∀ sig, parseMethodDescriptor y.desc = some sig → argsL.length = sig.parameters.length)
    (hstack : g.stack = argsL.reverse ++ rest) (hW : 2 * g.monitorRoom + (rest.map fun v => v.category).sum ≤ W9) (hdg : decode c.code g.pc = .ok (.invokestatic index, 3))
    (hpre : ∀ vm₁, s.WarmedH vm₁ → Pre ⟨T.setVm vm₁, locs, cells, slots⟩ argsL.toArray) :
    (∃ (v : Option Value) (vm₁ : Vm) (B : Pt), s.WarmedH vm₁ ∧ Stand p l e R s m args below meth c B.U B.locs B.cells B.slots ∧ Post ⟨T.setVm vm₁, locs, cells, slots⟩ argsL.toArray v B ∧
      ∀ target, Steps p.tables e below (B.U.setTop { g with pc := g.pc + 3, stack := v.toList ++ rest }) target → Steps p.tables e below (T.setTop g) target) ∨
    (∃ (q : Addr) (vm₁ : Vm) (B : Pt), s.WarmedH vm₁ ∧ Stand p l e R s m args below meth c B.U B.locs B.cells B.slots ∧ PostX ⟨T.setVm vm₁, locs, cells, slots⟩ argsL.toArray q B ∧
      Steps p.tables e below (T.setTop g) ((B.U.setTop { g with stack := rest }).pushFrame (.throwing q))) := by
  obtain ⟨mk, methM, cM, hnamed, hmethM, -, -, -, -, -, -, hsigM⟩ := Cond.codeWith_spec hcode
  have hstatic : methM.isStatic = true := Cond.static_spec hnamed hmethM hstat
  obtain ⟨kP, hkP, -⟩ := className_of_methodNamed hnamed
  have hinitP : kP.init = .initialized := Cond.initialized_spec (findClass_of_methodNamed hnamed) hkP hinit
  obtain ⟨vm₁, X₁, hstep₁⟩ := X.invokestatic hexec hown hlink hnamed hmethM hstatic hkP hinitP hy (g := g) hg (argsL := argsL) (rest := rest) (hlen _ hsigM) hstack hdg
  rcases hK m meth c ⟨T.setVm vm₁, locs, cells, slots⟩ { g with stack := rest } (.invokestatic index) mk argsL.toArray X₁ hg hsize hdg hW (X₁.named hnamed) (hpre vm₁ X₁.warmed) with ⟨v, B, X', hpost, hsteps⟩ | ⟨q, B, X', hpost, hsteps⟩
  · exact Or.inl ⟨v, vm₁, B, X₁.warmed, X', hpost, fun target h => hstep₁ _ fun acts => by rw [doInvoke_state]; exact hsteps.trans h⟩
  · exact Or.inr ⟨q, vm₁, B, X₁.warmed, X', hpost, hstep₁ _ fun acts => by rw [doInvoke_state]; exact hsteps⟩
theorem vx_callVW (X : Stand p l e R s m args below meth c T locs cells slots) (hexec : p.tables.exec = Jvm.exec) {own C : String} {index : Nat} {y : MethodName} {bytes : ByteArray} {maxL : Nat} {ret : Option FieldType} {hh : List (Nat × Nat × Nat × Nat)}
    (hown : s.vm.findClass own = some m.cls) (hlink : (Cond.methodLink own index y).before args s = true) (hinst : (Cond.instanceMethod y).before args s = true) (hsel : (Cond.selects C y y).before args s = true)
    (hcode : (Cond.codeWith y bytes maxL ret hh).before args s = true) (hy : y.cls ≠ "java/lang/invoke/MethodHandle" ∧ y.cls ≠ "java/lang/invoke/VarHandle")
    {W9 : Nat} {Pre : Pt → Array Value → Prop} {Post : Pt → Array Value → Option Value → Pt → Prop} (hK : Back l R p e below s args y 3 W9 Pre Post)
    {b : Addr} {cellB : Cell} (hcell : T.heap[b]? = some cellB) (hobj : cellB.vm.isStatics = false) (hcls : s.vm.findClass C = some cellB.cls)
    {g : JFrame} (hg : g.method = m) (hsize : g.locals.size = c.maxLocals) {argsL rest : List Value} (hlen : ∀ sig, parseMethodDescriptor y.desc = some sig → argsL.length = sig.parameters.length)
    (hstack : g.stack = argsL.reverse ++ .ref b :: rest) (hW : 2 * g.monitorRoom + (rest.map fun v => v.category).sum ≤ W9) (hdg : decode c.code g.pc = .ok (.invokevirtual index, 3))
    (hpre : ∀ vm₁, s.WarmedH vm₁ → Pre ⟨T.setVm vm₁, locs, cells, slots⟩ (Value.ref b :: argsL).toArray) :
    ∃ (v : Option Value) (vm₁ : Vm) (B : Pt), s.WarmedH vm₁ ∧ Stand p l e R s m args below meth c B.U B.locs B.cells B.slots ∧ Post ⟨T.setVm vm₁, locs, cells, slots⟩ (Value.ref b :: argsL).toArray v B ∧
      ∀ target, Steps p.tables e below (B.U.setTop { g with pc := g.pc + 3, stack := v.toList ++ rest }) target → Steps p.tables e below (T.setTop g) target := by
  obtain ⟨mk, methM, hnamed, hmethM, hstM, habM⟩ := Cond.instanceMethod_spec hinst
  obtain ⟨m8, methM', cM, hn8, hmethM', -, -, -, -, -, -, hsigM⟩ := Cond.codeWith_spec hcode
  cases Option.some.inj (hn8.symm.trans hnamed)
  cases hmethM.symm.trans hmethM'
  obtain ⟨c2, r2, m2, q1, q2, q3, q4, kP, hkP, hkPi⟩ := Cond.selects_spec hsel
  cases hcls.symm.trans q1
  cases (State.methodFound?_of_named hnamed hy).symm.trans q2
  cases hnamed.symm.trans q3
  have hselP : selectMethod e.platform s.vm cellB.cls mk = .method mk := by rw [Launch.admits_selectMethod X.admits]; exact q4
  obtain ⟨vm₁, X₁, hstep₁⟩ := X.invokevirtual hexec hown hlink hnamed hmethM hstM hkP hkPi hy (a := b) (cell := cellB) hcell
    (fun z h => by rw [h] at hobj; cases hobj) hselP hmethM habM hkP hkPi (g := g) hg (argsL := argsL) (rest := rest) (hlen _ hsigM) hstack hdg
  obtain ⟨v, B, X', hpost, hsteps⟩ := hK m meth c ⟨T.setVm vm₁, locs, cells, slots⟩ { g with stack := rest } (.invokevirtual index) mk (Value.ref b :: argsL).toArray X₁ hg hsize hdg hW (X₁.named hnamed) (hpre vm₁ X₁.warmed)
  exact ⟨v, vm₁, B, X₁.warmed, X', hpost, fun target h => hstep₁ _ fun acts => by rw [doInvoke_state]; exact hsteps.trans h⟩
abbrev vx_CVW (R : Room) (s : State) (args : Array Value) (own C : String) (index : Nat) (y : MethodName) (bytes : ByteArray) (maxL : Nat) (ret : Option FieldType) (hh : List (Nat × Nat × Nat × Nat)) (ws : List Cond) (rm : Room) (mc ms n : Nat) : Prop :=
  (rm.cells = mc ∧ rm.slots = ms ∧ rm.frames + 1 ≤ R.frames ∧ 8 + (maxL + 11) + rm.locals ≤ R.locals ∧ (∀ w ∈ ws, ∀ (a' : Array Value) (U : State), s.WarmedH U.vm → w.before a' U = true) ∧ Cond.codeWith y bytes maxL ret hh ∈ ws) ∧
  (Cond.codeWith y bytes maxL ret hh).before args s = true ∧ (Cond.initialized y.cls).before args s = true ∧ (y.cls ≠ "java/lang/invoke/MethodHandle" ∧ y.cls ≠ "java/lang/invoke/VarHandle") ∧
  (∀ sig, parseMethodDescriptor y.desc = some sig → n = sig.parameters.length) ∧ (Cond.methodLink own index y).before args s = true ∧ (Cond.instanceMethod y).before args s = true ∧ (Cond.selects C y y).before args s = true
theorem vx_cwVW {own C : String} {index maxL mc ms : Nat} {y : MethodName} {bytes : ByteArray} {ret : Option FieldType} {hh : List (Nat × Nat × Nat × Nat)} {Ts ws ws' : List Cond} {rm : Room} (n : Nat) (ht : ∀ w ∈ Ts, w.before args s = true) (hT : GoodIn Ts (wsV own index C y ws)) (hw : ws = Cond.codeWith y bytes maxL ret hh :: ws') (hrc : rm.cells = mc) (hrs : rm.slots = ms)
    (hd : y.cls = C ∧ y.cls ≠ "java/lang/invoke/MethodHandle" ∧ y.cls ≠ "java/lang/invoke/VarHandle" ∧ (parseMethodDescriptor y.desc).map (fun d => d.parameters.length) = some n) (hR : rm.frames + 1 ≤ R.frames ∧ 8 + (maxL + 11) + rm.locals ≤ R.locals) :
    vx_CVW R s args own C index y bytes maxL ret hh ws rm mc ms n := by
  obtain ⟨hC, hd⟩ := hd
  subst hC
  have ok : ∀ w ∈ wsV own index y.cls y ws, w.before args s = true := fun w h => ht w (hT w h).1
  have hG : GoodIn Ts ws := fun w h => hT w (by unfold wsV; exact List.mem_append_right _ h)
  have hc : Cond.codeWith y bytes maxL ret hh ∈ ws := by rw [hw]; exact List.mem_cons_self
  refine ⟨⟨hrc, hrs, hR.1, hR.2, pay_in ht hG, hc⟩, ht _ (hG _ hc).1, ok _ (by simp [wsV]), ⟨hd.1, hd.2.1⟩, fun sig h => ?_, ok _ (by simp [wsV]), ok _ (by simp [wsV]), ok _ (by simp [wsV])⟩
  have h2 := hd.2.2
  rw [h] at h2
  exact (Option.some.inj h2).symm
theorem vx_runVW {y : MethodName} {bytes cc : ByteArray} {maxL nL mc ms n index : Nat} {ret : Option FieldType} {hh : List (Nat × Nat × Nat × Nat)} {ws : List Cond} {rm : Room} {Pc : Array Value → State → Prop} {Qc : Array Value → State → Outcome → State → Prop} {free : Addr → Prop} {Ts : List Cond} {own C : String} {b : Addr} {As rest : List Value} {g : JFrame}
    (S : CallFix p m c cc nL s args Ts own) (hM : Met l y ws rm Pc Qc mc ms free) (cw : vx_CVW R s args own C index y bytes maxL ret hh ws rm mc ms n) (hp : PreV s H C b Pc As)
    (hg : g.method = m) (hn : As.length = n) (hsize : g.locals.size = nL) (hstack : g.stack = As.reverse ++ .ref b :: rest) (hW : 2 * g.monitorRoom + (rest.map fun v => v.category).sum ≤ 8) (hdg : decode cc g.pc = .ok (.invokevirtual index, 3)) (hf : cells + mc ≤ R.cells ∧ slots + ms ≤ R.slots) :
    va_Run p l e R s m args below meth c H locs cells slots mc ms g rest (Qc (Value.ref b :: As).toArray) free := by
  obtain ⟨⟨hrc, hrs, hfr, hlo, hws, hcw⟩, hcode, hini, hy, hlen, hl, hin, hse⟩ := cw
  have hK : Back l R p e below s args y 3 8 (PreOf R mc ms Pc) (PostOf Qc mc ms free) := va_backW (hh := hh) (bytes := bytes) (maxL := maxL) (ret := ret) hM hp.1 hrc hrs hfr hlo hws hcw (fun a' U hW => word_at hW (Or.inl (by first | rfl | simp [Cond.onTables, Cond.keeps, Cond.steady])) hini)
  obtain ⟨hx, hb, hml, ho, -⟩ := S
  obtain ⟨-, ⟨cellB, hcB, hoB, hclB⟩, hPc⟩ := hp
  intro T hT X
  obtain ⟨v, vm₁, ⟨U', l2, c2, s2⟩, hW₁, X', ⟨g', mk, t, L, e1, e2, hq, h1, hL, h2, h3⟩, st⟩ := vx_callVW X hx (C := C) (hh := hh) (bytes := bytes) (maxL := maxL) (ret := ret) ho hl hin hse hcode hy hK (by rw [hT]; exact hcB) hoB hclB hg (hsize.trans hml.symm) (argsL := As) (rest := rest) (fun sig h => hn.trans (hlen sig h)) hstack hW (by rw [hb]; exact hdg)
    (fun vm₁ hW₁ => ⟨hf.1, hf.2, hPc (T.setVm vm₁) hT hW₁⟩)
  dsimp only [Pt.U, Pt.locs, Pt.cells, Pt.slots] at X' e1 e2 h1 h2 h3 st
  subst h1; subst h2; subst h3
  exact ⟨v, (T.setVm vm₁).calling g' mk (Value.ref b :: As).toArray, t, U', L, hT, X', hL, e1, e2, hq, st⟩
section
variable {y : MethodName} {bytes cc : ByteArray} {maxL nL mc ms n index : Nat} {ret : Option FieldType} {ws : List Cond} {rm : Room} {Pc : Array Value → State → Prop} {Qc : Array Value → State → Outcome → State → Prop} {XC : String → State → State → Prop} {free : Addr → Prop} {Ts : List Cond} {own C : String} {b : Addr} {As rest : List Value} {g : JFrame}
theorem vx_runVX {hh : List (Nat × Nat × Nat × Nat)} (S : CallFix p m c cc nL s args Ts own) (hM : vx_Met l y ws rm Pc Qc XC mc ms free) (cw : vx_CVW R s args own C index y bytes maxL ret hh ws rm mc ms n) (hp : PreV s H C b Pc As)
    (hg : g.method = m) (hn : As.length = n) (hsize : g.locals.size = nL) (hstack : g.stack = As.reverse ++ .ref b :: rest) (hW : 2 * g.monitorRoom + (rest.map fun v => v.category).sum ≤ 8) (hdg : decode cc g.pc = .ok (.invokevirtual index, 3)) (hf : cells + mc ≤ R.cells ∧ slots + ms ≤ R.slots) :
    vx_Run p l e R s m args below meth c H locs cells slots mc ms g rest (Qc (Value.ref b :: As).toArray) XC free := by
  obtain ⟨⟨hrc, hrs, hfr, hlo, hws, hcw⟩, hcode, hini, hy, hlen, hl, hin, hse⟩ := cw
  have hK : vx_Back l R p e below s args y 3 8 (PreOf R mc ms Pc) (PostOf Qc mc ms free) (vx_Post XC mc ms free) := vx_backW (hh := hh) (bytes := bytes) (maxL := maxL) (ret := ret) hM hp.1 hrc hrs hfr hlo hws hcw (fun a' U hW => word_at hW (Or.inl (by first | rfl | simp [Cond.onTables, Cond.keeps, Cond.steady])) hini)
  obtain ⟨hx, hb, hml, ho, -⟩ := S
  obtain ⟨-, ⟨cellB, hcB, hoB, hclB⟩, hPc⟩ := hp
  intro T hT X
  rcases vx_callVX X hx (C := C) (hh := hh) (bytes := bytes) (maxL := maxL) (ret := ret) ho hl hin hse hcode hy hK (by rw [hT]; exact hcB) hoB hclB hg (hsize.trans hml.symm) (argsL := As) (rest := rest) (fun sig h => hn.trans (hlen sig h)) hstack hW (by rw [hb]; exact hdg)
    (fun vm₁ hW₁ => ⟨hf.1, hf.2, hPc (T.setVm vm₁) hT hW₁⟩) with ⟨v, vm₁, ⟨U', l2, c2, s2⟩, hW₁, X', ⟨g', mk, t, L, e1, e2, hq, h1, hL, h2, h3⟩, st⟩ | ⟨q, vm₁, ⟨U', l2, c2, s2⟩, hW₁, X', ⟨g', mk, t, L, E, ce, e1, e2, hq, hce, hcv, hcl, h1, hL, h2, h3⟩, st⟩
  · dsimp only [Pt.U, Pt.locs, Pt.cells, Pt.slots] at X' e1 e2 h1 h2 h3 st
    subst h1; subst h2; subst h3
    exact Or.inl ⟨v, (T.setVm vm₁).calling g' mk (Value.ref b :: As).toArray, t, U', L, hT, X', hL, e1, e2, hq, st⟩
  · dsimp only [Pt.U, Pt.locs, Pt.cells, Pt.slots] at X' e1 e2 h1 h2 h3 st hcl
    subst h1; subst h2; subst h3
    exact Or.inr ⟨q, (T.setVm vm₁).calling g' mk (Value.ref b :: As).toArray, t, U', L, E, ce, hT, X', hL, e1, e2, hq, hce, hcv, vx_cls hW₁ hcl, st⟩
theorem vx_runSX {hh : List (Nat × Nat × Nat × Nat)} (S : CallFix p m c cc nL s args Ts own) (hM : vx_Met l y ws rm Pc Qc XC mc ms free) (cw : vx_CSW R s args own index y bytes maxL ret hh ws rm mc ms n) (hp : PreS s H Pc As)
    (hg : g.method = m) (hn : As.length = n) (hsize : g.locals.size = nL) (hstack : g.stack = As.reverse ++ rest) (hW : 2 * g.monitorRoom + (rest.map fun v => v.category).sum ≤ 8) (hdg : decode cc g.pc = .ok (.invokestatic index, 3)) (hf : cells + mc ≤ R.cells ∧ slots + ms ≤ R.slots) :
    vx_Run p l e R s m args below meth c H locs cells slots mc ms g rest (Qc As.toArray) XC free := by
  obtain ⟨⟨hrc, hrs, hfr, hlo, hws, hcw⟩, hcode, hini, hy, hlen, hl, hstt⟩ := cw
  have hK : vx_Back l R p e below s args y 3 8 (PreOf R mc ms Pc) (PostOf Qc mc ms free) (vx_Post XC mc ms free) := vx_backW (hh := hh) (bytes := bytes) (maxL := maxL) (ret := ret) hM hp.1 hrc hrs hfr hlo hws hcw (fun a' U hW => word_at hW (Or.inl (by first | rfl | simp [Cond.onTables, Cond.keeps, Cond.steady])) hini)
  obtain ⟨hx, hb, hml, ho, -⟩ := S
  intro T hT X
  rcases vx_callSX X hx (hh := hh) (bytes := bytes) (maxL := maxL) (ret := ret) ho hl hstt hini hcode hy hK hg (hsize.trans hml.symm) (argsL := As) (rest := rest) (fun sig h => hn.trans (hlen sig h)) hstack hW (by rw [hb]; exact hdg)
    (fun vm₁ hW₁ => ⟨hf.1, hf.2, hp.2 (T.setVm vm₁) hT hW₁⟩) with ⟨v, vm₁, ⟨U', l2, c2, s2⟩, hW₁, X', ⟨g', mk, t, L, e1, e2, hq, h1, hL, h2, h3⟩, st⟩ | ⟨q, vm₁, ⟨U', l2, c2, s2⟩, hW₁, X', ⟨g', mk, t, L, E, ce, e1, e2, hq, hce, hcv, hcl, h1, hL, h2, h3⟩, st⟩
  · dsimp only [Pt.U, Pt.locs, Pt.cells, Pt.slots] at X' e1 e2 h1 h2 h3 st
    subst h1; subst h2; subst h3
    exact Or.inl ⟨v, (T.setVm vm₁).calling g' mk As.toArray, t, U', L, hT, X', hL, e1, e2, hq, st⟩
  · dsimp only [Pt.U, Pt.locs, Pt.cells, Pt.slots] at X' e1 e2 h1 h2 h3 st hcl
    subst h1; subst h2; subst h3
    exact Or.inr ⟨q, (T.setVm vm₁).calling g' mk As.toArray, t, U', L, E, ce, hT, X', hL, e1, e2, hq, hce, hcv, vx_cls hW₁ hcl, st⟩
end
end VXH
theorem vx_ofWH {l : Launch} {y : MethodName} {ws ws' : List Cond} {rm : Room} {Pc : Array Value → State → Prop} {Qc : Array Value → State → Outcome → State → Prop} {XC : String → State → State → Prop} {mc ms : Nat} {free : Addr → Prop} {cc : ByteArray} {maxL : Nat} {ret : Option FieldType} {hh : List (Nat × Nat × Nat × Nat)}
    (hy : plainName y.cls = true) (hw : ws = Cond.codeWith y cc maxL ret hh :: ws')
    (body : ∀ p e s m args below meth c s₁, BodyLoose p l y (headSpec ws rm) cc maxL ret e s m args below meth c s₁ → c.maxLocals = maxL → Pc args s →
      W p l e (headSpec ws rm).room s m args below meth c s.heap [] 0 0 (vx_MQ below Qc XC args s mc ms free) (entryFrame m args maxL)) : vx_Met l y ws rm Pc Qc XC mc ms free := by
  refine MetFree.of_bodyS (code := cc) (maxLocals := maxL) (ret := ret) hy ?_ ?_
  · intro args s m h hn
    obtain ⟨m9, meth, c, hn9, h1, h2, h3, h4, -, h5, h6, -⟩ := Cond.codeWith_spec (atoms_spec (ws := ws) h _ (by rw [hw]; exact List.mem_cons_self))
    cases hn.symm.trans hn9
    exact ⟨meth, c, h1, h2, h3, h4, h5, h6⟩
  · intro p e s m args below meth c s₁ B hml hP _
    have hh0 : s₁.heap = s.heap := by rw [B.state]; rfl
    obtain ⟨t, a1, o, b1, b2, b3⟩ := body p e s m args below meth c s₁ B hml hP s₁ hh0 (Stand.of_body B)
    exact ⟨t, o, a1, b1, b2, b3⟩
/-! ===== END ===== -/

/-! ===== BEGIN what the machine throws by itself, no traces kept ===== -/
section VXM
set_option maxHeartbeats 1000000 in
/-- the machine throws cls with the message text, no traces kept: from its note over the frame g to 'throwing' over the same frame (follows the proofs of Stand.vmThrowsMessage, Shelf/KitTracedVmS.lean, and Stand.throwsMessageColdBareV, StandMessageColdV.lean, without the step out of the frame) -/
theorem vx_vmAt {p : Program} {l : Launch} {e : Env} {R : Room} {s : State} {m₀ : MethodId} {args : Array Value} {below : List Frame} {meth : Method} {c : Code} {W : State} {locs : List Loc} {cells slots : Nat}
    (X : Stand p l e R s m₀ args below meth c W locs cells slots) (hexec : p.tables.exec = Jvm.exec) (htr : e.platform.stackTraces = false) {cls : String} {names : List String} {text : String}
    (hcls : Bundle.fit cls = true) (hnames : ∀ n ∈ names, Bundle.fit n = true) (hsoe : (cls == "java/lang/StackOverflowError") = false) (hoom : (cls == "java/lang/OutOfMemoryError") = false)
    (h : ∀ a ∈ Bundle.messageArmAtoms cls names, a.before args s = true)
    (hlocs : ∀ x ∈ locs, ∀ cell, s.heap[x.base]? = some cell → cell.vm.isStatics = false)
    (htext : (text == notModelled) = false) (hlimit : ¬ (stringBytes (stringToUtf16 text)).size > e.platform.arrayLengthLimit) (hheap : ¬ (stringBytes (stringToUtf16 text)).size * componentBytes .byte > e.platform.maxHeapBytes)
    {g : JFrame} (hg : g.method = m₀) (hsize : g.locals.size = c.maxLocals)
    (hRframes : names.length + 4 < R.frames) (hRlocals : 2 * g.monitorRoom + (g.stack.map fun v => v.category).sum + 10240 ≤ R.locals) (hshort : 13 * names.length + 55 ≤ 10240)
    (hRcells : cells + 3 ≤ R.cells) (hRslots : slots + ((stringBytes (stringToUtf16 text)).size + 4 + 6) ≤ R.slots) (hlocks : meth.locks = false) :
    ∃ (S : State) (q : Addr) (ce : Cell), (∀ target, Steps p.tables e below ((S.setTop g).pushFrame (.throwing q)) target → Steps p.tables e below ((W.setTop g).pushFrame (.throwNew cls (some text) none)) target) ∧
      Stand p l e R s m₀ args below meth c S locs (cells + 3) (slots + ((stringBytes (stringToUtf16 text)).size + 4 + 6)) ∧ S.heap[q]? = some ce ∧ s.vm.findClass cls = some ce.cls ∧ ce.vm = .none := by
  have howns : e.platform.frameOwnsMonitors = true := by rw [X.admits.platform]
  have hfin : e.platform.finalization = false := by rw [X.admits.platform]
  have hpl : e.platform.magicAccessors = ({} : Platform).magicAccessors := by rw [X.admits.platform]
  have a : ∀ x, x ∈ Bundle.messageArmAtoms cls names → x.holds args s none s [] = true := fun x hx => h x hx
  obtain ⟨T, Z0, L, -, Y⟩ := ThrowableC.of_atoms (args := args) howns hfin hpl (fun x hx => h x (by simp [Bundle.messageArmAtoms, hx]))
  obtain ⟨Z, M, LZ, LM, hnZ⟩ := Init0T.ofS_atoms (args := args) hpl L Y (fun x hx => h x (by simp [Bundle.messageArmAtoms, hx]))
  obtain ⟨P1, Ps, hlen, L1, hL, hP1m, hlink1, hlink⟩ := Bundle.chainS (args := args) hpl hnZ names cls hcls hnames (fun x hx => h x (by simp [Bundle.messageArmAtoms, hx]))
  obtain ⟨Zs, LZs, hn4, hfitv, hfitc⟩ := StringT.of_atoms (args := args) (fun x hx => h x (by simp [Bundle.messageArmAtoms, hx]))
  have hfound : s.vm.findClass cls = some P1.m.cls := findClass_of_methodNamed hP1m
  obtain ⟨c1, kX, hc1, hk, hord, -, -, hn6⟩ := Cond.instantiable_spec (a (.instantiable cls 6) (by simp [Bundle.messageArmAtoms]))
  cases Option.some.inj (hc1.symm.trans hfound)
  have hinit := Cond.initialized_spec hfound hk (a (.initialized cls) (by simp [Bundle.messageArmAtoms]))
  have hctor : kX.findMethod "<init>" "(Ljava/lang/String;)V" = some P1.m.idx := findMethod_of_methodNamed hP1m hk
  have hsel0 : selectMethod e.platform s.vm P1.m.cls T.fill0 = .method T.fill0 := by
    obtain ⟨c2, r2, m2, q1, q2, q3, q4, -⟩ := Cond.selects_spec (a (.selects cls Bundle.tFill0 Bundle.tFill0) (by simp [Bundle.messageArmAtoms]))
    cases Option.some.inj (q1.symm.trans hfound)
    cases Option.some.inj (q2.symm.trans (State.methodFound?_of_named Y.fill0 (by decide)))
    cases Option.some.inj (q3.symm.trans Y.fill0)
    rw [Launch.admits_selectMethod X.admits]; exact q4
  have hselF : selectMethod e.platform s.vm P1.m.cls T.fill = .method T.fill := by
    obtain ⟨c2, r2, m2, q1, q2, q3, q4, -⟩ := Cond.selects_spec (a (.selects cls Bundle.tFill Bundle.tFill) (by simp [Bundle.messageArmAtoms]))
    cases Option.some.inj (q1.symm.trans hfound)
    cases Option.some.inj (q2.symm.trans (State.methodFound?_of_named Y.fill (by decide)))
    cases Option.some.inj (q3.symm.trans Y.fill)
    rw [Launch.admits_selectMethod X.admits]; exact q4
  obtain ⟨cellS0, hcS0, hiss⟩ := Y.statics
  obtain ⟨u0, hu0⟩ := Cond.staticRefV Y.unassigned L.unassignedStatic L.statics hcS0 hiss (a (.isRef (.static Bundle.tN "UNASSIGNED_STACK" Bundle.steD)) (by simp [Bundle.messageArmAtoms]))
  obtain ⟨sen, hsen⟩ := Cond.staticRefV Y.sentinel L.sentinelStatic L.statics hcS0 hiss (a (.isRef (.static Bundle.tN "SUPPRESSED_SENTINEL" Bundle.listD)) (by simp [Bundle.messageArmAtoms]))
  obtain ⟨ci198, i198, fB, hk198, hg198, ha198, hsB, -, hnB, htB, hffB⟩ := Cond.ownField (t := .object "java/lang/Object") Y.found L.cls (by decide +kernel) (a (.fieldLink Bundle.tN 198 Bundle.tN "backtrace" "Ljava/lang/Object;") (by simp [Bundle.messageArmAtoms])) (a (.lays Bundle.tN Bundle.tN "backtrace" "Ljava/lang/Object;") (by simp [Bundle.messageArmAtoms])) e.platform hpl
  obtain ⟨cellS, hcS', heS, -, hkeep⟩ := X.same.2.2.2.2.2 T.aS cellS0 hcS0
  have hcellS : W.heap[T.aS]? = some cellS := hcS'
  have hout' : ∀ i, (⟨T.aS, i⟩ : Loc) ∉ locs := fun i hmem => by
    have := hlocs _ hmem cellS0 hcS0
    rw [hiss] at this; cases this
  have hknownS : cellS.vm ≠ .unknown := by
    rw [heS]; intro hu
    rw [show cellS0.vm = .unknown from hu] at hiss
    cases hiss
  have hvU : cellS.slots[T.fUnassigned.slot]? = some u0.v := by rw [hkeep _ (hout' _)]; exact hu0
  have hvSen : cellS.slots[T.fSentinel.slot]? = some sen.v := by rw [hkeep _ (hout' _)]; exact hsen
  obtain ⟨iM, hffM⟩ := Y.msg
  obtain ⟨tyC, dC, hdC, hdnC⟩ := Cond.laysAt hfound hk Y.cause (a (.lays cls Bundle.tN "cause" "Ljava/lang/Throwable;") (by simp [Bundle.messageArmAtoms]))
  obtain ⟨tyS, dS, hdS, hdnS⟩ := Cond.laysAt hfound hk Y.stack (a (.lays cls Bundle.tN "stackTrace" Bundle.steD) (by simp [Bundle.messageArmAtoms]))
  obtain ⟨tyP, dP, hdP, hdnP⟩ := Cond.laysAt hfound hk Y.supp (a (.lays cls Bundle.tN "suppressedExceptions" Bundle.listD) (by simp [Bundle.messageArmAtoms]))
  obtain ⟨tyM, dM, hdM, hdnM⟩ := Cond.laysAt hfound hk hffM (a (.lays cls Bundle.tN "detailMessage" "Ljava/lang/String;") (by simp [Bundle.messageArmAtoms]))
  obtain ⟨tyB, dB, hdB, hdnB⟩ := Cond.laysAt hfound hk hffB (a (.lays cls Bundle.tN "backtrace" "Ljava/lang/Object;") (by simp [Bundle.messageArmAtoms]))
  have bC := Cond.laysApart hdB hdC hdnB hdnC (by rw [hnB, Y.causeName]; decide)
  have bS := Cond.laysApart hdB hdS hdnB hdnS (by rw [hnB, Y.stackName]; decide)
  have bP := Cond.laysApart hdB hdP hdnB hdnP (by rw [hnB, Y.suppName]; decide)
  have hbk : ((preparedCellV T.toThrowableT (freshCell P1.m.cls kX) (W.heap.size + 2) u0 sen).withEntry W.cur).slots[fB.slot]? = some .null := by
    have := fresh_default (c := P1.m.cls) tyB
    rw [htB] at this
    simpa [preparedCellV, Cell.setSlot, Cell.withEntry, Array.getElem?_setIfInBounds, bC, bS, bP, bC.symm, bS.symm, bP.symm, defaultValue] using this
  have tkC := Takes.of_laid (v := .ref (W.heap.size + 2)) hk hord tyC (by rw [Y.causeType]; rfl)
  have tkS := Takes.of_laid (v := u0.v) hk hord tyS (by rw [Y.stackType]; exact fits_refV_array _ u0)
  have tkP := Takes.of_laid (v := sen.v) hk hord tyP (by rw [Y.suppType]; exact fits_refV_object _ sen)
  have tkM := Takes.of_laid (v := .ref (W.heap.size + 1)) hk hord tyM (by rw [Y.msgType]; rfl)
  have hskip : SkipFacts T e.platform s (fun u => u) u0 ((preparedCellV T.toThrowableT (freshCell P1.m.cls kX) (W.heap.size + 2) u0 sen).withEntry W.cur) := ⟨{ ci198 := ci198, i198 := i198, fBack := fB }, ⟨hk198, hg198, ha198, hsB⟩, hbk, fun _ _ => rfl⟩
  have h0 : At W g.method c below := by rw [hg]; exact X.here
  obtain ⟨hbeyond, hfreeW⟩ := X.vmMayThrow hsize (.throwNew cls (some text) none) (fun f hf => by cases hf) rfl hRlocals
  have hfr' : W.frames.length + Ps.length + 4 < (e.platform.stackLimits W.me).1 := by have := X.framesAbove hRframes; omega
  have hwd' : (stackUse (.java g :: W.frames.tail)).2 + 13 * Ps.length + 55 ≤ (e.platform.stackLimits W.me).2 := by have := X.stackAbove hsize (K := 13 * Ps.length + 55) (by omega); omega
  have hslots : W.slotsUsed + (stringBytes (stringToUtf16 text)).size + Zs.kS.instanceTypes.size + kX.instanceTypes.size ≤ e.platform.maxSlots := by
    have := X.slotsAbove hRslots
    rw [hn4, hn6]
    omega
  obtain ⟨vm', hW', st⟩ := Steps.vmThrowsMessageColdByV p (s₀ := s) (S := W) (g := g) h0 hexec T L Z LZ M LM X.warmed (t := W.cur) rfl Zs LZs P1 L1 Ps hL hlink1 hlink hsoe hoom hfound hk hinit hord hctor
    (Launch.admits_hotImplicitExceptions X.admits) hbeyond hfreeW htext hlimit hheap (X.cellsAbove hRcells) hslots (hfitv _) (hfitc _)
    (Nn := fun u => u) heapOnly_id (fun _ _ => rfl) (fun _ => rfl) (fun u x y => setCell_twice _ _ _ _) (fun _ => Nat.le_refl _) (cN := ((preparedCellV T.toThrowableT (freshCell P1.m.cls kX) (W.heap.size + 2) u0 sen).withEntry W.cur))
    hsel0 hcellS hknownS hvU tkS (fun _ hu => hu) (fun _ hu => hu) rfl rfl rfl (by simp [preparedCellV, Cell.setSlot, Cell.withEntry]) hskip (fun _ _ hA hW _ hroom _ hrest => L.nativeOff p htr hA hW hroom hrest) hselF hvSen tkC tkP tkM Y.objLocals rfl hfr' hwd'
  rw [plainBareV_eq T.toThrowableT (W.heap.size + 2) u0 sen (.ref (W.heap.size + 1)) W.cur rfl rfl] at st
  obtain ⟨-, -, w3, w4, -, -, -⟩ := withThrown_facts e.platform W Zs text P1.m.cls kX
  have X3 := ((X.pushed (bytesOf Zs.cB (stringToUtf16 text))).pushed (stringAt Zs.cS Zs.kS Zs.fv Zs.fc (stringToUtf16 text) W.heap.size)).pushed (freshCell P1.m.cls kX)
  rw [← withString_eq] at X3
  have X4 := X3.noted hW'
  have ha : (W.heap.size + 2) < ((withThrown W Zs text P1.m.cls kX).setVm vm').heap.size := by show _ < (withThrown W Zs text P1.m.cls kX).heap.size; rw [w3]; omega
  have hcell : ((withThrown W Zs text P1.m.cls kX).setVm vm').heap[(W.heap.size + 2)]? = some (freshCell P1.m.cls kX) := w4
  have X5 := ((((X4.stored hcell T.fCause.slot (.ref (W.heap.size + 2))).storedAgain ha T.fStack.slot u0.v).storedAgain ha T.fSupp.slot sen.v).storedAgain ha T.fStack.slot u0.v).storedAgain ha T.fMsg.slot (.ref (W.heap.size + 1))
  obtain ⟨g₁, hfrM⟩ := X5.frames_eq
  have hU : ((((withThrown W Zs text P1.m.cls kX).setVm vm').setCell (W.heap.size + 2) (plainBareV T.toThrowableT (freshCell P1.m.cls kX) (W.heap.size + 2) u0 sen (.ref (W.heap.size + 1)))).setTop g).pushFrame (.throwing (W.heap.size + 2)) = (((withThrown W Zs text P1.m.cls kX).setVm vm').setCell (W.heap.size + 2) (plainBareV T.toThrowableT (freshCell P1.m.cls kX) (W.heap.size + 2) u0 sen (.ref (W.heap.size + 1)))).setFrames (.throwing (W.heap.size + 2) :: .java g :: below) := by
    rw [State.pushFrame, State.frames_setTop _ hfrM, State.setTop_of_frames _ hfrM, State.setFrames_setFrames]
  have b1 : (bytesOf Zs.cB (stringToUtf16 text)).slots.size = (stringBytes (stringToUtf16 text)).size := by
    rw [(Cell.writeAll_facts _ _).2.2]; simp [bytes0]
  have b2 : (stringAt Zs.cS Zs.kS Zs.fv Zs.fc (stringToUtf16 text) W.heap.size).slots.size = 4 := by simp [string0, Cell.setSlot, hn4]
  have b3 : (freshCell P1.m.cls kX).slots.size = 6 := by simp [hn6]
  rw [b1, b2, b3] at X5
  have e9 : slots + (stringBytes (stringToUtf16 text)).size + 4 + 6 = slots + ((stringBytes (stringToUtf16 text)).size + 4 + 6) := by omega
  rw [e9] at X5
  simp only [List.append_assoc, List.cons_append, List.nil_append] at X5
  refine ⟨((withThrown W Zs text P1.m.cls kX).setVm vm').setCell (W.heap.size + 2) (plainBareV T.toThrowableT (freshCell P1.m.cls kX) (W.heap.size + 2) u0 sen (.ref (W.heap.size + 1))), W.heap.size + 2, _, fun target ht => st _ (by rw [X.tail, ← hU]; exact ht),
    X5.forget (fun y hy => ?_), heapAt_setCell_self _ ha, hfound, rfl⟩
  simp only [List.mem_cons, List.not_mem_nil, or_false] at hy
  have hge : s.heap.size ≤ W.heap.size := X.same.2.1
  rcases hy with rfl | rfl | rfl | rfl | rfl <;> exact Nat.le_trans hge (Nat.le_add_right _ 2)
set_option maxHeartbeats 1000000 in
/-- the machine throws NullPointerException, no traces kept: from its note over the frame g to 'throwing' over the same frame (follows the proof of Stand.vmThrowsNpe, Shelf42/KT2.lean; throwsNpeColdBareVAt, Shelf42/NT91.lean, called) -/
theorem vx_npeAt {p : Program} {l : Launch} {e : Env} {R : Room} {s : State} {m₀ : MethodId} {args : Array Value} {below : List Frame} {meth : Method} {c : Code} {W : State} {locs : List Loc} {cells slots : Nat}
    (X : Stand p l e R s m₀ args below meth c W locs cells slots) (hexec : p.tables.exec = Jvm.exec) (htr : e.platform.stackTraces = false) {n : Nat}
    (h : ∀ a ∈ Bundle.npeArmAtoms n, a.before args s = true)
    (hlocs : ∀ x ∈ locs, ∀ cell, s.heap[x.base]? = some cell → cell.vm.isStatics = false)
    {g : JFrame} (hg : g.method = m₀) (hsize : g.locals.size = c.maxLocals)
    (hRframes : 7 < R.frames) (hRlocals : 2 * g.monitorRoom + (g.stack.map fun v => v.category).sum + 10240 ≤ R.locals)
    (hRcells : cells + 1 ≤ R.cells) (hRslots : slots + n ≤ R.slots) (hlocks : meth.locks = false) :
    ∃ (S : State) (q : Addr) (ce : Cell), (∀ target, Steps p.tables e below ((S.setTop g).pushFrame (.throwing q)) target → Steps p.tables e below ((W.setTop g).pushFrame (.throwNew "java/lang/NullPointerException" none none)) target) ∧
      Stand p l e R s m₀ args below meth c S locs (cells + 1) (slots + n) ∧ S.heap[q]? = some ce ∧ s.vm.findClass "java/lang/NullPointerException" = some ce.cls ∧ ce.vm = .none := by
  have howns : e.platform.frameOwnsMonitors = true := by rw [X.admits.platform]
  have hfin : e.platform.finalization = false := by rw [X.admits.platform]
  have hpl : e.platform.magicAccessors = ({} : Platform).magicAccessors := by rw [X.admits.platform]
  have hpl2 : e.platform.arrayCloneIsPublic = true := by rw [X.admits.platform]
  have a' : ∀ x, x ∈ Bundle.npeArmAtoms n → x.holds args s none s [] = true := fun x hx => h x hx
  obtain ⟨T, Z, L, LZ, Y⟩ := ThrowableC.of_atoms (args := args) howns hfin hpl (fun x hx => h x (by simp [Bundle.npeArmAtoms, hx]))
  obtain ⟨N, LN, hcN, hnNF, hordN, hffS⟩ := NpeC.of_atoms (args := args) hpl hpl2 L Y (fun x hx => h x (by simp [Bundle.npeArmAtoms, hx]))
  obtain ⟨P1, L1, hP1m, hP1s⟩ := PassC.of_atoms (args := args) (s := s) hpl (X := Bundle.nN) (Y := Bundle.rN) (by decide) (by decide) LibCode.NullPointerException.Init0.at_0 LibCode.NullPointerException.Init0.at_1 LibCode.NullPointerException.Init0.at_4 (fun x hx => h x (by simp [Bundle.npeArmAtoms, hx]))
  obtain ⟨PR, LR, hPRm, hPRs⟩ := PassC.of_atoms (args := args) (s := s) hpl (X := Bundle.rN) (Y := Bundle.eN) (by decide) (by decide) LibCode.RuntimeException.Init0.at_0 LibCode.RuntimeException.Init0.at_1 LibCode.RuntimeException.Init0.at_4 (fun x hx => h x (by simp [Bundle.npeArmAtoms, hx]))
  obtain ⟨PE, LEx, hPEm, hPEs⟩ := PassC.of_atoms (args := args) (s := s) hpl (X := Bundle.eN) (Y := Bundle.tN) (by decide) (by decide) LibCode.Exception.Init0.at_0 LibCode.Exception.Init0.at_1 LibCode.Exception.Init0.at_4 (fun x hx => h x (by simp [Bundle.npeArmAtoms, hx]))
  have hfound : s.vm.findClass Bundle.nN = some P1.m.cls := findClass_of_methodNamed hP1m
  have ecls : N.cN = P1.m.cls := Option.some.inj (hcN.symm.trans hfound)
  have hk : s.vm.classes[P1.m.cls]? = some N.kN := by rw [← ecls]; exact LN.cls
  have hinit := Cond.initialized_spec hfound hk (a' (.initialized Bundle.nN) (by simp [Bundle.npeArmAtoms]))
  have hctor : N.kN.findMethod "<init>" "()V" = some P1.m.idx := findMethod_of_methodNamed hP1m hk
  obtain ⟨c1, k1, hc1, hk1, -, -, -, hn⟩ := Cond.instantiable_spec (a' (.instantiable Bundle.nN n) (by simp [Bundle.npeArmAtoms]))
  cases Option.some.inj (hc1.symm.trans hfound)
  cases Option.some.inj (hk1.symm.trans hk)
  have hfsz : (freshCell P1.m.cls N.kN).slots.size = n := by simp [hn]
  have hlink1 : P1.sup = PR.m := Option.some.inj (hP1s.symm.trans hPRm)
  have hlinkR : PR.sup = PE.m := Option.some.inj (hPRs.symm.trans hPEm)
  have hlinkE : PE.sup = Z.m T.toThrowableT := Option.some.inj (hPEs.symm.trans Y.init0)
  have hLs : ∀ P, P ∈ [PR, PE] → P.Links0 e.platform s := fun P hP => by
    simp only [List.mem_cons, List.not_mem_nil, or_false] at hP
    rcases hP with rfl | rfl
    · exact LR
    · exact LEx
  have hsel0 : selectMethod e.platform s.vm P1.m.cls T.fill0 = .method T.fill0 := by
    obtain ⟨c2, r2, m2, q1, q2, q3, q4, -⟩ := Cond.selects_spec (a' (.selects Bundle.nN Bundle.tFill0 Bundle.tFill0) (by simp [Bundle.npeArmAtoms]))
    cases Option.some.inj (q1.symm.trans hfound)
    cases Option.some.inj (q2.symm.trans (State.methodFound?_of_named Y.fill0 (by decide)))
    cases Option.some.inj (q3.symm.trans Y.fill0)
    rw [Launch.admits_selectMethod X.admits]; exact q4
  have hselF : selectMethod e.platform s.vm P1.m.cls T.fill = .method N.fill := by
    obtain ⟨c2, r2, m2, q1, q2, q3, q4, -⟩ := Cond.selects_spec (a' (.selects Bundle.nN Bundle.tFill Bundle.nFill) (by simp [Bundle.npeArmAtoms]))
    cases Option.some.inj (q1.symm.trans hfound)
    cases Option.some.inj (q2.symm.trans (State.methodFound?_of_named Y.fill (by decide)))
    cases Option.some.inj (q3.symm.trans hnNF)
    rw [Launch.admits_selectMethod X.admits]; exact q4
  obtain ⟨cellS0, hcS0, hiss⟩ := Y.statics
  obtain ⟨u0, hu0⟩ := Cond.staticRefV Y.unassigned L.unassignedStatic L.statics hcS0 hiss (a' (.isRef (.static Bundle.tN "UNASSIGNED_STACK" Bundle.steD)) (by simp [Bundle.npeArmAtoms]))
  obtain ⟨sen, hsen⟩ := Cond.staticRefV Y.sentinel L.sentinelStatic L.statics hcS0 hiss (a' (.isRef (.static Bundle.tN "SUPPRESSED_SENTINEL" Bundle.listD)) (by simp [Bundle.npeArmAtoms]))
  obtain ⟨ci198, i198, fB, hk198, hg198, ha198, hsB, -, hnB, htB, hffB⟩ := Cond.ownField (t := .object "java/lang/Object") Y.found L.cls (by decide +kernel) (a' (.fieldLink Bundle.tN 198 Bundle.tN "backtrace" Bundle.objD) (by simp [Bundle.npeArmAtoms])) (a' (.lays Bundle.tN Bundle.tN "backtrace" Bundle.objD) (by simp [Bundle.npeArmAtoms])) e.platform hpl
  obtain ⟨cellS, hcS', heS, -, hkeep⟩ := X.same.2.2.2.2.2 T.aS cellS0 hcS0
  have hcellS : W.heap[T.aS]? = some cellS := hcS'
  have hout' : ∀ i, (⟨T.aS, i⟩ : Loc) ∉ locs := fun i hmem => by
    have := hlocs _ hmem cellS0 hcS0
    rw [hiss] at this; cases this
  have hknownS : cellS.vm ≠ .unknown := by
    rw [heS]; intro hu
    rw [show cellS0.vm = .unknown from hu] at hiss
    cases hiss
  have hvU : cellS.slots[T.fUnassigned.slot]? = some u0.v := by rw [hkeep _ (hout' _)]; exact hu0
  have hvSen : cellS.slots[T.fSentinel.slot]? = some sen.v := by rw [hkeep _ (hout' _)]; exact hsen
  obtain ⟨tyC, dC, hdC, hdnC⟩ := Cond.laysAt hfound hk Y.cause (a' (.lays Bundle.nN Bundle.tN "cause" "Ljava/lang/Throwable;") (by simp [Bundle.npeArmAtoms]))
  obtain ⟨tyS, dS, hdS, hdnS⟩ := Cond.laysAt hfound hk Y.stack (a' (.lays Bundle.nN Bundle.tN "stackTrace" Bundle.steD) (by simp [Bundle.npeArmAtoms]))
  obtain ⟨tyP, dP, hdP, hdnP⟩ := Cond.laysAt hfound hk Y.supp (a' (.lays Bundle.nN Bundle.tN "suppressedExceptions" Bundle.listD) (by simp [Bundle.npeArmAtoms]))
  obtain ⟨tyX, dX, hdX, hdnX⟩ := Cond.laysAt hfound hk hffS (a' (.lays Bundle.nN Bundle.nN "extendedMessageState" "I") (by simp [Bundle.npeArmAtoms, Bundle.npeAtoms]))
  obtain ⟨hnX, htX⟩ := State.fieldFound?_type hffS (t := .int) (by decide +kernel)
  have xC := Cond.laysApart hdC hdX hdnC hdnX (by rw [hnX, Y.causeName]; decide)
  have xS := Cond.laysApart hdS hdX hdnS hdnX (by rw [hnX, Y.stackName]; decide)
  have xP := Cond.laysApart hdP hdX hdnP hdnX (by rw [hnX, Y.suppName]; decide)
  have hv0 : (freshCell P1.m.cls N.kN).slots[N.fState.slot]? = some (.int 0) := by
    have := fresh_default (c := P1.m.cls) tyX
    rw [htX] at this; exact this
  obtain ⟨tyB, dB, hdB, hdnB⟩ := Cond.laysAt hfound hk hffB (a' (.lays Bundle.nN Bundle.tN "backtrace" Bundle.objD) (by simp [Bundle.npeArmAtoms]))
  have bC := Cond.laysApart hdB hdC hdnB hdnC (by rw [hnB, Y.causeName]; decide)
  have bS := Cond.laysApart hdB hdS hdnB hdnS (by rw [hnB, Y.stackName]; decide)
  have bP := Cond.laysApart hdB hdP hdnB hdnP (by rw [hnB, Y.suppName]; decide)
  have bX := Cond.laysApart hdB hdX hdnB hdnX (by rw [hnB, hnX]; decide)
  have hbk : ((npeCell N.toNpeT (preparedCellV T.toThrowableT (freshCell P1.m.cls N.kN) W.heap.size u0 sen) W.cur).withEntry W.cur).slots[fB.slot]? = some .null := by
    have := fresh_default (c := P1.m.cls) tyB
    rw [htB] at this
    simpa [npeCell, preparedCellV, Cell.setSlot, Cell.withEntry, Array.getElem?_setIfInBounds, bC, bS, bP, bX, bC.symm, bS.symm, bP.symm, bX.symm, defaultValue] using this
  have tkC := Takes.of_laid (v := .ref W.heap.size) hk hordN tyC (by rw [Y.causeType]; rfl)
  have tkS := Takes.of_laid (v := u0.v) hk hordN tyS (by rw [Y.stackType]; exact fits_refV_array _ u0)
  have tkP := Takes.of_laid (v := sen.v) hk hordN tyP (by rw [Y.suppType]; exact fits_refV_object _ sen)
  have tkX := Takes.of_laid (v := .int 1) hk hordN tyX (by rw [htX]; rfl)
  have hskip : SkipFacts T e.platform s (fun u => u) u0 ((npeCell N.toNpeT (preparedCellV T.toThrowableT (freshCell P1.m.cls N.kN) W.heap.size u0 sen) W.cur).withEntry W.cur) := ⟨{ ci198 := ci198, i198 := i198, fBack := fB }, ⟨hk198, hg198, ha198, hsB⟩, hbk, fun _ _ => rfl⟩
  obtain ⟨vm', X3, st, -⟩ := X.throwsNpeColdBareVAt hexec hg hsize T L Z LZ N LN P1 L1 [PR, PE] hLs hlink1 ⟨hlinkR, hlinkE, trivial⟩ hfound hk hinit hordN hctor hsel0 hselF hcellS hknownS hvU hvSen
    hv0 xC xS xP tkC tkS tkP tkX Y.objLocals hskip (fun _ _ hA hW _ hroom _ hrest => L.nativeOff p htr hA hW hroom hrest) (by simpa using hRframes) hRlocals (by simp) hRcells (by rw [hn]; exact hRslots)
  have hlt : W.heap.size < ((W.pushCell (freshCell P1.m.cls N.kN)).setVm vm').heap.size := by
    show W.heap.size < (W.pushCell (freshCell P1.m.cls N.kN)).heap.size
    rw [State.heap_size_pushCell]; omega
  rw [hfsz] at X3
  obtain ⟨g₁, hfrM⟩ := X3.frames_eq
  have hU : ((((W.pushCell (freshCell P1.m.cls N.kN)).setVm vm').setCell W.heap.size (npeBareV T.toThrowableT N.toNpeT (freshCell P1.m.cls N.kN) W.heap.size u0 sen)).setTop g).pushFrame (.throwing W.heap.size) = (((W.pushCell (freshCell P1.m.cls N.kN)).setVm vm').setCell W.heap.size (npeBareV T.toThrowableT N.toNpeT (freshCell P1.m.cls N.kN) W.heap.size u0 sen)).setFrames (.throwing W.heap.size :: .java g :: below) := by
    rw [State.pushFrame, State.frames_setTop _ hfrM, State.setTop_of_frames _ hfrM, State.setFrames_setFrames]
  refine ⟨_, W.heap.size, _, fun target ht => st.trans (by rw [← hU]; exact ht), X3.forget (fun y hy => ?_), heapAt_setCell_self _ hlt, hfound, rfl⟩
  simp only [List.mem_cons, List.not_mem_nil, or_false] at hy
  have hge : s.heap.size ≤ W.heap.size := X.same.2.1
  rcases hy with rfl | rfl | rfl | rfl | rfl <;> exact hge
/-- the words of a machine's NullPointerException, but the four that speak of the heap -/
def vx_atN (n : Nat) : List Cond := (Bundle.npeArmAtoms n).filter vx_no
/-- the words of a machine's throw with a message, but the four that speak of the heap -/
def vx_atM (X : String) (names : List String) : List Cond := (Bundle.messageArmAtoms X names).filter vx_no
section
variable {p : Program} {l : Launch} {e : Env} {R : Room} {s : State} {m : MethodId} {args : Array Value} {below : List Frame} {meth : Method} {c : Code} {H : Heap} {locs : List Loc} {cells slots : Nat}
/-- a frame seen from a rebased start, seen from the first start again -/
theorem vx_back9 {T S : State} {R' : Room} {k n : Nat} (X : Stand p l e R s m args below meth c T locs cells slots) (Y : Stand p l e R' ((T.setVm s.vm).setFrames (.invoking m args :: below)) m args below meth c T [] 0 0) (Z : Stand p l e R' ((T.setVm s.vm).setFrames (.invoking m args :: below)) m args below meth c S [] k n) :
    Stand p l e R s m args below meth c S locs (cells + k) (slots + n) := by
  have hW0 : s.WarmedH ((T.setVm s.vm).setFrames (.invoking m args :: below)).vm := State.WarmedH.refl s
  refine { admits := X.admits, cas := X.cas, clock := X.clock, frames := X.frames, room := X.room, hears := X.hears, method := X.method, code := X.code, here := Z.here, tail := Z.tail, warmed := State.WarmedH.trans hW0 Z.warmed, limits := Z.limits.trans (Y.limits.symm.trans X.limits), bytes := Z.bytes.trans (Y.bytes.symm.trans X.bytes), same := ?_ }
  obtain ⟨e1, e2⟩ := Z.same
  rw [State.setFrames_setFrames] at e1
  have h2 : (T.setVm s.vm).sameButNew (S.setVm s.vm) [] k n := ⟨e1, e2⟩
  have h3 := X.same.trans h2
  rw [List.append_nil] at h3
  exact h3
/-- from the machine's note that E is thrown here with this text -/
def vx_Note (p : Program) (l : Launch) (e : Env) (R : Room) (s : State) (m : MethodId) (args : Array Value) (below : List Frame) (meth : Method) (c : Code) (H : Heap) (locs : List Loc) (cells slots : Nat) (Q : State → Prop) (g : JFrame) (E text : String) : Prop :=
  ∀ T : State, T.heap = H → Stand p l e R s m args below meth c T locs cells slots → ∃ t, Steps p.tables e below ((T.setTop g).pushFrame (.throwNew E (some text) none)) t ∧ Q t
theorem vx_vm {pc : Nat} {ls : Array Slot} {rest : List Value} {Q : State → Prop} (hexec : p.tables.exec = Jvm.exec) (hl : l.stackTraces = false) {cls text : String} {names : List String} {nb : Nat} {A : Nat → Prop}
    (hcls : Bundle.fit cls = true) (hnames : ∀ n ∈ names, Bundle.fit n = true) (hsoe : (cls == "java/lang/StackOverflowError") = false) (hoom : (cls == "java/lang/OutOfMemoryError") = false)
    (hat : ∀ w ∈ vx_atM cls names, w.before args s = true) (hgood : ∀ w ∈ vx_atM cls names, vx_ot w = true)
    (hU : vx_Zq Bundle.tN "UNASSIGNED_STACK" Bundle.steD A s s.heap) (hN : vx_Zq Bundle.tN "SUPPRESSED_SENTINEL" Bundle.listD A s s.heap) (hS : va_S A s.heap H locs) (hsize : ls.size = c.maxLocals)
    (htext : (text == notModelled) = false) (hnb : (stringBytes (stringToUtf16 text)).size ≤ nb) (hnb1 : nb ≤ 1000)
    (hRframes : names.length + 4 < R.frames) (hRlocals : (rest.map fun v => v.category).sum + 10240 ≤ R.locals) (hshort : 13 * names.length + 55 ≤ 10240) (hRcells : cells + 3 ≤ R.cells) (hRslots : slots + (nb + 10) ≤ R.slots) (hlocks : meth.locks = false)
    (k : ∀ (H1 : Heap) (q9 : Addr) (ce : Cell), H.size ≤ H1.size → (∀ q : Nat, q < H.size → H1[q]? = H[q]?) → va_S A s.heap H1 locs → H1[q9]? = some ce → ce.vm = .none → s.vm.findClass cls = some ce.cls → vx_W p l e R s m args below meth c H1 locs (cells + 3) (slots + (nb + 10)) Q (F0 m pc ls rest) q9) :
    vx_Note p l e R s m args below meth c H locs cells slots Q (F0 m pc ls rest) cls text := by
  intro T hT X
  have htr : e.platform.stackTraces = false := (show e.platform.stackTraces = l.stackTraces by rw [X.admits.platform]).trans hl
  have Y := vx_rebase X (R' := { frames := R.frames, locals := R.locals, cells := 3, slots := nb + 10 }) (Nat.le_refl _) (Nat.le_refl _) hRcells hRslots
  have hhp : ((T.setVm s.vm).setFrames (.invoking m args :: below)).heap = H := hT
  have hW0 : s.WarmedH ((T.setVm s.vm).setFrames (.invoking m args :: below)).vm := State.WarmedH.refl s
  have hat' : ∀ w ∈ vx_atM cls names, w.before args ((T.setVm s.vm).setFrames (.invoking m args :: below)) = true := fun w hw => vx_ot_at hW0 rfl (hgood w hw) (hat w hw)
  have hU' : vx_Zq Bundle.tN "UNASSIGNED_STACK" Bundle.steD A ((T.setVm s.vm).setFrames (.invoking m args :: below)) ((T.setVm s.vm).setFrames (.invoking m args :: below)).heap := by rw [hhp]; exact vx_Zq.moved hW0.alike (hU.kept hS.2.1)
  have hN' : vx_Zq Bundle.tN "SUPPRESSED_SENTINEL" Bundle.listD A ((T.setVm s.vm).setFrames (.invoking m args :: below)) ((T.setVm s.vm).setFrames (.invoking m args :: below)).heap := by rw [hhp]; exact vx_Zq.moved hW0.alike (hN.kept hS.2.1)
  obtain ⟨S, q, ce, st, Z, hce, hcl', hv⟩ := vx_vmAt Y hexec htr (cls := cls) (names := names) (text := text) hcls hnames hsoe hoom (vx_own hat' (vx_isRefq hU'.1) (vx_isRefq hN'.1) hU'.2.word hN'.2.word) (fun x hx => nomatch hx) htext
    (by rw [Launch.admits_arrayLengthLimit X.admits]; omega) (by rw [Launch.admits_maxHeapBytes X.admits]; simp only [componentBytes]; omega)
    (g := F0 m pc ls rest) rfl hsize hRframes (by show 2 * 0 + (rest.map fun v => v.category).sum + 10240 ≤ R.locals; omega) hshort (by show 0 + 3 ≤ 3; omega) (by show 0 + (_ + 4 + 6) ≤ nb + 10; omega) hlocks
  obtain ⟨f1, f2⟩ := vx_frame Z.same
  have f1' : H.size ≤ S.heap.size := by rw [← hT]; exact f1
  have f2' : ∀ q : Nat, q < H.size → S.heap[q]? = H[q]? := fun q hq => by
    rw [← hT]
    exact f2 q (by rw [← hT] at hq; exact hq) (fun z hz => nomatch hz)
  have X5 := vx_back9 X Y Z
  have X6 : Stand p l e R s m args below meth c S locs (cells + 3) (slots + (nb + 10)) := { X5 with same := X5.same.mono (by omega) (by omega) }
  obtain ⟨t, a1, b1⟩ := k S.heap q ce f1' f2' ⟨Nat.le_trans hS.1 f1', fun q h1 h2 => (f2' q (Nat.lt_of_lt_of_le h1 hS.1)).trans (hS.2.1 q h1 h2), hS.2.2⟩ hce hv hcl' S rfl X6
  exact ⟨t, st t a1, b1⟩
/-- from the machine's note that NullPointerException is thrown here -/
def vx_NoteN (p : Program) (l : Launch) (e : Env) (R : Room) (s : State) (m : MethodId) (args : Array Value) (below : List Frame) (meth : Method) (c : Code) (H : Heap) (locs : List Loc) (cells slots : Nat) (Q : State → Prop) (g : JFrame) : Prop :=
  ∀ T : State, T.heap = H → Stand p l e R s m args below meth c T locs cells slots → ∃ t, Steps p.tables e below ((T.setTop g).pushFrame (.throwNew "java/lang/NullPointerException" none none)) t ∧ Q t
theorem vx_npe {pc : Nat} {ls : Array Slot} {rest : List Value} {Q : State → Prop} (hexec : p.tables.exec = Jvm.exec) (hl : l.stackTraces = false) {nb : Nat} {A : Nat → Prop}
    (hat : ∀ w ∈ vx_atN nb, w.before args s = true) (hgood : ∀ w ∈ vx_atN nb, vx_ot w = true)
    (hU : vx_Zq Bundle.tN "UNASSIGNED_STACK" Bundle.steD A s s.heap) (hN : vx_Zq Bundle.tN "SUPPRESSED_SENTINEL" Bundle.listD A s s.heap) (hS : va_S A s.heap H locs) (hsize : ls.size = c.maxLocals)
    (hRframes : 7 < R.frames) (hRlocals : (rest.map fun v => v.category).sum + 10240 ≤ R.locals) (hRcells : cells + 1 ≤ R.cells) (hRslots : slots + nb ≤ R.slots) (hlocks : meth.locks = false)
    (k : ∀ (H1 : Heap) (q9 : Addr) (ce : Cell), H.size ≤ H1.size → (∀ q : Nat, q < H.size → H1[q]? = H[q]?) → va_S A s.heap H1 locs → H1[q9]? = some ce → ce.vm = .none → s.vm.findClass "java/lang/NullPointerException" = some ce.cls → vx_W p l e R s m args below meth c H1 locs (cells + 1) (slots + nb) Q (F0 m pc ls rest) q9) :
    vx_NoteN p l e R s m args below meth c H locs cells slots Q (F0 m pc ls rest) := by
  intro T hT X
  have htr : e.platform.stackTraces = false := (show e.platform.stackTraces = l.stackTraces by rw [X.admits.platform]).trans hl
  have Y := vx_rebase X (R' := { frames := R.frames, locals := R.locals, cells := 1, slots := nb }) (Nat.le_refl _) (Nat.le_refl _) hRcells hRslots
  have hhp : ((T.setVm s.vm).setFrames (.invoking m args :: below)).heap = H := hT
  have hW0 : s.WarmedH ((T.setVm s.vm).setFrames (.invoking m args :: below)).vm := State.WarmedH.refl s
  have hat' : ∀ w ∈ vx_atN nb, w.before args ((T.setVm s.vm).setFrames (.invoking m args :: below)) = true := fun w hw => vx_ot_at hW0 rfl (hgood w hw) (hat w hw)
  have hU' : vx_Zq Bundle.tN "UNASSIGNED_STACK" Bundle.steD A ((T.setVm s.vm).setFrames (.invoking m args :: below)) ((T.setVm s.vm).setFrames (.invoking m args :: below)).heap := by rw [hhp]; exact vx_Zq.moved hW0.alike (hU.kept hS.2.1)
  have hN' : vx_Zq Bundle.tN "SUPPRESSED_SENTINEL" Bundle.listD A ((T.setVm s.vm).setFrames (.invoking m args :: below)) ((T.setVm s.vm).setFrames (.invoking m args :: below)).heap := by rw [hhp]; exact vx_Zq.moved hW0.alike (hN.kept hS.2.1)
  obtain ⟨S, q, ce, st, Z, hce, hcl', hv⟩ := vx_npeAt Y hexec htr (n := nb) (vx_own hat' (vx_isRefq hU'.1) (vx_isRefq hN'.1) hU'.2.word hN'.2.word) (fun x hx => nomatch hx)
    (g := F0 m pc ls rest) rfl hsize hRframes (by show 2 * 0 + (rest.map fun v => v.category).sum + 10240 ≤ R.locals; omega) (by show 0 + 1 ≤ 1; omega) (by show 0 + nb ≤ nb; omega) hlocks
  obtain ⟨f1, f2⟩ := vx_frame Z.same
  have f1' : H.size ≤ S.heap.size := by rw [← hT]; exact f1
  have f2' : ∀ q : Nat, q < H.size → S.heap[q]? = H[q]? := fun q hq => by
    rw [← hT]
    exact f2 q (by rw [← hT] at hq; exact hq) (fun z hz => nomatch hz)
  have X5 := vx_back9 X Y Z
  have X6 : Stand p l e R s m args below meth c S locs (cells + 1) (slots + nb) := { X5 with same := X5.same.mono (by omega) (by omega) }
  obtain ⟨t, a1, b1⟩ := k S.heap q ce f1' f2' ⟨Nat.le_trans hS.1 f1', fun q h1 h2 => (f2' q (Nat.lt_of_lt_of_le h1 hS.1)).trans (hS.2.1 q h1 h2), hS.2.2⟩ hce hv hcl' S rfl X6
  exact ⟨t, st t a1, b1⟩
variable {Q : State → Prop} {cc : ByteArray} {pc : Nat} {ls : Array Slot} {rest : List Value}
theorem vx_idivZ (hexec : p.tables.exec = Jvm.exec) (hb : c.code = cc) {a b : Int32} (h0 : b = 0) (d : decode cc pc = .ok (.idiv, 1)) (k : vx_Note p l e R s m args below meth c H locs cells slots Q (F0 m pc ls rest) "java/lang/ArithmeticException" "/ by zero") :
    W p l e R s m args below meth c H locs cells slots Q (F0 m pc ls (.int b :: .int a :: rest)) := by
  intro T hT X
  obtain ⟨t, st, q⟩ := k T hT X
  exact ⟨t, X.idivZero hexec (g := F0 m pc ls (.int b :: .int a :: rest)) rfl (a := a) (rest := rest) (by rw [h0]) (by rw [hb]; exact d) t st, q⟩
theorem vx_iremZ (hexec : p.tables.exec = Jvm.exec) (hb : c.code = cc) {a b : Int32} (h0 : b = 0) (d : decode cc pc = .ok (.irem, 1)) (k : vx_Note p l e R s m args below meth c H locs cells slots Q (F0 m pc ls rest) "java/lang/ArithmeticException" "/ by zero") :
    W p l e R s m args below meth c H locs cells slots Q (F0 m pc ls (.int b :: .int a :: rest)) := by
  intro T hT X
  obtain ⟨t, st, q⟩ := k T hT X
  exact ⟨t, X.iremZero hexec (g := F0 m pc ls (.int b :: .int a :: rest)) rfl (a := a) (rest := rest) (by rw [h0]) (by rw [hb]; exact d) t st, q⟩
theorem vx_ldivZ (hexec : p.tables.exec = Jvm.exec) (hb : c.code = cc) {a b : Int64} (h0 : b = 0) (d : decode cc pc = .ok (.ldiv, 1)) (k : vx_Note p l e R s m args below meth c H locs cells slots Q (F0 m pc ls rest) "java/lang/ArithmeticException" "/ by zero") :
    W p l e R s m args below meth c H locs cells slots Q (F0 m pc ls (.long b :: .long a :: rest)) := by
  intro T hT X
  obtain ⟨t, st, q⟩ := k T hT X
  exact ⟨t, X.ldivZero hexec (g := F0 m pc ls (.long b :: .long a :: rest)) rfl (a := a) (rest := rest) (by rw [h0]) (by rw [hb]; exact d) t st, q⟩
theorem vx_lremZ (hexec : p.tables.exec = Jvm.exec) (hb : c.code = cc) {a b : Int64} (h0 : b = 0) (d : decode cc pc = .ok (.lrem, 1)) (k : vx_Note p l e R s m args below meth c H locs cells slots Q (F0 m pc ls rest) "java/lang/ArithmeticException" "/ by zero") :
    W p l e R s m args below meth c H locs cells slots Q (F0 m pc ls (.long b :: .long a :: rest)) := by
  intro T hT X
  obtain ⟨t, st, q⟩ := k T hT X
  exact ⟨t, X.lremZero hexec (g := F0 m pc ls (.long b :: .long a :: rest)) rfl (a := a) (rest := rest) (by rw [h0]) (by rw [hb]; exact d) t st, q⟩
theorem vx_ialdZ {D : va_G} {cl : List vw_C} {ws : va_W} {tys : List (ClassId × FieldType)} {a : Nat} (hexec : p.tables.exec = Jvm.exec) (hb : c.code = cc) (hK : va_K D cl tys s) (hP : va_P D cl ws H) (q0 t0 : Nat) {cA : ClassId} {n : Nat} {f : Nat → Int32} (ha : ws[q0]? = some (a, .inl (cA, n, .inl f))) (ht : tys[t0]? = some (cA, .int)) {i : Int32} (hout : ¬ vp_in i n) (hdg : decode cc pc = .ok (.iaload, 1))
    (k : ∀ tx : String, tx = (toString "Index " ++ toString i ++ toString " out of bounds for length " ++ toString n : String) → vx_Note p l e R s m args below meth c H locs cells slots Q (F0 m pc ls rest) "java/lang/ArrayIndexOutOfBoundsException" tx) : W p l e R s m args below meth c H locs cells slots Q (F0 m pc ls (.int i :: .ref a :: rest)) := by
  intro T hT X
  obtain ⟨t, st, q⟩ := k _ rfl T hT X
  refine ⟨t, ?_, q⟩
  have h1 := X.ialoadOut hexec (by rw [hT]; exact hP q0 _ ha) ((hK.2 t0 _ ht).1 n (fun j => .int (f j))) (j := i) (by show (i < 0 ∨ (arrV _ _ _).slots.size ≤ _); rw [arrV_size]; exact Classical.byContradiction hout) (g := F0 m pc ls (.int i :: .ref a :: rest)) rfl (rest := rest) rfl (by rw [hb]; exact hdg) t
  simp only [arrV_size] at h1
  exact h1 st
theorem vx_iastZ {D : va_G} {cl : List vw_C} {ws : va_W} {tys : List (ClassId × FieldType)} {a : Nat} (hexec : p.tables.exec = Jvm.exec) (hb : c.code = cc) (hK : va_K D cl tys s) (hP : va_P D cl ws H) (q0 t0 : Nat) {cA : ClassId} {n : Nat} {f : Nat → Int32} (ha : ws[q0]? = some (a, .inl (cA, n, .inl f))) (ht : tys[t0]? = some (cA, .int)) {i : Int32} {x : Int32} (hout : ¬ vp_in i n) (hdg : decode cc pc = .ok (.iastore, 1))
    (k : ∀ tx : String, tx = (toString "Index " ++ toString i ++ toString " out of bounds for length " ++ toString n : String) → vx_Note p l e R s m args below meth c H locs cells slots Q (F0 m pc ls rest) "java/lang/ArrayIndexOutOfBoundsException" tx) : W p l e R s m args below meth c H locs cells slots Q (F0 m pc ls (.int x :: .int i :: .ref a :: rest)) := by
  intro T hT X
  obtain ⟨t, st, q⟩ := k _ rfl T hT X
  refine ⟨t, ?_, q⟩
  have h1 := X.iastoreOut hexec (by rw [hT]; exact hP q0 _ ha) ((hK.2 t0 _ ht).1 n (fun j => .int (f j))) (j := i) (by show (i < 0 ∨ (arrV _ _ _).slots.size ≤ _); rw [arrV_size]; exact Classical.byContradiction hout) (g := F0 m pc ls (.int x :: .int i :: .ref a :: rest)) rfl (rest := rest) rfl (by rw [hb]; exact hdg) t
  simp only [arrV_size] at h1
  exact h1 st
theorem vx_baldZ {D : va_G} {cl : List vw_C} {ws : va_W} {tys : List (ClassId × FieldType)} {a : Nat} (hexec : p.tables.exec = Jvm.exec) (hb : c.code = cc) (hK : va_K D cl tys s) (hP : va_P D cl ws H) (q0 t0 : Nat) {cA : ClassId} {n : Nat} {f : Nat → Int32} (ha : ws[q0]? = some (a, .inl (cA, n, .inl f))) (ht : tys[t0]? = some (cA, .byte)) {i : Int32} (hout : ¬ vp_in i n) (hdg : decode cc pc = .ok (.baload, 1))
    (k : ∀ tx : String, tx = (toString "Index " ++ toString i ++ toString " out of bounds for length " ++ toString n : String) → vx_Note p l e R s m args below meth c H locs cells slots Q (F0 m pc ls rest) "java/lang/ArrayIndexOutOfBoundsException" tx) : W p l e R s m args below meth c H locs cells slots Q (F0 m pc ls (.int i :: .ref a :: rest)) := by
  intro T hT X
  obtain ⟨t, st, q⟩ := k _ rfl T hT X
  refine ⟨t, ?_, q⟩
  have h1 := X.baloadOut hexec (by rw [hT]; exact hP q0 _ ha) ((hK.2 t0 _ ht).1 n (fun j => .int (f j))) (j := i) (by show (i < 0 ∨ (arrV _ _ _).slots.size ≤ _); rw [arrV_size]; exact Classical.byContradiction hout) (g := F0 m pc ls (.int i :: .ref a :: rest)) rfl (rest := rest) rfl (by rw [hb]; exact hdg) t
  simp only [arrV_size] at h1
  exact h1 st
theorem vx_bastZ {D : va_G} {cl : List vw_C} {ws : va_W} {tys : List (ClassId × FieldType)} {a : Nat} (hexec : p.tables.exec = Jvm.exec) (hb : c.code = cc) (hK : va_K D cl tys s) (hP : va_P D cl ws H) (q0 t0 : Nat) {cA : ClassId} {n : Nat} {f : Nat → Int32} (ha : ws[q0]? = some (a, .inl (cA, n, .inl f))) (ht : tys[t0]? = some (cA, .byte)) {i : Int32} {x : Int32} (hout : ¬ vp_in i n) (hdg : decode cc pc = .ok (.bastore, 1))
    (k : ∀ tx : String, tx = (toString "Index " ++ toString i ++ toString " out of bounds for length " ++ toString n : String) → vx_Note p l e R s m args below meth c H locs cells slots Q (F0 m pc ls rest) "java/lang/ArrayIndexOutOfBoundsException" tx) : W p l e R s m args below meth c H locs cells slots Q (F0 m pc ls (.int x :: .int i :: .ref a :: rest)) := by
  intro T hT X
  obtain ⟨t, st, q⟩ := k _ rfl T hT X
  refine ⟨t, ?_, q⟩
  have h1 := X.bastoreOut hexec (by rw [hT]; exact hP q0 _ ha) ((hK.2 t0 _ ht).1 n (fun j => .int (f j))) (j := i) (by show (i < 0 ∨ (arrV _ _ _).slots.size ≤ _); rw [arrV_size]; exact Classical.byContradiction hout) (g := F0 m pc ls (.int x :: .int i :: .ref a :: rest)) rfl (rest := rest) rfl (by rw [hb]; exact hdg) t
  simp only [arrV_size] at h1
  exact h1 st
theorem vx_zaldZ {D : va_G} {cl : List vw_C} {ws : va_W} {tys : List (ClassId × FieldType)} {a : Nat} (hexec : p.tables.exec = Jvm.exec) (hb : c.code = cc) (hK : va_K D cl tys s) (hP : va_P D cl ws H) (q0 t0 : Nat) {cA : ClassId} {n : Nat} {f : Nat → Int32} (ha : ws[q0]? = some (a, .inl (cA, n, .inl f))) (ht : tys[t0]? = some (cA, .boolean)) {i : Int32} (hout : ¬ vp_in i n) (hdg : decode cc pc = .ok (.baload, 1))
    (k : ∀ tx : String, tx = (toString "Index " ++ toString i ++ toString " out of bounds for length " ++ toString n : String) → vx_Note p l e R s m args below meth c H locs cells slots Q (F0 m pc ls rest) "java/lang/ArrayIndexOutOfBoundsException" tx) : W p l e R s m args below meth c H locs cells slots Q (F0 m pc ls (.int i :: .ref a :: rest)) := by
  intro T hT X
  obtain ⟨t, st, q⟩ := k _ rfl T hT X
  refine ⟨t, ?_, q⟩
  have h1 := X.baloadOut hexec (by rw [hT]; exact hP q0 _ ha) ((hK.2 t0 _ ht).1 n (fun j => .int (f j))) (j := i) (by show (i < 0 ∨ (arrV _ _ _).slots.size ≤ _); rw [arrV_size]; exact Classical.byContradiction hout) (g := F0 m pc ls (.int i :: .ref a :: rest)) rfl (rest := rest) rfl (by rw [hb]; exact hdg) t
  simp only [arrV_size] at h1
  exact h1 st
theorem vx_zastZ {D : va_G} {cl : List vw_C} {ws : va_W} {tys : List (ClassId × FieldType)} {a : Nat} (hexec : p.tables.exec = Jvm.exec) (hb : c.code = cc) (hK : va_K D cl tys s) (hP : va_P D cl ws H) (q0 t0 : Nat) {cA : ClassId} {n : Nat} {f : Nat → Int32} (ha : ws[q0]? = some (a, .inl (cA, n, .inl f))) (ht : tys[t0]? = some (cA, .boolean)) {i : Int32} {x : Int32} (hout : ¬ vp_in i n) (hdg : decode cc pc = .ok (.bastore, 1))
    (k : ∀ tx : String, tx = (toString "Index " ++ toString i ++ toString " out of bounds for length " ++ toString n : String) → vx_Note p l e R s m args below meth c H locs cells slots Q (F0 m pc ls rest) "java/lang/ArrayIndexOutOfBoundsException" tx) : W p l e R s m args below meth c H locs cells slots Q (F0 m pc ls (.int x :: .int i :: .ref a :: rest)) := by
  intro T hT X
  obtain ⟨t, st, q⟩ := k _ rfl T hT X
  refine ⟨t, ?_, q⟩
  have h1 := X.bastoreOut hexec (by rw [hT]; exact hP q0 _ ha) ((hK.2 t0 _ ht).1 n (fun j => .int (f j))) (j := i) (by show (i < 0 ∨ (arrV _ _ _).slots.size ≤ _); rw [arrV_size]; exact Classical.byContradiction hout) (g := F0 m pc ls (.int x :: .int i :: .ref a :: rest)) rfl (rest := rest) rfl (by rw [hb]; exact hdg) t
  simp only [arrV_size] at h1
  exact h1 st
theorem vx_caldZ {D : va_G} {cl : List vw_C} {ws : va_W} {tys : List (ClassId × FieldType)} {a : Nat} (hexec : p.tables.exec = Jvm.exec) (hb : c.code = cc) (hK : va_K D cl tys s) (hP : va_P D cl ws H) (q0 t0 : Nat) {cA : ClassId} {n : Nat} {f : Nat → Int32} (ha : ws[q0]? = some (a, .inl (cA, n, .inl f))) (ht : tys[t0]? = some (cA, .char)) {i : Int32} (hout : ¬ vp_in i n) (hdg : decode cc pc = .ok (.caload, 1))
    (k : ∀ tx : String, tx = (toString "Index " ++ toString i ++ toString " out of bounds for length " ++ toString n : String) → vx_Note p l e R s m args below meth c H locs cells slots Q (F0 m pc ls rest) "java/lang/ArrayIndexOutOfBoundsException" tx) : W p l e R s m args below meth c H locs cells slots Q (F0 m pc ls (.int i :: .ref a :: rest)) := by
  intro T hT X
  obtain ⟨t, st, q⟩ := k _ rfl T hT X
  refine ⟨t, ?_, q⟩
  have h1 := X.caloadOut hexec (by rw [hT]; exact hP q0 _ ha) ((hK.2 t0 _ ht).1 n (fun j => .int (f j))) (j := i) (by show (i < 0 ∨ (arrV _ _ _).slots.size ≤ _); rw [arrV_size]; exact Classical.byContradiction hout) (g := F0 m pc ls (.int i :: .ref a :: rest)) rfl (rest := rest) rfl (by rw [hb]; exact hdg) t
  simp only [arrV_size] at h1
  exact h1 st
theorem vx_castZ {D : va_G} {cl : List vw_C} {ws : va_W} {tys : List (ClassId × FieldType)} {a : Nat} (hexec : p.tables.exec = Jvm.exec) (hb : c.code = cc) (hK : va_K D cl tys s) (hP : va_P D cl ws H) (q0 t0 : Nat) {cA : ClassId} {n : Nat} {f : Nat → Int32} (ha : ws[q0]? = some (a, .inl (cA, n, .inl f))) (ht : tys[t0]? = some (cA, .char)) {i : Int32} {x : Int32} (hout : ¬ vp_in i n) (hdg : decode cc pc = .ok (.castore, 1))
    (k : ∀ tx : String, tx = (toString "Index " ++ toString i ++ toString " out of bounds for length " ++ toString n : String) → vx_Note p l e R s m args below meth c H locs cells slots Q (F0 m pc ls rest) "java/lang/ArrayIndexOutOfBoundsException" tx) : W p l e R s m args below meth c H locs cells slots Q (F0 m pc ls (.int x :: .int i :: .ref a :: rest)) := by
  intro T hT X
  obtain ⟨t, st, q⟩ := k _ rfl T hT X
  refine ⟨t, ?_, q⟩
  have h1 := X.castoreOut hexec (by rw [hT]; exact hP q0 _ ha) ((hK.2 t0 _ ht).1 n (fun j => .int (f j))) (j := i) (by show (i < 0 ∨ (arrV _ _ _).slots.size ≤ _); rw [arrV_size]; exact Classical.byContradiction hout) (g := F0 m pc ls (.int x :: .int i :: .ref a :: rest)) rfl (rest := rest) rfl (by rw [hb]; exact hdg) t
  simp only [arrV_size] at h1
  exact h1 st
theorem vx_saldZ {D : va_G} {cl : List vw_C} {ws : va_W} {tys : List (ClassId × FieldType)} {a : Nat} (hexec : p.tables.exec = Jvm.exec) (hb : c.code = cc) (hK : va_K D cl tys s) (hP : va_P D cl ws H) (q0 t0 : Nat) {cA : ClassId} {n : Nat} {f : Nat → Int32} (ha : ws[q0]? = some (a, .inl (cA, n, .inl f))) (ht : tys[t0]? = some (cA, .short)) {i : Int32} (hout : ¬ vp_in i n) (hdg : decode cc pc = .ok (.saload, 1))
    (k : ∀ tx : String, tx = (toString "Index " ++ toString i ++ toString " out of bounds for length " ++ toString n : String) → vx_Note p l e R s m args below meth c H locs cells slots Q (F0 m pc ls rest) "java/lang/ArrayIndexOutOfBoundsException" tx) : W p l e R s m args below meth c H locs cells slots Q (F0 m pc ls (.int i :: .ref a :: rest)) := by
  intro T hT X
  obtain ⟨t, st, q⟩ := k _ rfl T hT X
  refine ⟨t, ?_, q⟩
  have h1 := X.saloadOut hexec (by rw [hT]; exact hP q0 _ ha) ((hK.2 t0 _ ht).1 n (fun j => .int (f j))) (j := i) (by show (i < 0 ∨ (arrV _ _ _).slots.size ≤ _); rw [arrV_size]; exact Classical.byContradiction hout) (g := F0 m pc ls (.int i :: .ref a :: rest)) rfl (rest := rest) rfl (by rw [hb]; exact hdg) t
  simp only [arrV_size] at h1
  exact h1 st
theorem vx_sastZ {D : va_G} {cl : List vw_C} {ws : va_W} {tys : List (ClassId × FieldType)} {a : Nat} (hexec : p.tables.exec = Jvm.exec) (hb : c.code = cc) (hK : va_K D cl tys s) (hP : va_P D cl ws H) (q0 t0 : Nat) {cA : ClassId} {n : Nat} {f : Nat → Int32} (ha : ws[q0]? = some (a, .inl (cA, n, .inl f))) (ht : tys[t0]? = some (cA, .short)) {i : Int32} {x : Int32} (hout : ¬ vp_in i n) (hdg : decode cc pc = .ok (.sastore, 1))
    (k : ∀ tx : String, tx = (toString "Index " ++ toString i ++ toString " out of bounds for length " ++ toString n : String) → vx_Note p l e R s m args below meth c H locs cells slots Q (F0 m pc ls rest) "java/lang/ArrayIndexOutOfBoundsException" tx) : W p l e R s m args below meth c H locs cells slots Q (F0 m pc ls (.int x :: .int i :: .ref a :: rest)) := by
  intro T hT X
  obtain ⟨t, st, q⟩ := k _ rfl T hT X
  refine ⟨t, ?_, q⟩
  have h1 := X.sastoreOut hexec (by rw [hT]; exact hP q0 _ ha) ((hK.2 t0 _ ht).1 n (fun j => .int (f j))) (j := i) (by show (i < 0 ∨ (arrV _ _ _).slots.size ≤ _); rw [arrV_size]; exact Classical.byContradiction hout) (g := F0 m pc ls (.int x :: .int i :: .ref a :: rest)) rfl (rest := rest) rfl (by rw [hb]; exact hdg) t
  simp only [arrV_size] at h1
  exact h1 st
theorem vx_laldZ {D : va_G} {cl : List vw_C} {ws : va_W} {tys : List (ClassId × FieldType)} {a : Nat} (hexec : p.tables.exec = Jvm.exec) (hb : c.code = cc) (hK : va_K D cl tys s) (hP : va_P D cl ws H) (q0 t0 : Nat) {cA : ClassId} {n : Nat} {f : Nat → Int64} (ha : ws[q0]? = some (a, .inl (cA, n, .inr (.inl f)))) (ht : tys[t0]? = some (cA, .long)) {i : Int32} (hout : ¬ vp_in i n) (hdg : decode cc pc = .ok (.laload, 1))
    (k : ∀ tx : String, tx = (toString "Index " ++ toString i ++ toString " out of bounds for length " ++ toString n : String) → vx_Note p l e R s m args below meth c H locs cells slots Q (F0 m pc ls rest) "java/lang/ArrayIndexOutOfBoundsException" tx) : W p l e R s m args below meth c H locs cells slots Q (F0 m pc ls (.int i :: .ref a :: rest)) := by
  intro T hT X
  obtain ⟨t, st, q⟩ := k _ rfl T hT X
  refine ⟨t, ?_, q⟩
  have h1 := X.laloadOut hexec (by rw [hT]; exact hP q0 _ ha) ((hK.2 t0 _ ht).1 n (fun j => .long (f j))) (j := i) (by show (i < 0 ∨ (arrV _ _ _).slots.size ≤ _); rw [arrV_size]; exact Classical.byContradiction hout) (g := F0 m pc ls (.int i :: .ref a :: rest)) rfl (rest := rest) rfl (by rw [hb]; exact hdg) t
  simp only [arrV_size] at h1
  exact h1 st
theorem vx_lastZ {D : va_G} {cl : List vw_C} {ws : va_W} {tys : List (ClassId × FieldType)} {a : Nat} (hexec : p.tables.exec = Jvm.exec) (hb : c.code = cc) (hK : va_K D cl tys s) (hP : va_P D cl ws H) (q0 t0 : Nat) {cA : ClassId} {n : Nat} {f : Nat → Int64} (ha : ws[q0]? = some (a, .inl (cA, n, .inr (.inl f)))) (ht : tys[t0]? = some (cA, .long)) {i : Int32} {x : Int64} (hout : ¬ vp_in i n) (hdg : decode cc pc = .ok (.lastore, 1))
    (k : ∀ tx : String, tx = (toString "Index " ++ toString i ++ toString " out of bounds for length " ++ toString n : String) → vx_Note p l e R s m args below meth c H locs cells slots Q (F0 m pc ls rest) "java/lang/ArrayIndexOutOfBoundsException" tx) : W p l e R s m args below meth c H locs cells slots Q (F0 m pc ls (.long x :: .int i :: .ref a :: rest)) := by
  intro T hT X
  obtain ⟨t, st, q⟩ := k _ rfl T hT X
  refine ⟨t, ?_, q⟩
  have h1 := X.lastoreOut hexec (by rw [hT]; exact hP q0 _ ha) ((hK.2 t0 _ ht).1 n (fun j => .long (f j))) (j := i) (by show (i < 0 ∨ (arrV _ _ _).slots.size ≤ _); rw [arrV_size]; exact Classical.byContradiction hout) (g := F0 m pc ls (.long x :: .int i :: .ref a :: rest)) rfl (rest := rest) rfl (by rw [hb]; exact hdg) t
  simp only [arrV_size] at h1
  exact h1 st
theorem vx_faldZ {D : va_G} {cl : List vw_C} {ws : va_W} {tys : List (ClassId × FieldType)} {a : Nat} (hexec : p.tables.exec = Jvm.exec) (hb : c.code = cc) (hK : va_K D cl tys s) (hP : va_P D cl ws H) (q0 t0 : Nat) {cA : ClassId} {n : Nat} {f : Nat → UInt32} (ha : ws[q0]? = some (a, .inl (cA, n, .inr (.inr (.inl f))))) (ht : tys[t0]? = some (cA, .float)) {i : Int32} (hout : ¬ vp_in i n) (hdg : decode cc pc = .ok (.faload, 1))
    (k : ∀ tx : String, tx = (toString "Index " ++ toString i ++ toString " out of bounds for length " ++ toString n : String) → vx_Note p l e R s m args below meth c H locs cells slots Q (F0 m pc ls rest) "java/lang/ArrayIndexOutOfBoundsException" tx) : W p l e R s m args below meth c H locs cells slots Q (F0 m pc ls (.int i :: .ref a :: rest)) := by
  intro T hT X
  obtain ⟨t, st, q⟩ := k _ rfl T hT X
  refine ⟨t, ?_, q⟩
  have h1 := X.faloadOut hexec (by rw [hT]; exact hP q0 _ ha) ((hK.2 t0 _ ht).1 n (fun j => .float (f j))) (j := i) (by show (i < 0 ∨ (arrV _ _ _).slots.size ≤ _); rw [arrV_size]; exact Classical.byContradiction hout) (g := F0 m pc ls (.int i :: .ref a :: rest)) rfl (rest := rest) rfl (by rw [hb]; exact hdg) t
  simp only [arrV_size] at h1
  exact h1 st
theorem vx_fastZ {D : va_G} {cl : List vw_C} {ws : va_W} {tys : List (ClassId × FieldType)} {a : Nat} (hexec : p.tables.exec = Jvm.exec) (hb : c.code = cc) (hK : va_K D cl tys s) (hP : va_P D cl ws H) (q0 t0 : Nat) {cA : ClassId} {n : Nat} {f : Nat → UInt32} (ha : ws[q0]? = some (a, .inl (cA, n, .inr (.inr (.inl f))))) (ht : tys[t0]? = some (cA, .float)) {i : Int32} {x : UInt32} (hout : ¬ vp_in i n) (hdg : decode cc pc = .ok (.fastore, 1))
    (k : ∀ tx : String, tx = (toString "Index " ++ toString i ++ toString " out of bounds for length " ++ toString n : String) → vx_Note p l e R s m args below meth c H locs cells slots Q (F0 m pc ls rest) "java/lang/ArrayIndexOutOfBoundsException" tx) : W p l e R s m args below meth c H locs cells slots Q (F0 m pc ls (.float x :: .int i :: .ref a :: rest)) := by
  intro T hT X
  obtain ⟨t, st, q⟩ := k _ rfl T hT X
  refine ⟨t, ?_, q⟩
  have h1 := X.fastoreOut hexec (by rw [hT]; exact hP q0 _ ha) ((hK.2 t0 _ ht).1 n (fun j => .float (f j))) (j := i) (by show (i < 0 ∨ (arrV _ _ _).slots.size ≤ _); rw [arrV_size]; exact Classical.byContradiction hout) (g := F0 m pc ls (.float x :: .int i :: .ref a :: rest)) rfl (rest := rest) rfl (by rw [hb]; exact hdg) t
  simp only [arrV_size] at h1
  exact h1 st
theorem vx_daldZ {D : va_G} {cl : List vw_C} {ws : va_W} {tys : List (ClassId × FieldType)} {a : Nat} (hexec : p.tables.exec = Jvm.exec) (hb : c.code = cc) (hK : va_K D cl tys s) (hP : va_P D cl ws H) (q0 t0 : Nat) {cA : ClassId} {n : Nat} {f : Nat → UInt64} (ha : ws[q0]? = some (a, .inl (cA, n, .inr (.inr (.inr (.inl f)))))) (ht : tys[t0]? = some (cA, .double)) {i : Int32} (hout : ¬ vp_in i n) (hdg : decode cc pc = .ok (.daload, 1))
    (k : ∀ tx : String, tx = (toString "Index " ++ toString i ++ toString " out of bounds for length " ++ toString n : String) → vx_Note p l e R s m args below meth c H locs cells slots Q (F0 m pc ls rest) "java/lang/ArrayIndexOutOfBoundsException" tx) : W p l e R s m args below meth c H locs cells slots Q (F0 m pc ls (.int i :: .ref a :: rest)) := by
  intro T hT X
  obtain ⟨t, st, q⟩ := k _ rfl T hT X
  refine ⟨t, ?_, q⟩
  have h1 := X.daloadOut hexec (by rw [hT]; exact hP q0 _ ha) ((hK.2 t0 _ ht).1 n (fun j => .double (f j))) (j := i) (by show (i < 0 ∨ (arrV _ _ _).slots.size ≤ _); rw [arrV_size]; exact Classical.byContradiction hout) (g := F0 m pc ls (.int i :: .ref a :: rest)) rfl (rest := rest) rfl (by rw [hb]; exact hdg) t
  simp only [arrV_size] at h1
  exact h1 st
theorem vx_dastZ {D : va_G} {cl : List vw_C} {ws : va_W} {tys : List (ClassId × FieldType)} {a : Nat} (hexec : p.tables.exec = Jvm.exec) (hb : c.code = cc) (hK : va_K D cl tys s) (hP : va_P D cl ws H) (q0 t0 : Nat) {cA : ClassId} {n : Nat} {f : Nat → UInt64} (ha : ws[q0]? = some (a, .inl (cA, n, .inr (.inr (.inr (.inl f)))))) (ht : tys[t0]? = some (cA, .double)) {i : Int32} {x : UInt64} (hout : ¬ vp_in i n) (hdg : decode cc pc = .ok (.dastore, 1))
    (k : ∀ tx : String, tx = (toString "Index " ++ toString i ++ toString " out of bounds for length " ++ toString n : String) → vx_Note p l e R s m args below meth c H locs cells slots Q (F0 m pc ls rest) "java/lang/ArrayIndexOutOfBoundsException" tx) : W p l e R s m args below meth c H locs cells slots Q (F0 m pc ls (.double x :: .int i :: .ref a :: rest)) := by
  intro T hT X
  obtain ⟨t, st, q⟩ := k _ rfl T hT X
  refine ⟨t, ?_, q⟩
  have h1 := X.dastoreOut hexec (by rw [hT]; exact hP q0 _ ha) ((hK.2 t0 _ ht).1 n (fun j => .double (f j))) (j := i) (by show (i < 0 ∨ (arrV _ _ _).slots.size ≤ _); rw [arrV_size]; exact Classical.byContradiction hout) (g := F0 m pc ls (.double x :: .int i :: .ref a :: rest)) rfl (rest := rest) rfl (by rw [hb]; exact hdg) t
  simp only [arrV_size] at h1
  exact h1 st
theorem vx_arraylengthN (hexec : p.tables.exec = Jvm.exec) (hb : c.code = cc) (hdg : decode cc pc = .ok (.arraylength, 1)) (k : vx_NoteN p l e R s m args below meth c H locs cells slots Q (F0 m pc ls rest)) : W p l e R s m args below meth c H locs cells slots Q (F0 m pc ls (.null :: rest)) := by
  intro T hT X
  obtain ⟨t, st, q⟩ := k T hT X
  exact ⟨t, X.arraylengthNull hexec (g := F0 m pc ls (.null :: rest)) rfl (rest := rest) rfl (by rw [hb]; exact hdg) t st, q⟩
theorem vx_ialoadN (hexec : p.tables.exec = Jvm.exec) (hb : c.code = cc) {i : Int32} (hdg : decode cc pc = .ok (.iaload, 1)) (k : vx_NoteN p l e R s m args below meth c H locs cells slots Q (F0 m pc ls rest)) : W p l e R s m args below meth c H locs cells slots Q (F0 m pc ls (.int i :: .null :: rest)) := by
  intro T hT X
  obtain ⟨t, st, q⟩ := k T hT X
  exact ⟨t, X.ialoadNull hexec (g := F0 m pc ls (.int i :: .null :: rest)) rfl (rest := rest) rfl (by rw [hb]; exact hdg) t st, q⟩
theorem vx_laloadN (hexec : p.tables.exec = Jvm.exec) (hb : c.code = cc) {i : Int32} (hdg : decode cc pc = .ok (.laload, 1)) (k : vx_NoteN p l e R s m args below meth c H locs cells slots Q (F0 m pc ls rest)) : W p l e R s m args below meth c H locs cells slots Q (F0 m pc ls (.int i :: .null :: rest)) := by
  intro T hT X
  obtain ⟨t, st, q⟩ := k T hT X
  exact ⟨t, X.laloadNull hexec (g := F0 m pc ls (.int i :: .null :: rest)) rfl (rest := rest) rfl (by rw [hb]; exact hdg) t st, q⟩
theorem vx_faloadN (hexec : p.tables.exec = Jvm.exec) (hb : c.code = cc) {i : Int32} (hdg : decode cc pc = .ok (.faload, 1)) (k : vx_NoteN p l e R s m args below meth c H locs cells slots Q (F0 m pc ls rest)) : W p l e R s m args below meth c H locs cells slots Q (F0 m pc ls (.int i :: .null :: rest)) := by
  intro T hT X
  obtain ⟨t, st, q⟩ := k T hT X
  exact ⟨t, X.faloadNull hexec (g := F0 m pc ls (.int i :: .null :: rest)) rfl (rest := rest) rfl (by rw [hb]; exact hdg) t st, q⟩
theorem vx_daloadN (hexec : p.tables.exec = Jvm.exec) (hb : c.code = cc) {i : Int32} (hdg : decode cc pc = .ok (.daload, 1)) (k : vx_NoteN p l e R s m args below meth c H locs cells slots Q (F0 m pc ls rest)) : W p l e R s m args below meth c H locs cells slots Q (F0 m pc ls (.int i :: .null :: rest)) := by
  intro T hT X
  obtain ⟨t, st, q⟩ := k T hT X
  exact ⟨t, X.daloadNull hexec (g := F0 m pc ls (.int i :: .null :: rest)) rfl (rest := rest) rfl (by rw [hb]; exact hdg) t st, q⟩
theorem vx_aaloadN (hexec : p.tables.exec = Jvm.exec) (hb : c.code = cc) {i : Int32} (hdg : decode cc pc = .ok (.aaload, 1)) (k : vx_NoteN p l e R s m args below meth c H locs cells slots Q (F0 m pc ls rest)) : W p l e R s m args below meth c H locs cells slots Q (F0 m pc ls (.int i :: .null :: rest)) := by
  intro T hT X
  obtain ⟨t, st, q⟩ := k T hT X
  exact ⟨t, X.aaloadNull hexec (g := F0 m pc ls (.int i :: .null :: rest)) rfl (rest := rest) rfl (by rw [hb]; exact hdg) t st, q⟩
theorem vx_baloadN (hexec : p.tables.exec = Jvm.exec) (hb : c.code = cc) {i : Int32} (hdg : decode cc pc = .ok (.baload, 1)) (k : vx_NoteN p l e R s m args below meth c H locs cells slots Q (F0 m pc ls rest)) : W p l e R s m args below meth c H locs cells slots Q (F0 m pc ls (.int i :: .null :: rest)) := by
  intro T hT X
  obtain ⟨t, st, q⟩ := k T hT X
  exact ⟨t, X.baloadNull hexec (g := F0 m pc ls (.int i :: .null :: rest)) rfl (rest := rest) rfl (by rw [hb]; exact hdg) t st, q⟩
theorem vx_caloadN (hexec : p.tables.exec = Jvm.exec) (hb : c.code = cc) {i : Int32} (hdg : decode cc pc = .ok (.caload, 1)) (k : vx_NoteN p l e R s m args below meth c H locs cells slots Q (F0 m pc ls rest)) : W p l e R s m args below meth c H locs cells slots Q (F0 m pc ls (.int i :: .null :: rest)) := by
  intro T hT X
  obtain ⟨t, st, q⟩ := k T hT X
  exact ⟨t, X.caloadNull hexec (g := F0 m pc ls (.int i :: .null :: rest)) rfl (rest := rest) rfl (by rw [hb]; exact hdg) t st, q⟩
theorem vx_saloadN (hexec : p.tables.exec = Jvm.exec) (hb : c.code = cc) {i : Int32} (hdg : decode cc pc = .ok (.saload, 1)) (k : vx_NoteN p l e R s m args below meth c H locs cells slots Q (F0 m pc ls rest)) : W p l e R s m args below meth c H locs cells slots Q (F0 m pc ls (.int i :: .null :: rest)) := by
  intro T hT X
  obtain ⟨t, st, q⟩ := k T hT X
  exact ⟨t, X.saloadNull hexec (g := F0 m pc ls (.int i :: .null :: rest)) rfl (rest := rest) rfl (by rw [hb]; exact hdg) t st, q⟩
theorem vx_iastoreN (hexec : p.tables.exec = Jvm.exec) (hb : c.code = cc) {x : Int32} {i : Int32} (hdg : decode cc pc = .ok (.iastore, 1)) (k : vx_NoteN p l e R s m args below meth c H locs cells slots Q (F0 m pc ls rest)) : W p l e R s m args below meth c H locs cells slots Q (F0 m pc ls (.int x :: .int i :: .null :: rest)) := by
  intro T hT X
  obtain ⟨t, st, q⟩ := k T hT X
  exact ⟨t, X.iastoreNull hexec (g := F0 m pc ls (.int x :: .int i :: .null :: rest)) rfl (rest := rest) rfl (by rw [hb]; exact hdg) t st, q⟩
theorem vx_lastoreN (hexec : p.tables.exec = Jvm.exec) (hb : c.code = cc) {x : Int64} {i : Int32} (hdg : decode cc pc = .ok (.lastore, 1)) (k : vx_NoteN p l e R s m args below meth c H locs cells slots Q (F0 m pc ls rest)) : W p l e R s m args below meth c H locs cells slots Q (F0 m pc ls (.long x :: .int i :: .null :: rest)) := by
  intro T hT X
  obtain ⟨t, st, q⟩ := k T hT X
  exact ⟨t, X.lastoreNull hexec (g := F0 m pc ls (.long x :: .int i :: .null :: rest)) rfl (rest := rest) rfl (by rw [hb]; exact hdg) t st, q⟩
theorem vx_fastoreN (hexec : p.tables.exec = Jvm.exec) (hb : c.code = cc) {x : UInt32} {i : Int32} (hdg : decode cc pc = .ok (.fastore, 1)) (k : vx_NoteN p l e R s m args below meth c H locs cells slots Q (F0 m pc ls rest)) : W p l e R s m args below meth c H locs cells slots Q (F0 m pc ls (.float x :: .int i :: .null :: rest)) := by
  intro T hT X
  obtain ⟨t, st, q⟩ := k T hT X
  exact ⟨t, X.fastoreNull hexec (g := F0 m pc ls (.float x :: .int i :: .null :: rest)) rfl (rest := rest) rfl (by rw [hb]; exact hdg) t st, q⟩
theorem vx_dastoreN (hexec : p.tables.exec = Jvm.exec) (hb : c.code = cc) {x : UInt64} {i : Int32} (hdg : decode cc pc = .ok (.dastore, 1)) (k : vx_NoteN p l e R s m args below meth c H locs cells slots Q (F0 m pc ls rest)) : W p l e R s m args below meth c H locs cells slots Q (F0 m pc ls (.double x :: .int i :: .null :: rest)) := by
  intro T hT X
  obtain ⟨t, st, q⟩ := k T hT X
  exact ⟨t, X.dastoreNull hexec (g := F0 m pc ls (.double x :: .int i :: .null :: rest)) rfl (rest := rest) rfl (by rw [hb]; exact hdg) t st, q⟩
theorem vx_bastoreN (hexec : p.tables.exec = Jvm.exec) (hb : c.code = cc) {x : Int32} {i : Int32} (hdg : decode cc pc = .ok (.bastore, 1)) (k : vx_NoteN p l e R s m args below meth c H locs cells slots Q (F0 m pc ls rest)) : W p l e R s m args below meth c H locs cells slots Q (F0 m pc ls (.int x :: .int i :: .null :: rest)) := by
  intro T hT X
  obtain ⟨t, st, q⟩ := k T hT X
  exact ⟨t, X.bastoreNull hexec (g := F0 m pc ls (.int x :: .int i :: .null :: rest)) rfl (rest := rest) rfl (by rw [hb]; exact hdg) t st, q⟩
theorem vx_castoreN (hexec : p.tables.exec = Jvm.exec) (hb : c.code = cc) {x : Int32} {i : Int32} (hdg : decode cc pc = .ok (.castore, 1)) (k : vx_NoteN p l e R s m args below meth c H locs cells slots Q (F0 m pc ls rest)) : W p l e R s m args below meth c H locs cells slots Q (F0 m pc ls (.int x :: .int i :: .null :: rest)) := by
  intro T hT X
  obtain ⟨t, st, q⟩ := k T hT X
  exact ⟨t, X.castoreNull hexec (g := F0 m pc ls (.int x :: .int i :: .null :: rest)) rfl (rest := rest) rfl (by rw [hb]; exact hdg) t st, q⟩
theorem vx_sastoreN (hexec : p.tables.exec = Jvm.exec) (hb : c.code = cc) {x : Int32} {i : Int32} (hdg : decode cc pc = .ok (.sastore, 1)) (k : vx_NoteN p l e R s m args below meth c H locs cells slots Q (F0 m pc ls rest)) : W p l e R s m args below meth c H locs cells slots Q (F0 m pc ls (.int x :: .int i :: .null :: rest)) := by
  intro T hT X
  obtain ⟨t, st, q⟩ := k T hT X
  exact ⟨t, X.sastoreNull hexec (g := F0 m pc ls (.int x :: .int i :: .null :: rest)) rfl (rest := rest) rfl (by rw [hb]; exact hdg) t st, q⟩
theorem vx_invokeN {own C : String} {index maxL : Nat} {y : MethodName} {bytes : ByteArray} {ret : Option FieldType} (hexec : p.tables.exec = Jvm.exec) (hb : c.code = cc) (hown : s.vm.findClass own = some m.cls) (hlink : (Cond.methodLink own index y).before args s = true) (hinst : (Cond.instanceMethod y).before args s = true) (hcode : (Cond.code y bytes maxL ret).before args s = true) (hsel : (Cond.selects C y y).before args s = true)
    (hx : y.cls ≠ "java/lang/invoke/MethodHandle" ∧ y.cls ≠ "java/lang/invoke/VarHandle") {As : List Value} (hlen : (parseMethodDescriptor y.desc).map (fun d => d.parameters.length) = some As.length) (hdg : decode cc pc = .ok (.invokevirtual index, 3))
    (k : vx_NoteN p l e R s m args below meth c H locs cells slots Q (F0 m pc ls rest)) {st0 : List Value} (hst : st0 = As.reverse ++ .null :: rest) : W p l e R s m args below meth c H locs cells slots Q (F0 m pc ls st0) := by
  intro T hT X
  obtain ⟨r0, r, hn, hrm, hstR, hsigR⟩ := va_Decl.of hinst hcode
  obtain ⟨c2, r2, m2, q1, q2, q3, q4, kP, hkP, hkPi⟩ := Cond.selects_spec hsel
  cases hn.symm.trans q3
  have hl9 : As.length = r.sig.parameters.length := by
    rw [hsigR] at hlen
    exact (Option.some.inj hlen).symm
  obtain ⟨vm', X1, st1⟩ := X.invokevirtualNull hexec hown hlink hn hrm hstR hkP hkPi hx (g := F0 m pc ls st0) rfl (argsL := As) (rest := rest) hl9 hst (by rw [hb]; exact hdg)
  obtain ⟨t, st, q⟩ := k (T.setVm vm') hT X1
  exact ⟨t, st1 t st, q⟩
theorem vx_newarrayZ {atype : ArrayType} (hexec : p.tables.exec = Jvm.exec) (hb : c.code = cc) {n : Int32} (h0 : n < 0) (hdg : decode cc pc = .ok (.newarray atype, 2)) (k : ∀ tx : String, tx = toString n → vx_Note p l e R s m args below meth c H locs cells slots Q (F0 m pc ls rest) "java/lang/NegativeArraySizeException" tx) : W p l e R s m args below meth c H locs cells slots Q (F0 m pc ls (.int n :: rest)) := by
  intro T hT X
  obtain ⟨t, st, q⟩ := k _ rfl T hT X
  exact ⟨t, X.newarrayNegative hexec (g := F0 m pc ls (.int n :: rest)) rfl h0 (rest := rest) rfl (by rw [hb]; exact hdg) t st, q⟩
end
end VXM
/-! ===== END ===== -/
end
section
/-! ===== BEGIN printed: names, fields, word lists, decode rows ===== -/
def RX0 : String := "GossipMembership$CommandText"
def TX0 : u_T := fun k => match k with
  | 0 => ("GossipMembership$CommandText", "signs", "[C", true)
  | _ => ("GossipMembership$CommandText", "length", "I", false)
def tyX0 : Nat → FieldType := fun k => match k with
  | 0 => .array .char
  | _ => .int
abbrev wsX00 : List Cond := u_ws RX0 TX0 2
theorem nmX0 : ∀ a, a < 2 → ∀ b, b < 2 → a ≠ b → (TX0 a).2.1 ≠ (TX0 b).2.1 := by decide +kernel
theorem tyX0_ok : ∀ k, k < 2 → parseFieldDescriptor (TX0 k).2.2.1 = some (tyX0 k) := by decide +kernel
abbrev cX0_init : ByteArray := prog_2_method_1_code
def yX0_init : MethodName := ⟨RX0, "<init>", "()V"⟩
abbrev cX0_signAt : ByteArray := prog_2_method_2_code
def yX0_signAt : MethodName := ⟨RX0, "signAt", "(I)C"⟩
abbrev cX0_digitAt : ByteArray := prog_2_method_3_code
def yX0_digitAt : MethodName := ⟨RX0, "digitAt", "(I)I"⟩
abbrev cX0_lengthOfCommand : ByteArray := prog_2_method_4_code
def yX0_lengthOfCommand : MethodName := ⟨RX0, "lengthOfCommand", "(I)I"⟩
abbrev cX0_findFault : ByteArray := prog_2_method_5_code
def yX0_findFault : MethodName := ⟨RX0, "findFault", "()I"⟩
abbrev cX0_findFaultOfCommand : ByteArray := prog_2_method_6_code
def yX0_findFaultOfCommand : MethodName := ⟨RX0, "findFaultOfCommand", "(I)I"⟩
abbrev cX0_digitsOf : ByteArray := prog_2_method_7_code
def yX0_digitsOf : MethodName := ⟨RX0, "digitsOf", "(C)I"⟩
abbrev cX0_isDigitFor : ByteArray := prog_2_method_8_code
def yX0_isDigitFor : MethodName := ⟨RX0, "isDigitFor", "(CIC)Z"⟩
def RX1 : String := "GossipMembership$Knowledge"
def TX1 : u_T := fun k => match k with
  | 0 => ("GossipMembership$Knowledge", "ownIncarnation", "[I", true)
  | 1 => ("GossipMembership$Knowledge", "state", "[I", true)
  | 2 => ("GossipMembership$Knowledge", "incarnations", "[I", true)
  | 3 => ("GossipMembership$Knowledge", "deadlines", "[I", true)
  | 4 => ("GossipMembership$Knowledge", "counters", "[I", true)
  | 5 => ("GossipMembership$Knowledge", "patience", "I", false)
  | 6 => ("GossipMembership$Knowledge", "fanOut", "I", false)
  | 7 => ("GossipMembership$Knowledge", "presentRound", "I", false)
  | 8 => ("GossipMembership$Knowledge", "lastUnquietRound", "I", false)
  | _ => ("GossipMembership$Knowledge", "refuted", "I", false)
def tyX1 : Nat → FieldType := fun k => match k with
  | 0 => .array .int
  | 1 => .array .int
  | 2 => .array .int
  | 3 => .array .int
  | 4 => .array .int
  | 5 => .int
  | 6 => .int
  | 7 => .int
  | 8 => .int
  | _ => .int
abbrev wsX10 : List Cond := u_ws RX1 TX1 10
theorem nmX1 : ∀ a, a < 10 → ∀ b, b < 10 → a ≠ b → (TX1 a).2.1 ≠ (TX1 b).2.1 := by decide +kernel
theorem tyX1_ok : ∀ k, k < 10 → parseFieldDescriptor (TX1 k).2.2.1 = some (tyX1 k) := by decide +kernel
abbrev cX1_init : ByteArray := prog_3_method_1_code
def yX1_init : MethodName := ⟨RX1, "<init>", "()V"⟩
abbrev cX1_endQuiet : ByteArray := prog_3_method_2_code
def yX1_endQuiet : MethodName := ⟨RX1, "endQuiet", "()V"⟩
abbrev cX1_forgetAll : ByteArray := prog_3_method_3_code
def yX1_forgetAll : MethodName := ⟨RX1, "forgetAll", "(I)V"⟩
abbrev cX1_takeIn : ByteArray := prog_3_method_4_code
def yX1_takeIn : MethodName := ⟨RX1, "takeIn", "(IIII)Z"⟩
abbrev cX1_outweighs : ByteArray := prog_3_method_5_code
def yX1_outweighs : MethodName := ⟨RX1, "outweighs", "(III)Z"⟩
abbrev cX1_replaceView : ByteArray := prog_3_method_6_code
def yX1_replaceView : MethodName := ⟨RX1, "replaceView", "(III)V"⟩
abbrev cX1_toldState : ByteArray := prog_3_method_7_code
def yX1_toldState : MethodName := ⟨RX1, "toldState", "(II)I"⟩
abbrev cX1_toldIncarnation : ByteArray := prog_3_method_8_code
def yX1_toldIncarnation : MethodName := ⟨RX1, "toldIncarnation", "(II)I"⟩
abbrev cX1_nodesInState : ByteArray := prog_3_method_9_code
def yX1_nodesInState : MethodName := ⟨RX1, "nodesInState", "(II)I"⟩
abbrev cX1_mostUrgent : ByteArray := prog_3_method_10_code
def yX1_mostUrgent : MethodName := ⟨RX1, "mostUrgent", "(II)I"⟩
abbrev cX1_sumOfCounters : ByteArray := prog_3_method_11_code
def yX1_sumOfCounters : MethodName := ⟨RX1, "sumOfCounters", "(I)I"⟩
abbrev cX1_isUpToDate : ByteArray := prog_3_method_12_code
def yX1_isUpToDate : MethodName := ⟨RX1, "isUpToDate", "(II)Z"⟩
abbrev cX1_countDifferences : ByteArray := prog_3_method_13_code
def yX1_countDifferences : MethodName := ⟨RX1, "countDifferences", "(II)I"⟩
abbrev cX1_differ : ByteArray := prog_3_method_14_code
def yX1_differ : MethodName := ⟨RX1, "differ", "(II)Z"⟩
abbrev cX1_copyFrom : ByteArray := prog_3_method_15_code
def yX1_copyFrom : MethodName := ⟨RX1, "copyFrom", "(LGossipMembership$Knowledge;)V"⟩
def RX2 : String := "GossipMembership$Network"
def TX2 : u_T := fun k => match k with
  | 0 => ("GossipMembership$Network", "up", "[Z", true)
  | 1 => ("GossipMembership$Network", "everUp", "[Z", true)
  | 2 => ("GossipMembership$Network", "place", "[I", true)
  | _ => ("GossipMembership$Network", "cutLinks", "[Z", true)
def tyX2 : Nat → FieldType := fun k => match k with
  | 0 => .array .boolean
  | 1 => .array .boolean
  | 2 => .array .int
  | _ => .array .boolean
abbrev wsX20 : List Cond := u_ws RX2 TX2 4
theorem nmX2 : ∀ a, a < 4 → ∀ b, b < 4 → a ≠ b → (TX2 a).2.1 ≠ (TX2 b).2.1 := by decide +kernel
theorem tyX2_ok : ∀ k, k < 4 → parseFieldDescriptor (TX2 k).2.2.1 = some (tyX2 k) := by decide +kernel
abbrev cX2_init : ByteArray := prog_4_method_1_code
def yX2_init : MethodName := ⟨RX2, "<init>", "()V"⟩
abbrev cX2_connects : ByteArray := prog_4_method_2_code
def yX2_connects : MethodName := ⟨RX2, "connects", "(II)Z"⟩
abbrev cX2_wouldConnect : ByteArray := prog_4_method_3_code
def yX2_wouldConnect : MethodName := ⟨RX2, "wouldConnect", "(II)Z"⟩
abbrev cX2_setCut : ByteArray := prog_4_method_4_code
def yX2_setCut : MethodName := ⟨RX2, "setCut", "(IIZ)V"⟩
abbrev cX2_countUp : ByteArray := prog_4_method_5_code
def yX2_countUp : MethodName := ⟨RX2, "countUp", "()I"⟩
abbrev cX2_copyFrom : ByteArray := prog_4_method_6_code
def yX2_copyFrom : MethodName := ⟨RX2, "copyFrom", "(LGossipMembership$Network;)V"⟩
def RX3 : String := "GossipMembership$World"
def TX3 : u_T := fun k => match k with
  | 0 => ("GossipMembership$World", "network", "LGossipMembership$Network;", true)
  | 1 => ("GossipMembership$World", "knowledge", "LGossipMembership$Knowledge;", true)
  | 2 => ("GossipMembership$World", "helpers", "I", false)
  | 3 => ("GossipMembership$World", "drawSeed", "I", false)
  | 4 => ("GossipMembership$World", "declared", "I", false)
  | 5 => ("GossipMembership$World", "declaredFalsely", "I", false)
  | _ => ("GossipMembership$World", "messagesSent", "I", false)
def tyX3 : Nat → FieldType := fun k => match k with
  | 0 => .object "GossipMembership$Network"
  | 1 => .object "GossipMembership$Knowledge"
  | 2 => .int
  | 3 => .int
  | 4 => .int
  | 5 => .int
  | _ => .int
abbrev wsX30 : List Cond := u_ws RX3 TX3 7
theorem nmX3 : ∀ a, a < 7 → ∀ b, b < 7 → a ≠ b → (TX3 a).2.1 ≠ (TX3 b).2.1 := by decide +kernel
theorem tyX3_ok : ∀ k, k < 7 → parseFieldDescriptor (TX3 k).2.2.1 = some (tyX3 k) := by decide +kernel
abbrev cX3_init : ByteArray := prog_5_method_1_code
def yX3_init : MethodName := ⟨RX3, "<init>", "()V"⟩
abbrev cX3_admit : ByteArray := prog_5_method_2_code
def yX3_admit : MethodName := ⟨RX3, "admit", "(II)V"⟩
abbrev cX3_introduce : ByteArray := prog_5_method_3_code
def yX3_introduce : MethodName := ⟨RX3, "introduce", "(II)V"⟩
abbrev cX3_play : ByteArray := prog_5_method_4_code
def yX3_play : MethodName := ⟨RX3, "play", "(I)V"⟩
abbrev cX3_takeTurn : ByteArray := prog_5_method_5_code
def yX3_takeTurn : MethodName := ⟨RX3, "takeTurn", "(I)V"⟩
abbrev cX3_declareOverdue : ByteArray := prog_5_method_6_code
def yX3_declareOverdue : MethodName := ⟨RX3, "declareOverdue", "(I)V"⟩
abbrev cX3_helpersReach : ByteArray := prog_5_method_7_code
def yX3_helpersReach : MethodName := ⟨RX3, "helpersReach", "(II)Z"⟩
abbrev cX3_drawFrom : ByteArray := prog_5_method_8_code
def yX3_drawFrom : MethodName := ⟨RX3, "drawFrom", "(I)I"⟩
abbrev cX3_send : ByteArray := prog_5_method_9_code
def yX3_send : MethodName := ⟨RX3, "send", "(II)V"⟩
abbrev cX3_allAgree : ByteArray := prog_5_method_10_code
def yX3_allAgree : MethodName := ⟨RX3, "allAgree", "()Z"⟩
abbrev cX3_twoAgree : ByteArray := prog_5_method_11_code
def yX3_twoAgree : MethodName := ⟨RX3, "twoAgree", "(II)Z"⟩
abbrev cX3_countDisagreements : ByteArray := prog_5_method_12_code
def yX3_countDisagreements : MethodName := ⟨RX3, "countDisagreements", "()I"⟩
abbrev cX3_copyFrom : ByteArray := prog_5_method_13_code
def yX3_copyFrom : MethodName := ⟨RX3, "copyFrom", "(LGossipMembership$World;)V"⟩
def RX4 : String := "GossipMembership"
def TX4 : u_T := fun k => match k with
  | 0 => ("GossipMembership", "world", "LGossipMembership$World;", true)
  | 1 => ("GossipMembership", "savedWorld", "LGossipMembership$World;", true)
  | 2 => ("GossipMembership", "somethingSaved", "Z", false)
  | 3 => ("GossipMembership", "text", "LGossipMembership$CommandText;", true)
  | 4 => ("GossipMembership", "failureKind", "I", false)
  | _ => ("GossipMembership", "failureNumber", "I", false)
def tyX4 : Nat → FieldType := fun k => match k with
  | 0 => .object "GossipMembership$World"
  | 1 => .object "GossipMembership$World"
  | 2 => .boolean
  | 3 => .object "GossipMembership$CommandText"
  | 4 => .int
  | _ => .int
abbrev wsX40 : List Cond := u_ws RX4 TX4 6
theorem nmX4 : ∀ a, a < 6 → ∀ b, b < 6 → a ≠ b → (TX4 a).2.1 ≠ (TX4 b).2.1 := by decide +kernel
theorem tyX4_ok : ∀ k, k < 6 → parseFieldDescriptor (TX4 k).2.2.1 = some (tyX4 k) := by decide +kernel
abbrev cX4_init : ByteArray := prog_1_method_1_code
def yX4_init : MethodName := ⟨RX4, "<init>", "()V"⟩
abbrev cX4_setPatience : ByteArray := prog_1_method_2_code
def yX4_setPatience : MethodName := ⟨RX4, "setPatience", "(I)I"⟩
abbrev cX4_setFanOut : ByteArray := prog_1_method_3_code
def yX4_setFanOut : MethodName := ⟨RX4, "setFanOut", "(I)I"⟩
abbrev cX4_setHelpers : ByteArray := prog_1_method_4_code
def yX4_setHelpers : MethodName := ⟨RX4, "setHelpers", "(I)I"⟩
abbrev cX4_setSeed : ByteArray := prog_1_method_5_code
def yX4_setSeed : MethodName := ⟨RX4, "setSeed", "(I)I"⟩
abbrev cX4_seed : ByteArray := prog_1_method_6_code
def yX4_seed : MethodName := ⟨RX4, "seed", "()I"⟩
abbrev cX4_join : ByteArray := prog_1_method_7_code
def yX4_join : MethodName := ⟨RX4, "join", "(II)I"⟩
abbrev cX4_crash : ByteArray := prog_1_method_8_code
def yX4_crash : MethodName := ⟨RX4, "crash", "(I)I"⟩
abbrev cX4_move : ByteArray := prog_1_method_9_code
def yX4_move : MethodName := ⟨RX4, "move", "(II)I"⟩
abbrev cX4_cut : ByteArray := prog_1_method_10_code
def yX4_cut : MethodName := ⟨RX4, "cut", "(IIZ)Z"⟩
abbrev cX4_rounds : ByteArray := prog_1_method_11_code
def yX4_rounds : MethodName := ⟨RX4, "rounds", "(I)I"⟩
abbrev cX4_roundsUntilAgreement : ByteArray := prog_1_method_12_code
def yX4_roundsUntilAgreement : MethodName := ⟨RX4, "roundsUntilAgreement", "(I)I"⟩
abbrev cX4_round : ByteArray := prog_1_method_13_code
def yX4_round : MethodName := ⟨RX4, "round", "()I"⟩
abbrev cX4_isUp : ByteArray := prog_1_method_14_code
def yX4_isUp : MethodName := ⟨RX4, "isUp", "(I)Z"⟩
abbrev cX4_partition : ByteArray := prog_1_method_15_code
def yX4_partition : MethodName := ⟨RX4, "partition", "(I)I"⟩
abbrev cX4_incarnation : ByteArray := prog_1_method_16_code
def yX4_incarnation : MethodName := ⟨RX4, "incarnation", "(I)I"⟩
abbrev cX4_reaches : ByteArray := prog_1_method_17_code
def yX4_reaches : MethodName := ⟨RX4, "reaches", "(II)Z"⟩
abbrev cX4_view : ByteArray := prog_1_method_18_code
def yX4_view : MethodName := ⟨RX4, "view", "(II)I"⟩
abbrev cX4_viewIncarnation : ByteArray := prog_1_method_19_code
def yX4_viewIncarnation : MethodName := ⟨RX4, "viewIncarnation", "(II)I"⟩
abbrev cX4_deadline : ByteArray := prog_1_method_20_code
def yX4_deadline : MethodName := ⟨RX4, "deadline", "(II)I"⟩
abbrev cX4_counter : ByteArray := prog_1_method_21_code
def yX4_counter : MethodName := ⟨RX4, "counter", "(II)I"⟩
abbrev cX4_tell : ByteArray := prog_1_method_22_code
def yX4_tell : MethodName := ⟨RX4, "tell", "(IIII)Z"⟩
abbrev cX4_alive : ByteArray := prog_1_method_23_code
def yX4_alive : MethodName := ⟨RX4, "alive", "(I)I"⟩
abbrev cX4_agree : ByteArray := prog_1_method_24_code
def yX4_agree : MethodName := ⟨RX4, "agree", "()Z"⟩
abbrev cX4_disagreements : ByteArray := prog_1_method_25_code
def yX4_disagreements : MethodName := ⟨RX4, "disagreements", "()I"⟩
abbrev cX4_declarations : ByteArray := prog_1_method_26_code
def yX4_declarations : MethodName := ⟨RX4, "declarations", "()I"⟩
abbrev cX4_falseDeclarations : ByteArray := prog_1_method_27_code
def yX4_falseDeclarations : MethodName := ⟨RX4, "falseDeclarations", "()I"⟩
abbrev cX4_refutations : ByteArray := prog_1_method_28_code
def yX4_refutations : MethodName := ⟨RX4, "refutations", "()I"⟩
abbrev cX4_messages : ByteArray := prog_1_method_29_code
def yX4_messages : MethodName := ⟨RX4, "messages", "()I"⟩
abbrev cX4_quietRounds : ByteArray := prog_1_method_30_code
def yX4_quietRounds : MethodName := ⟨RX4, "quietRounds", "()I"⟩
abbrev cX4_appendCharacter : ByteArray := prog_1_method_31_code
def yX4_appendCharacter : MethodName := ⟨RX4, "appendCharacter", "(I)I"⟩
abbrev cX4_runText : ByteArray := prog_1_method_32_code
def yX4_runText : MethodName := ⟨RX4, "runText", "()I"⟩
abbrev cX4_failure : ByteArray := prog_1_method_33_code
def yX4_failure : MethodName := ⟨RX4, "failure", "(I)I"⟩
abbrev cX4_averageCounter : ByteArray := prog_1_method_34_code
def yX4_averageCounter : MethodName := ⟨RX4, "averageCounter", "(I)D"⟩
abbrev cX4_falseShare : ByteArray := prog_1_method_35_code
def yX4_falseShare : MethodName := ⟨RX4, "falseShare", "()F"⟩
abbrev cX4_save : ByteArray := prog_1_method_36_code
def yX4_save : MethodName := ⟨RX4, "save", "()V"⟩
abbrev cX4_restore : ByteArray := prog_1_method_37_code
def yX4_restore : MethodName := ⟨RX4, "restore", "()V"⟩
abbrev cX4_requireNode : ByteArray := prog_1_method_38_code
def yX4_requireNode : MethodName := ⟨RX4, "requireNode", "(I)V"⟩
abbrev cX4_requireTwoNodes : ByteArray := prog_1_method_39_code
def yX4_requireTwoNodes : MethodName := ⟨RX4, "requireTwoNodes", "(II)V"⟩
abbrev cX4_pair : ByteArray := prog_1_method_40_code
def yX4_pair : MethodName := ⟨RX4, "pair", "(II)I"⟩
abbrev cX4_carryOut : ByteArray := prog_1_method_41_code
def yX4_carryOut : MethodName := ⟨RX4, "carryOut", "(I)I"⟩
def RX5 : String := "GossipMembershipModel"
def TX5 : u_T := fun k => match k with
  | 0 => ("GossipMembershipModel", "thrown", "I", false)
  | 1 => ("GossipMembershipModel", "s", "[I", true)
  | 2 => ("GossipMembershipModel", "saved", "[I", true)
  | 3 => ("GossipMembershipModel", "hasSaved", "Z", false)
  | 4 => ("GossipMembershipModel", "text", "[I", true)
  | 5 => ("GossipMembershipModel", "length", "I", false)
  | 6 => ("GossipMembershipModel", "failureKind", "I", false)
  | 7 => ("GossipMembershipModel", "failureAt", "I", false)
  | 8 => ("GossipMembershipModel", "sent", "[I", true)
  | 9 => ("GossipMembershipModel", "sentMany", "I", false)
  | 10 => ("GossipMembershipModel", "spot", "I", false)
  | _ => ("GossipMembershipModel", "isRead", "Z", false)
def tyX5 : Nat → FieldType := fun k => match k with
  | 0 => .int
  | 1 => .array .int
  | 2 => .array .int
  | 3 => .boolean
  | 4 => .array .int
  | 5 => .int
  | 6 => .int
  | 7 => .int
  | 8 => .array .int
  | 9 => .int
  | 10 => .int
  | _ => .boolean
abbrev wsX50 : List Cond := u_ws RX5 TX5 12
theorem nmX5 : ∀ a, a < 12 → ∀ b, b < 12 → a ≠ b → (TX5 a).2.1 ≠ (TX5 b).2.1 := by decide +kernel
theorem tyX5_ok : ∀ k, k < 12 → parseFieldDescriptor (TX5 k).2.2.1 = some (tyX5 k) := by decide +kernel
abbrev cX5_init : ByteArray := prog_7_method_1_code
def yX5_init : MethodName := ⟨RX5, "<init>", "()V"⟩
abbrev cX5_thrown : ByteArray := prog_7_method_2_code
def yX5_thrown : MethodName := ⟨RX5, "thrown", "()I"⟩
abbrev cX5_fails : ByteArray := prog_7_method_3_code
def yX5_fails : MethodName := ⟨RX5, "fails", "(I)I"⟩
abbrev cX5_in : ByteArray := prog_7_method_4_code
def yX5_in : MethodName := ⟨RX5, "in", "(III)Z"⟩
abbrev cX5_isNode : ByteArray := prog_7_method_5_code
def yX5_isNode : MethodName := ⟨RX5, "isNode", "(I)Z"⟩
abbrev cX5_pair : ByteArray := prog_7_method_6_code
def yX5_pair : MethodName := ⟨RX5, "pair", "(II)I"⟩
abbrev cX5_canReach : ByteArray := prog_7_method_7_code
def yX5_canReach : MethodName := ⟨RX5, "canReach", "(II)Z"⟩
abbrev cX5_areLinked : ByteArray := prog_7_method_8_code
def yX5_areLinked : MethodName := ⟨RX5, "areLinked", "(II)Z"⟩
abbrev cX5_changes : ByteArray := prog_7_method_9_code
def yX5_changes : MethodName := ⟨RX5, "changes", "(II)V"⟩
abbrev cX5_becomes : ByteArray := prog_7_method_10_code
def yX5_becomes : MethodName := ⟨RX5, "becomes", "(IIII)V"⟩
abbrev cX5_refutes : ByteArray := prog_7_method_11_code
def yX5_refutes : MethodName := ⟨RX5, "refutes", "(III)Z"⟩
abbrev cX5_takesIn : ByteArray := prog_7_method_12_code
def yX5_takesIn : MethodName := ⟨RX5, "takesIn", "(IIII)Z"⟩
abbrev cX5_mostCounted : ByteArray := prog_7_method_13_code
def yX5_mostCounted : MethodName := ⟨RX5, "mostCounted", "(II)I"⟩
abbrev cX5_composes : ByteArray := prog_7_method_14_code
def yX5_composes : MethodName := ⟨RX5, "composes", "(II)V"⟩
abbrev cX5_sends : ByteArray := prog_7_method_15_code
def yX5_sends : MethodName := ⟨RX5, "sends", "(II)V"⟩
abbrev cX5_draws : ByteArray := prog_7_method_16_code
def yX5_draws : MethodName := ⟨RX5, "draws", "(I)I"⟩
abbrev cX5_bits : ByteArray := prog_7_method_17_code
def yX5_bits : MethodName := ⟨RX5, "bits", "(I)I"⟩
abbrev cX5_drawn : ByteArray := prog_7_method_18_code
def yX5_drawn : MethodName := ⟨RX5, "drawn", "(I)I"⟩
abbrev cX5_viewed : ByteArray := prog_7_method_19_code
def yX5_viewed : MethodName := ⟨RX5, "viewed", "(III)I"⟩
abbrev cX5_declares : ByteArray := prog_7_method_20_code
def yX5_declares : MethodName := ⟨RX5, "declares", "(I)V"⟩
abbrev cX5_isHelped : ByteArray := prog_7_method_21_code
def yX5_isHelped : MethodName := ⟨RX5, "isHelped", "(II)Z"⟩
abbrev cX5_turns : ByteArray := prog_7_method_22_code
def yX5_turns : MethodName := ⟨RX5, "turns", "(I)V"⟩
abbrev cX5_round1 : ByteArray := prog_7_method_23_code
def yX5_round1 : MethodName := ⟨RX5, "round1", "()V"⟩
abbrev cX5_sets : ByteArray := prog_7_method_24_code
def yX5_sets : MethodName := ⟨RX5, "sets", "(IIII)I"⟩
abbrev cX5_setPatience : ByteArray := prog_7_method_25_code
def yX5_setPatience : MethodName := ⟨RX5, "setPatience", "(I)I"⟩
abbrev cX5_setFanOut : ByteArray := prog_7_method_26_code
def yX5_setFanOut : MethodName := ⟨RX5, "setFanOut", "(I)I"⟩
abbrev cX5_setHelpers : ByteArray := prog_7_method_27_code
def yX5_setHelpers : MethodName := ⟨RX5, "setHelpers", "(I)I"⟩
abbrev cX5_setSeed : ByteArray := prog_7_method_28_code
def yX5_setSeed : MethodName := ⟨RX5, "setSeed", "(I)I"⟩
abbrev cX5_seed : ByteArray := prog_7_method_29_code
def yX5_seed : MethodName := ⟨RX5, "seed", "()I"⟩
abbrev cX5_join : ByteArray := prog_7_method_30_code
def yX5_join : MethodName := ⟨RX5, "join", "(II)I"⟩
abbrev cX5_greets : ByteArray := prog_7_method_31_code
def yX5_greets : MethodName := ⟨RX5, "greets", "(II)V"⟩
abbrev cX5_crash : ByteArray := prog_7_method_32_code
def yX5_crash : MethodName := ⟨RX5, "crash", "(I)I"⟩
abbrev cX5_move : ByteArray := prog_7_method_33_code
def yX5_move : MethodName := ⟨RX5, "move", "(II)I"⟩
abbrev cX5_cut : ByteArray := prog_7_method_34_code
def yX5_cut : MethodName := ⟨RX5, "cut", "(IIZ)Z"⟩
abbrev cX5_rounds : ByteArray := prog_7_method_35_code
def yX5_rounds : MethodName := ⟨RX5, "rounds", "(I)I"⟩
abbrev cX5_roundsUntilAgreement : ByteArray := prog_7_method_36_code
def yX5_roundsUntilAgreement : MethodName := ⟨RX5, "roundsUntilAgreement", "(I)I"⟩
abbrev cX5_round : ByteArray := prog_7_method_37_code
def yX5_round : MethodName := ⟨RX5, "round", "()I"⟩
abbrev cX5_isUp : ByteArray := prog_7_method_38_code
def yX5_isUp : MethodName := ⟨RX5, "isUp", "(I)Z"⟩
abbrev cX5_partition : ByteArray := prog_7_method_39_code
def yX5_partition : MethodName := ⟨RX5, "partition", "(I)I"⟩
abbrev cX5_incarnation : ByteArray := prog_7_method_40_code
def yX5_incarnation : MethodName := ⟨RX5, "incarnation", "(I)I"⟩
abbrev cX5_reaches : ByteArray := prog_7_method_41_code
def yX5_reaches : MethodName := ⟨RX5, "reaches", "(II)Z"⟩
abbrev cX5_viewRefusal : ByteArray := prog_7_method_42_code
def yX5_viewRefusal : MethodName := ⟨RX5, "viewRefusal", "(II)I"⟩
abbrev cX5_view : ByteArray := prog_7_method_43_code
def yX5_view : MethodName := ⟨RX5, "view", "(II)I"⟩
abbrev cX5_viewIncarnation : ByteArray := prog_7_method_44_code
def yX5_viewIncarnation : MethodName := ⟨RX5, "viewIncarnation", "(II)I"⟩
abbrev cX5_deadline : ByteArray := prog_7_method_45_code
def yX5_deadline : MethodName := ⟨RX5, "deadline", "(II)I"⟩
abbrev cX5_counter : ByteArray := prog_7_method_46_code
def yX5_counter : MethodName := ⟨RX5, "counter", "(II)I"⟩
abbrev cX5_tell : ByteArray := prog_7_method_47_code
def yX5_tell : MethodName := ⟨RX5, "tell", "(IIII)Z"⟩
abbrev cX5_alive : ByteArray := prog_7_method_48_code
def yX5_alive : MethodName := ⟨RX5, "alive", "(I)I"⟩
abbrev cX5_differences : ByteArray := prog_7_method_49_code
def yX5_differences : MethodName := ⟨RX5, "differences", "(II)I"⟩
abbrev cX5_allDifferences : ByteArray := prog_7_method_50_code
def yX5_allDifferences : MethodName := ⟨RX5, "allDifferences", "()I"⟩
abbrev cX5_knows : ByteArray := prog_7_method_51_code
def yX5_knows : MethodName := ⟨RX5, "knows", "(II)Z"⟩
abbrev cX5_doAgree : ByteArray := prog_7_method_52_code
def yX5_doAgree : MethodName := ⟨RX5, "doAgree", "()Z"⟩
abbrev cX5_agree : ByteArray := prog_7_method_53_code
def yX5_agree : MethodName := ⟨RX5, "agree", "()Z"⟩
abbrev cX5_disagreements : ByteArray := prog_7_method_54_code
def yX5_disagreements : MethodName := ⟨RX5, "disagreements", "()I"⟩
abbrev cX5_plain : ByteArray := prog_7_method_55_code
def yX5_plain : MethodName := ⟨RX5, "plain", "(I)I"⟩
abbrev cX5_declarations : ByteArray := prog_7_method_56_code
def yX5_declarations : MethodName := ⟨RX5, "declarations", "()I"⟩
abbrev cX5_falseDeclarations : ByteArray := prog_7_method_57_code
def yX5_falseDeclarations : MethodName := ⟨RX5, "falseDeclarations", "()I"⟩
abbrev cX5_refutations : ByteArray := prog_7_method_58_code
def yX5_refutations : MethodName := ⟨RX5, "refutations", "()I"⟩
abbrev cX5_messages : ByteArray := prog_7_method_59_code
def yX5_messages : MethodName := ⟨RX5, "messages", "()I"⟩
abbrev cX5_quietRounds : ByteArray := prog_7_method_60_code
def yX5_quietRounds : MethodName := ⟨RX5, "quietRounds", "()I"⟩
abbrev cX5_appendCharacter : ByteArray := prog_7_method_61_code
def yX5_appendCharacter : MethodName := ⟨RX5, "appendCharacter", "(I)I"⟩
abbrev cX5_here : ByteArray := prog_7_method_62_code
def yX5_here : MethodName := ⟨RX5, "here", "()I"⟩
abbrev cX5_digit : ByteArray := prog_7_method_63_code
def yX5_digit : MethodName := ⟨RX5, "digit", "(CC)I"⟩
abbrev cX5_command : ByteArray := prog_7_method_64_code
def yX5_command : MethodName := ⟨RX5, "command", "(Z)V"⟩
abbrev cX5_does : ByteArray := prog_7_method_65_code
def yX5_does : MethodName := ⟨RX5, "does", "(III)V"⟩
abbrev cX5_script : ByteArray := prog_7_method_66_code
def yX5_script : MethodName := ⟨RX5, "script", "(Z)I"⟩
abbrev cX5_runText : ByteArray := prog_7_method_67_code
def yX5_runText : MethodName := ⟨RX5, "runText", "()I"⟩
abbrev cX5_failure : ByteArray := prog_7_method_68_code
def yX5_failure : MethodName := ⟨RX5, "failure", "(I)I"⟩
abbrev cX5_averageCounter : ByteArray := prog_7_method_69_code
def yX5_averageCounter : MethodName := ⟨RX5, "averageCounter", "(I)D"⟩
abbrev cX5_falseShare : ByteArray := prog_7_method_70_code
def yX5_falseShare : MethodName := ⟨RX5, "falseShare", "()F"⟩
abbrev cX5_save : ByteArray := prog_7_method_71_code
def yX5_save : MethodName := ⟨RX5, "save", "()V"⟩
abbrev cX5_restore : ByteArray := prog_7_method_72_code
def yX5_restore : MethodName := ⟨RX5, "restore", "()V"⟩
def RJx145de : String := "java/io/Serializable"
def TJx145de : u_T := fun k => match k with
  | _ => ("", "", "", false)
def tyJx145de : Nat → FieldType := fun k => match k with
  | _ => .int
abbrev wsJx145de0 : List Cond := u_ws RJx145de TJx145de 0
theorem nmJx145de : ∀ a, a < 0 → ∀ b, b < 0 → a ≠ b → (TJx145de a).2.1 ≠ (TJx145de b).2.1 := by decide +kernel
theorem tyJx145de_ok : ∀ k, k < 0 → parseFieldDescriptor (TJx145de k).2.2.1 = some (tyJx145de k) := by decide +kernel
def RJx00060 : String := "java/lang/ArrayIndexOutOfBoundsException"
def TJx00060 : u_T := fun k => match k with
  | 0 => ("java/lang/Throwable", "backtrace", "Ljava/lang/Object;", false)
  | 1 => ("java/lang/Throwable", "detailMessage", "Ljava/lang/String;", false)
  | 2 => ("java/lang/Throwable", "cause", "Ljava/lang/Throwable;", false)
  | 3 => ("java/lang/Throwable", "stackTrace", "[Ljava/lang/StackTraceElement;", false)
  | 4 => ("java/lang/Throwable", "depth", "I", false)
  | _ => ("java/lang/Throwable", "suppressedExceptions", "Ljava/util/List;", false)
def tyJx00060 : Nat → FieldType := fun k => match k with
  | 0 => .object "java/lang/Object"
  | 1 => .object "java/lang/String"
  | 2 => .object "java/lang/Throwable"
  | 3 => .array (.object "java/lang/StackTraceElement")
  | 4 => .int
  | _ => .object "java/util/List"
abbrev wsJx000600 : List Cond := u_ws RJx00060 TJx00060 6
theorem nmJx00060 : ∀ a, a < 6 → ∀ b, b < 6 → a ≠ b → (TJx00060 a).2.1 ≠ (TJx00060 b).2.1 := by decide +kernel
theorem tyJx00060_ok : ∀ k, k < 6 → parseFieldDescriptor (TJx00060 k).2.2.1 = some (tyJx00060 k) := by decide +kernel
abbrev cJx00060_init_a7421 : ByteArray := prog_10_method_2_code
def yJx00060_init_a7421 : MethodName := ⟨RJx00060, "<init>", "(Ljava/lang/String;)V"⟩
def RJ6 : String := "java/lang/Integer"
def TJ6 : u_T := fun k => match k with
  | _ => ("", "", "", false)
def tyJ6 : Nat → FieldType := fun k => match k with
  | _ => .int
abbrev wsJ60 : List Cond := u_ws RJ6 TJ6 0
theorem nmJ6 : ∀ a, a < 0 → ∀ b, b < 0 → a ≠ b → (TJ6 a).2.1 ≠ (TJ6 b).2.1 := by decide +kernel
theorem tyJ6_ok : ∀ k, k < 0 → parseFieldDescriptor (TJ6 k).2.2.1 = some (tyJ6 k) := by decide +kernel
abbrev cJ6_bitCount_0f7a4 : ByteArray := prog_15_method_49_code
def yJ6_bitCount_0f7a4 : MethodName := ⟨RJ6, "bitCount", "(I)I"⟩
def RJ0 : String := "java/lang/String"
def TJ0 : u_T := fun k => match k with
  | 0 => ("java/lang/String", "value", "[B", true)
  | _ => ("java/lang/String", "coder", "B", true)
def tyJ0 : Nat → FieldType := fun k => match k with
  | 0 => .array .byte
  | _ => .byte
abbrev wsJ00 : List Cond := u_ws RJ0 TJ0 2
theorem nmJ0 : ∀ a, a < 2 → ∀ b, b < 2 → a ≠ b → (TJ0 a).2.1 ≠ (TJ0 b).2.1 := by decide +kernel
theorem tyJ0_ok : ∀ k, k < 2 → parseFieldDescriptor (TJ0 k).2.2.1 = some (tyJ0 k) := by decide +kernel
def RJ10 : String := "java/lang/System"
def TJ10 : u_T := fun k => match k with
  | _ => ("", "", "", false)
def tyJ10 : Nat → FieldType := fun k => match k with
  | _ => .int
abbrev wsJ100 : List Cond := u_ws RJ10 TJ10 0
theorem nmJ10 : ∀ a, a < 0 → ∀ b, b < 0 → a ≠ b → (TJ10 a).2.1 ≠ (TJ10 b).2.1 := by decide +kernel
theorem tyJ10_ok : ∀ k, k < 0 → parseFieldDescriptor (TJ10 k).2.2.1 = some (tyJ10 k) := by decide +kernel
def RL : String := "GossipMembershipLaw"
abbrev cL_setPatience : ByteArray := method_3_code
def yL_setPatience : MethodName := ⟨RL, "setPatience", "(LGossipMembership;I[J)I"⟩
abbrev cL_setFanOut : ByteArray := method_4_code
def yL_setFanOut : MethodName := ⟨RL, "setFanOut", "(LGossipMembership;I[J)I"⟩
abbrev cL_setHelpers : ByteArray := method_5_code
def yL_setHelpers : MethodName := ⟨RL, "setHelpers", "(LGossipMembership;I[J)I"⟩
abbrev cL_setSeed : ByteArray := method_6_code
def yL_setSeed : MethodName := ⟨RL, "setSeed", "(LGossipMembership;I[J)I"⟩
abbrev cL_join : ByteArray := method_7_code
def yL_join : MethodName := ⟨RL, "join", "(LGossipMembership;II[J)I"⟩
abbrev cL_crash : ByteArray := method_8_code
def yL_crash : MethodName := ⟨RL, "crash", "(LGossipMembership;I[J)I"⟩
abbrev cL_move : ByteArray := method_9_code
def yL_move : MethodName := ⟨RL, "move", "(LGossipMembership;II[J)I"⟩
abbrev cL_cut : ByteArray := method_10_code
def yL_cut : MethodName := ⟨RL, "cut", "(LGossipMembership;IIZ[J)I"⟩
abbrev cL_rounds : ByteArray := method_11_code
def yL_rounds : MethodName := ⟨RL, "rounds", "(LGossipMembership;I[J)I"⟩
abbrev cL_roundsUntilAgreement : ByteArray := method_12_code
def yL_roundsUntilAgreement : MethodName := ⟨RL, "roundsUntilAgreement", "(LGossipMembership;I[J)I"⟩
abbrev cL_isUp : ByteArray := method_13_code
def yL_isUp : MethodName := ⟨RL, "isUp", "(LGossipMembership;I[J)I"⟩
abbrev cL_partition : ByteArray := method_14_code
def yL_partition : MethodName := ⟨RL, "partition", "(LGossipMembership;I[J)I"⟩
abbrev cL_incarnation : ByteArray := method_15_code
def yL_incarnation : MethodName := ⟨RL, "incarnation", "(LGossipMembership;I[J)I"⟩
abbrev cL_reaches : ByteArray := method_16_code
def yL_reaches : MethodName := ⟨RL, "reaches", "(LGossipMembership;II[J)I"⟩
abbrev cL_view : ByteArray := method_17_code
def yL_view : MethodName := ⟨RL, "view", "(LGossipMembership;II[J)I"⟩
abbrev cL_viewIncarnation : ByteArray := method_18_code
def yL_viewIncarnation : MethodName := ⟨RL, "viewIncarnation", "(LGossipMembership;II[J)I"⟩
abbrev cL_deadline : ByteArray := method_19_code
def yL_deadline : MethodName := ⟨RL, "deadline", "(LGossipMembership;II[J)I"⟩
abbrev cL_counter : ByteArray := method_20_code
def yL_counter : MethodName := ⟨RL, "counter", "(LGossipMembership;II[J)I"⟩
abbrev cL_tell : ByteArray := method_21_code
def yL_tell : MethodName := ⟨RL, "tell", "(LGossipMembership;IIII[J)I"⟩
abbrev cL_alive : ByteArray := method_22_code
def yL_alive : MethodName := ⟨RL, "alive", "(LGossipMembership;I[J)I"⟩
abbrev cL_appendCharacter : ByteArray := method_23_code
def yL_appendCharacter : MethodName := ⟨RL, "appendCharacter", "(LGossipMembership;I[J)I"⟩
abbrev cL_runText : ByteArray := method_24_code
def yL_runText : MethodName := ⟨RL, "runText", "(LGossipMembership;[J)I"⟩
abbrev cL_failure : ByteArray := method_25_code
def yL_failure : MethodName := ⟨RL, "failure", "(LGossipMembership;I[J)I"⟩
abbrev cL_averageCounter : ByteArray := method_26_code
def yL_averageCounter : MethodName := ⟨RL, "averageCounter", "(LGossipMembership;I[D)I"⟩
abbrev cL_falseShare : ByteArray := method_27_code
def yL_falseShare : MethodName := ⟨RL, "falseShare", "(LGossipMembership;[D)I"⟩
abbrev cL_restore : ByteArray := method_28_code
def yL_restore : MethodName := ⟨RL, "restore", "(LGossipMembership;)I"⟩
abbrev cL_law : ByteArray := code
def yL_law : MethodName := ⟨RL, "law", "([I)Z"⟩
def wsX0_init : List Cond := .code yX0_init cX0_init 1 none :: ([.methodLink RX0 3 objectInit, .instanceMethod objectInit, .code objectInit ⟨#[0xb1]⟩ 1 none, .arrayClass .char, .fieldLink RX0 9 "GossipMembership$CommandText" "signs" "[C"] ++ wsX00)
def wsX0_signAt : List Cond := .code yX0_signAt cX0_signAt 2 (some .char) :: ([.fieldLink RX0 15 "GossipMembership$CommandText" "length" "I", .fieldLink RX0 9 "GossipMembership$CommandText" "signs" "[C"] ++ wsX00 ++ (vx_atM "java/lang/ArrayIndexOutOfBoundsException" ["java/lang/IndexOutOfBoundsException", "java/lang/RuntimeException", "java/lang/Exception"]).filter goodWord)
def wsX0_digitAt : List Cond := .code yX0_digitAt cX0_digitAt 2 (some .int) :: ([.methodLink RX0 19 yX0_signAt, .instanceMethod yX0_signAt, .selects RX0 yX0_signAt yX0_signAt, .initialized RX0, .code yX0_signAt cX0_signAt 2 (some .char), .fieldLink RX0 15 "GossipMembership$CommandText" "length" "I", .fieldLink RX0 9 "GossipMembership$CommandText" "signs" "[C"] ++ wsX00 ++ (vx_atM "java/lang/ArrayIndexOutOfBoundsException" ["java/lang/IndexOutOfBoundsException", "java/lang/RuntimeException", "java/lang/Exception"]).filter goodWord)
def wsX0_digitsOf : List Cond := .code yX0_digitsOf cX0_digitsOf 1 (some .int) :: ([])
def wsX0_lengthOfCommand : List Cond := .code yX0_lengthOfCommand cX0_lengthOfCommand 2 (some .int) :: ([.methodLink RX0 19 yX0_signAt, .instanceMethod yX0_signAt, .selects RX0 yX0_signAt yX0_signAt, .initialized RX0, .code yX0_signAt cX0_signAt 2 (some .char), .fieldLink RX0 15 "GossipMembership$CommandText" "length" "I", .fieldLink RX0 9 "GossipMembership$CommandText" "signs" "[C", .methodLink RX0 23 yX0_digitsOf, .static yX0_digitsOf, .code yX0_digitsOf cX0_digitsOf 1 (some .int)] ++ wsX00 ++ (vx_atM "java/lang/ArrayIndexOutOfBoundsException" ["java/lang/IndexOutOfBoundsException", "java/lang/RuntimeException", "java/lang/Exception"]).filter goodWord)
def wsX0_isDigitFor : List Cond := .code yX0_isDigitFor cX0_isDigitFor 4 (some .boolean) :: ([])
def wsX0_findFaultOfCommand : List Cond := .code yX0_findFaultOfCommand cX0_findFaultOfCommand 5 (some .int) :: ([.methodLink RX0 19 yX0_signAt, .instanceMethod yX0_signAt, .selects RX0 yX0_signAt yX0_signAt, .initialized RX0, .code yX0_signAt cX0_signAt 2 (some .char), .fieldLink RX0 15 "GossipMembership$CommandText" "length" "I", .fieldLink RX0 9 "GossipMembership$CommandText" "signs" "[C", .methodLink RX0 23 yX0_digitsOf, .static yX0_digitsOf, .code yX0_digitsOf cX0_digitsOf 1 (some .int), .methodLink RX0 34 yX0_isDigitFor, .static yX0_isDigitFor, .code yX0_isDigitFor cX0_isDigitFor 4 (some .boolean)] ++ wsX00 ++ (vx_atM "java/lang/ArrayIndexOutOfBoundsException" ["java/lang/IndexOutOfBoundsException", "java/lang/RuntimeException", "java/lang/Exception"]).filter goodWord)
def wsX0_findFault : List Cond := .code yX0_findFault cX0_findFault 3 (some .int) :: ([.fieldLink RX0 15 "GossipMembership$CommandText" "length" "I", .methodLink RX0 27 yX0_findFaultOfCommand, .instanceMethod yX0_findFaultOfCommand, .selects RX0 yX0_findFaultOfCommand yX0_findFaultOfCommand, .initialized RX0, .code yX0_findFaultOfCommand cX0_findFaultOfCommand 5 (some .int), .methodLink RX0 19 yX0_signAt, .instanceMethod yX0_signAt, .selects RX0 yX0_signAt yX0_signAt, .code yX0_signAt cX0_signAt 2 (some .char), .fieldLink RX0 9 "GossipMembership$CommandText" "signs" "[C", .methodLink RX0 23 yX0_digitsOf, .static yX0_digitsOf, .code yX0_digitsOf cX0_digitsOf 1 (some .int), .methodLink RX0 34 yX0_isDigitFor, .static yX0_isDigitFor, .code yX0_isDigitFor cX0_isDigitFor 4 (some .boolean), .methodLink RX0 31 yX0_lengthOfCommand, .instanceMethod yX0_lengthOfCommand, .selects RX0 yX0_lengthOfCommand yX0_lengthOfCommand, .code yX0_lengthOfCommand cX0_lengthOfCommand 2 (some .int)] ++ wsX00 ++ (vx_atM "java/lang/ArrayIndexOutOfBoundsException" ["java/lang/IndexOutOfBoundsException", "java/lang/RuntimeException", "java/lang/Exception"]).filter goodWord)
def wsX1_init : List Cond := .code yX1_init cX1_init 1 none :: ([.methodLink RX1 3 objectInit, .instanceMethod objectInit, .code objectInit ⟨#[0xb1]⟩ 1 none, .arrayClass .int, .fieldLink RX1 9 "GossipMembership$Knowledge" "ownIncarnation" "[I", .fieldLink RX1 15 "GossipMembership$Knowledge" "state" "[I", .fieldLink RX1 18 "GossipMembership$Knowledge" "incarnations" "[I", .fieldLink RX1 21 "GossipMembership$Knowledge" "deadlines" "[I", .fieldLink RX1 24 "GossipMembership$Knowledge" "counters" "[I", .fieldLink RX1 27 "GossipMembership$Knowledge" "patience" "I", .fieldLink RX1 31 "GossipMembership$Knowledge" "fanOut" "I"] ++ wsX10)
def wsX1_endQuiet : List Cond := .code yX1_endQuiet cX1_endQuiet 1 none :: ([.fieldLink RX1 34 "GossipMembership$Knowledge" "presentRound" "I", .fieldLink RX1 37 "GossipMembership$Knowledge" "lastUnquietRound" "I"] ++ wsX10)
def wsX4_pair : List Cond := .code yX4_pair cX4_pair 2 (some .int) :: ([])
def wsX1_forgetAll : List Cond := .code yX1_forgetAll cX1_forgetAll 3 none :: ([.fieldLink RX1 15 "GossipMembership$Knowledge" "state" "[I", .fieldLink RX1 18 "GossipMembership$Knowledge" "incarnations" "[I", .fieldLink RX1 24 "GossipMembership$Knowledge" "counters" "[I", .fieldLink RX1 31 "GossipMembership$Knowledge" "fanOut" "I", .static yX4_pair, .initialized RX4, .code yX4_pair cX4_pair 2 (some .int)] ++ wsX10 ++ (vx_atM "java/lang/ArrayIndexOutOfBoundsException" ["java/lang/IndexOutOfBoundsException", "java/lang/RuntimeException", "java/lang/Exception"]).filter goodWord)
def wsX1_outweighs : List Cond := .code yX1_outweighs cX1_outweighs 4 (some .boolean) :: ([.fieldLink RX1 15 "GossipMembership$Knowledge" "state" "[I", .fieldLink RX1 18 "GossipMembership$Knowledge" "incarnations" "[I"] ++ wsX10 ++ (vx_atM "java/lang/ArrayIndexOutOfBoundsException" ["java/lang/IndexOutOfBoundsException", "java/lang/RuntimeException", "java/lang/Exception"]).filter goodWord)
def wsX1_replaceView : List Cond := .code yX1_replaceView cX1_replaceView 4 none :: ([.fieldLink RX1 15 "GossipMembership$Knowledge" "state" "[I", .fieldLink RX1 18 "GossipMembership$Knowledge" "incarnations" "[I", .fieldLink RX1 21 "GossipMembership$Knowledge" "deadlines" "[I", .fieldLink RX1 34 "GossipMembership$Knowledge" "presentRound" "I", .fieldLink RX1 27 "GossipMembership$Knowledge" "patience" "I"] ++ wsX10 ++ (vx_atM "java/lang/ArrayIndexOutOfBoundsException" ["java/lang/IndexOutOfBoundsException", "java/lang/RuntimeException", "java/lang/Exception"]).filter goodWord)
def wsX1_takeIn_r1 : List Cond := [Cond.fieldLink RX1 9 "GossipMembership$Knowledge" "ownIncarnation" "[I", Cond.fieldLink RX1 44 "GossipMembership$Knowledge" "refuted" "I", Cond.fieldLink RX1 24 "GossipMembership$Knowledge" "counters" "[I", Cond.fieldLink RX1 31 "GossipMembership$Knowledge" "fanOut" "I", Cond.static yX4_pair, Cond.initialized RX4, Cond.code yX4_pair cX4_pair 2 (some .int), Cond.methodLink RX1 47 yX1_outweighs, Cond.instanceMethod yX1_outweighs, Cond.selects RX1 yX1_outweighs yX1_outweighs, Cond.initialized RX1, Cond.code yX1_outweighs cX1_outweighs 4 (some .boolean), Cond.fieldLink RX1 15 "GossipMembership$Knowledge" "state" "[I", Cond.fieldLink RX1 18 "GossipMembership$Knowledge" "incarnations" "[I", Cond.methodLink RX1 51 yX1_replaceView, Cond.instanceMethod yX1_replaceView, Cond.selects RX1 yX1_replaceView yX1_replaceView, Cond.code yX1_replaceView cX1_replaceView 4 none, Cond.fieldLink RX1 21 "GossipMembership$Knowledge" "deadlines" "[I", Cond.fieldLink RX1 34 "GossipMembership$Knowledge" "presentRound" "I", Cond.fieldLink RX1 27 "GossipMembership$Knowledge" "patience" "I", Cond.methodLink RX1 55 yX1_endQuiet, Cond.instanceMethod yX1_endQuiet, Cond.selects RX1 yX1_endQuiet yX1_endQuiet]
def wsX1_takeIn_r2 : List Cond := [Cond.code yX1_endQuiet cX1_endQuiet 1 none, Cond.fieldLink RX1 37 "GossipMembership$Knowledge" "lastUnquietRound" "I"]
def wsX1_takeIn : List Cond := .code yX1_takeIn cX1_takeIn 6 (some .boolean) :: ((wsX1_takeIn_r1 ++ wsX1_takeIn_r2) ++ wsX10 ++ (vx_atM "java/lang/ArrayIndexOutOfBoundsException" ["java/lang/IndexOutOfBoundsException", "java/lang/RuntimeException", "java/lang/Exception"]).filter goodWord)
def wsX1_toldState : List Cond := .code yX1_toldState cX1_toldState 3 (some .int) :: ([.fieldLink RX1 15 "GossipMembership$Knowledge" "state" "[I", .static yX4_pair, .initialized RX4, .code yX4_pair cX4_pair 2 (some .int)] ++ wsX10 ++ (vx_atM "java/lang/ArrayIndexOutOfBoundsException" ["java/lang/IndexOutOfBoundsException", "java/lang/RuntimeException", "java/lang/Exception"]).filter goodWord)
def wsX1_toldIncarnation : List Cond := .code yX1_toldIncarnation cX1_toldIncarnation 3 (some .int) :: ([.fieldLink RX1 9 "GossipMembership$Knowledge" "ownIncarnation" "[I", .fieldLink RX1 18 "GossipMembership$Knowledge" "incarnations" "[I", .static yX4_pair, .initialized RX4, .code yX4_pair cX4_pair 2 (some .int)] ++ wsX10 ++ (vx_atM "java/lang/ArrayIndexOutOfBoundsException" ["java/lang/IndexOutOfBoundsException", "java/lang/RuntimeException", "java/lang/Exception"]).filter goodWord)
def wsX1_nodesInState : List Cond := .code yX1_nodesInState cX1_nodesInState 5 (some .int) :: ([.fieldLink RX1 15 "GossipMembership$Knowledge" "state" "[I", .static yX4_pair, .initialized RX4, .code yX4_pair cX4_pair 2 (some .int)] ++ wsX10 ++ (vx_atM "java/lang/ArrayIndexOutOfBoundsException" ["java/lang/IndexOutOfBoundsException", "java/lang/RuntimeException", "java/lang/Exception"]).filter goodWord)
def wsX1_mostUrgent : List Cond := .code yX1_mostUrgent cX1_mostUrgent 7 (some .int) :: ([.fieldLink RX1 24 "GossipMembership$Knowledge" "counters" "[I", .static yX4_pair, .initialized RX4, .code yX4_pair cX4_pair 2 (some .int)] ++ wsX10 ++ (vx_atM "java/lang/ArrayIndexOutOfBoundsException" ["java/lang/IndexOutOfBoundsException", "java/lang/RuntimeException", "java/lang/Exception"]).filter goodWord)
def wsX1_sumOfCounters : List Cond := .code yX1_sumOfCounters cX1_sumOfCounters 4 (some .int) :: ([.fieldLink RX1 24 "GossipMembership$Knowledge" "counters" "[I", .static yX4_pair, .initialized RX4, .code yX4_pair cX4_pair 2 (some .int)] ++ wsX10 ++ (vx_atM "java/lang/ArrayIndexOutOfBoundsException" ["java/lang/IndexOutOfBoundsException", "java/lang/RuntimeException", "java/lang/Exception"]).filter goodWord)
def wsX1_isUpToDate : List Cond := .code yX1_isUpToDate cX1_isUpToDate 3 (some .boolean) :: ([.fieldLink RX1 15 "GossipMembership$Knowledge" "state" "[I", .fieldLink RX1 18 "GossipMembership$Knowledge" "incarnations" "[I", .fieldLink RX1 9 "GossipMembership$Knowledge" "ownIncarnation" "[I", .static yX4_pair, .initialized RX4, .code yX4_pair cX4_pair 2 (some .int)] ++ wsX10 ++ (vx_atM "java/lang/ArrayIndexOutOfBoundsException" ["java/lang/IndexOutOfBoundsException", "java/lang/RuntimeException", "java/lang/Exception"]).filter goodWord)
def wsX1_differ : List Cond := .code yX1_differ cX1_differ 3 (some .boolean) :: ([.fieldLink RX1 15 "GossipMembership$Knowledge" "state" "[I", .fieldLink RX1 18 "GossipMembership$Knowledge" "incarnations" "[I"] ++ wsX10 ++ (vx_atM "java/lang/ArrayIndexOutOfBoundsException" ["java/lang/IndexOutOfBoundsException", "java/lang/RuntimeException", "java/lang/Exception"]).filter goodWord)
def wsX1_countDifferences : List Cond := .code yX1_countDifferences cX1_countDifferences 5 (some .int) :: ([.static yX4_pair, .initialized RX4, .code yX4_pair cX4_pair 2 (some .int), .methodLink RX1 58 yX1_differ, .instanceMethod yX1_differ, .selects RX1 yX1_differ yX1_differ, .initialized RX1, .code yX1_differ cX1_differ 3 (some .boolean), .fieldLink RX1 15 "GossipMembership$Knowledge" "state" "[I", .fieldLink RX1 18 "GossipMembership$Knowledge" "incarnations" "[I"] ++ wsX10 ++ (vx_atM "java/lang/ArrayIndexOutOfBoundsException" ["java/lang/IndexOutOfBoundsException", "java/lang/RuntimeException", "java/lang/Exception"]).filter goodWord)
def wsX1_copyFrom : List Cond := .code yX1_copyFrom cX1_copyFrom 2 none :: ([.fieldLink RX1 9 "GossipMembership$Knowledge" "ownIncarnation" "[I", .methodLink RX1 62 arraycopyName, .native arraycopyName, .static arraycopyName, .initialized "java/lang/System", .fieldLink RX1 15 "GossipMembership$Knowledge" "state" "[I", .fieldLink RX1 18 "GossipMembership$Knowledge" "incarnations" "[I", .fieldLink RX1 21 "GossipMembership$Knowledge" "deadlines" "[I", .fieldLink RX1 24 "GossipMembership$Knowledge" "counters" "[I", .fieldLink RX1 27 "GossipMembership$Knowledge" "patience" "I", .fieldLink RX1 31 "GossipMembership$Knowledge" "fanOut" "I", .fieldLink RX1 34 "GossipMembership$Knowledge" "presentRound" "I", .fieldLink RX1 37 "GossipMembership$Knowledge" "lastUnquietRound" "I", .fieldLink RX1 44 "GossipMembership$Knowledge" "refuted" "I"] ++ wsX10)
def wsX2_init : List Cond := .code yX2_init cX2_init 1 none :: ([.methodLink RX2 3 objectInit, .instanceMethod objectInit, .code objectInit ⟨#[0xb1]⟩ 1 none, .arrayClass .boolean, .fieldLink RX2 9 "GossipMembership$Network" "up" "[Z", .fieldLink RX2 15 "GossipMembership$Network" "everUp" "[Z", .arrayClass .int, .fieldLink RX2 18 "GossipMembership$Network" "place" "[I", .fieldLink RX2 22 "GossipMembership$Network" "cutLinks" "[Z"] ++ wsX20)
def wsX2_wouldConnect : List Cond := .code yX2_wouldConnect cX2_wouldConnect 3 (some .boolean) :: ([.fieldLink RX2 9 "GossipMembership$Network" "up" "[Z", .fieldLink RX2 18 "GossipMembership$Network" "place" "[I", .fieldLink RX2 22 "GossipMembership$Network" "cutLinks" "[Z", .static yX4_pair, .initialized RX4, .code yX4_pair cX4_pair 2 (some .int)] ++ wsX20 ++ (vx_atM "java/lang/ArrayIndexOutOfBoundsException" ["java/lang/IndexOutOfBoundsException", "java/lang/RuntimeException", "java/lang/Exception"]).filter goodWord)
def wsX2_connects : List Cond := .code yX2_connects cX2_connects 3 (some .boolean) :: ([.fieldLink RX2 9 "GossipMembership$Network" "up" "[Z", .methodLink RX2 25 yX2_wouldConnect, .instanceMethod yX2_wouldConnect, .selects RX2 yX2_wouldConnect yX2_wouldConnect, .initialized RX2, .code yX2_wouldConnect cX2_wouldConnect 3 (some .boolean), .fieldLink RX2 18 "GossipMembership$Network" "place" "[I", .fieldLink RX2 22 "GossipMembership$Network" "cutLinks" "[Z", .static yX4_pair, .initialized RX4, .code yX4_pair cX4_pair 2 (some .int)] ++ wsX20 ++ (vx_atM "java/lang/ArrayIndexOutOfBoundsException" ["java/lang/IndexOutOfBoundsException", "java/lang/RuntimeException", "java/lang/Exception"]).filter goodWord)
def wsX2_setCut : List Cond := .code yX2_setCut cX2_setCut 4 none :: ([.fieldLink RX2 22 "GossipMembership$Network" "cutLinks" "[Z", .static yX4_pair, .initialized RX4, .code yX4_pair cX4_pair 2 (some .int)] ++ wsX20 ++ (vx_atM "java/lang/ArrayIndexOutOfBoundsException" ["java/lang/IndexOutOfBoundsException", "java/lang/RuntimeException", "java/lang/Exception"]).filter goodWord)
def wsX2_countUp : List Cond := .code yX2_countUp cX2_countUp 3 (some .int) :: ([.fieldLink RX2 9 "GossipMembership$Network" "up" "[Z"] ++ wsX20 ++ (vx_atM "java/lang/ArrayIndexOutOfBoundsException" ["java/lang/IndexOutOfBoundsException", "java/lang/RuntimeException", "java/lang/Exception"]).filter goodWord)
def wsX2_copyFrom : List Cond := .code yX2_copyFrom cX2_copyFrom 3 none :: ([.fieldLink RX2 9 "GossipMembership$Network" "up" "[Z", .fieldLink RX2 15 "GossipMembership$Network" "everUp" "[Z", .fieldLink RX2 18 "GossipMembership$Network" "place" "[I", .fieldLink RX2 22 "GossipMembership$Network" "cutLinks" "[Z"] ++ wsX20 ++ (vx_atM "java/lang/ArrayIndexOutOfBoundsException" ["java/lang/IndexOutOfBoundsException", "java/lang/RuntimeException", "java/lang/Exception"]).filter goodWord)
def wsX3_init_r1 : List Cond := [Cond.methodLink RX3 3 objectInit, Cond.instanceMethod objectInit, Cond.code objectInit ⟨#[0xb1]⟩ 1 none, Cond.classLink RX3 9 RX2, Cond.instantiable RX2 4, Cond.initialized RX2, Cond.fieldLink RX3 12 "GossipMembership$World" "network" "LGossipMembership$Network;", Cond.classLink RX3 18 RX1, Cond.instantiable RX1 10, Cond.initialized RX1, Cond.fieldLink RX3 21 "GossipMembership$World" "knowledge" "LGossipMembership$Knowledge;", Cond.fieldLink RX3 25 "GossipMembership$World" "helpers" "I", Cond.fieldLink RX3 29 "GossipMembership$World" "drawSeed" "I", Cond.instanceMethod yX2_init, Cond.code yX2_init cX2_init 1 none, Cond.methodLink RX2 3 objectInit, Cond.arrayClass .boolean, Cond.fieldLink RX2 9 "GossipMembership$Network" "up" "[Z", Cond.fieldLink RX2 15 "GossipMembership$Network" "everUp" "[Z", Cond.arrayClass .int, Cond.fieldLink RX2 18 "GossipMembership$Network" "place" "[I", Cond.fieldLink RX2 22 "GossipMembership$Network" "cutLinks" "[Z", Cond.instanceMethod yX1_init, Cond.code yX1_init cX1_init 1 none]
def wsX3_init_r2 : List Cond := [Cond.methodLink RX1 3 objectInit, Cond.fieldLink RX1 9 "GossipMembership$Knowledge" "ownIncarnation" "[I", Cond.fieldLink RX1 15 "GossipMembership$Knowledge" "state" "[I", Cond.fieldLink RX1 18 "GossipMembership$Knowledge" "incarnations" "[I", Cond.fieldLink RX1 21 "GossipMembership$Knowledge" "deadlines" "[I", Cond.fieldLink RX1 24 "GossipMembership$Knowledge" "counters" "[I", Cond.fieldLink RX1 27 "GossipMembership$Knowledge" "patience" "I", Cond.fieldLink RX1 31 "GossipMembership$Knowledge" "fanOut" "I"]
def wsX3_init : List Cond := .code yX3_init cX3_init 1 none :: ((wsX3_init_r1 ++ wsX3_init_r2) ++ wsX20 ++ wsX30 ++ wsX10)
def wsX3_introduce_r1 : List Cond := [Cond.fieldLink RX3 21 "GossipMembership$World" "knowledge" "LGossipMembership$Knowledge;", Cond.fieldLink RX3 39 "GossipMembership$Knowledge" "ownIncarnation" "[I", Cond.methodLink RX3 55 yX1_toldState, Cond.instanceMethod yX1_toldState, Cond.selects RX1 yX1_toldState yX1_toldState, Cond.initialized RX1, Cond.code yX1_toldState cX1_toldState 3 (some .int), Cond.fieldLink RX1 15 "GossipMembership$Knowledge" "state" "[I", Cond.static yX4_pair, Cond.initialized RX4, Cond.code yX4_pair cX4_pair 2 (some .int), Cond.methodLink RX3 59 yX1_toldIncarnation, Cond.instanceMethod yX1_toldIncarnation, Cond.selects RX1 yX1_toldIncarnation yX1_toldIncarnation, Cond.code yX1_toldIncarnation cX1_toldIncarnation 3 (some .int), Cond.fieldLink RX1 9 "GossipMembership$Knowledge" "ownIncarnation" "[I", Cond.fieldLink RX1 18 "GossipMembership$Knowledge" "incarnations" "[I", Cond.methodLink RX3 62 yX1_takeIn, Cond.instanceMethod yX1_takeIn, Cond.selects RX1 yX1_takeIn yX1_takeIn, Cond.code yX1_takeIn cX1_takeIn 6 (some .boolean), Cond.fieldLink RX1 44 "GossipMembership$Knowledge" "refuted" "I", Cond.fieldLink RX1 24 "GossipMembership$Knowledge" "counters" "[I", Cond.fieldLink RX1 31 "GossipMembership$Knowledge" "fanOut" "I"]
def wsX3_introduce_r2 : List Cond := [Cond.methodLink RX1 47 yX1_outweighs, Cond.instanceMethod yX1_outweighs, Cond.selects RX1 yX1_outweighs yX1_outweighs, Cond.code yX1_outweighs cX1_outweighs 4 (some .boolean), Cond.methodLink RX1 51 yX1_replaceView, Cond.instanceMethod yX1_replaceView, Cond.selects RX1 yX1_replaceView yX1_replaceView, Cond.code yX1_replaceView cX1_replaceView 4 none, Cond.fieldLink RX1 21 "GossipMembership$Knowledge" "deadlines" "[I", Cond.fieldLink RX1 34 "GossipMembership$Knowledge" "presentRound" "I", Cond.fieldLink RX1 27 "GossipMembership$Knowledge" "patience" "I", Cond.methodLink RX1 55 yX1_endQuiet, Cond.instanceMethod yX1_endQuiet, Cond.selects RX1 yX1_endQuiet yX1_endQuiet, Cond.code yX1_endQuiet cX1_endQuiet 1 none, Cond.fieldLink RX1 37 "GossipMembership$Knowledge" "lastUnquietRound" "I"]
def wsX3_introduce : List Cond := .code yX3_introduce cX3_introduce 5 none :: ((wsX3_introduce_r1 ++ wsX3_introduce_r2) ++ wsX30 ++ wsX10 ++ (vx_atM "java/lang/ArrayIndexOutOfBoundsException" ["java/lang/IndexOutOfBoundsException", "java/lang/RuntimeException", "java/lang/Exception"]).filter goodWord)
def wsX3_admit_r1 : List Cond := [Cond.fieldLink RX3 12 "GossipMembership$World" "network" "LGossipMembership$Network;", Cond.fieldLink RX3 32 "GossipMembership$Network" "up" "[Z", Cond.fieldLink RX3 36 "GossipMembership$Network" "everUp" "[Z", Cond.fieldLink RX3 21 "GossipMembership$World" "knowledge" "LGossipMembership$Knowledge;", Cond.fieldLink RX3 39 "GossipMembership$Knowledge" "ownIncarnation" "[I", Cond.methodLink RX3 43 yX1_forgetAll, Cond.instanceMethod yX1_forgetAll, Cond.selects RX1 yX1_forgetAll yX1_forgetAll, Cond.initialized RX1, Cond.code yX1_forgetAll cX1_forgetAll 3 none, Cond.fieldLink RX1 15 "GossipMembership$Knowledge" "state" "[I", Cond.fieldLink RX1 18 "GossipMembership$Knowledge" "incarnations" "[I", Cond.fieldLink RX1 24 "GossipMembership$Knowledge" "counters" "[I", Cond.fieldLink RX1 31 "GossipMembership$Knowledge" "fanOut" "I", Cond.static yX4_pair, Cond.initialized RX4, Cond.code yX4_pair cX4_pair 2 (some .int), Cond.methodLink RX3 47 yX2_connects, Cond.instanceMethod yX2_connects, Cond.selects RX2 yX2_connects yX2_connects, Cond.initialized RX2, Cond.code yX2_connects cX2_connects 3 (some .boolean), Cond.fieldLink RX2 9 "GossipMembership$Network" "up" "[Z", Cond.methodLink RX2 25 yX2_wouldConnect]
def wsX3_admit_r2 : List Cond := [Cond.instanceMethod yX2_wouldConnect, Cond.selects RX2 yX2_wouldConnect yX2_wouldConnect, Cond.code yX2_wouldConnect cX2_wouldConnect 3 (some .boolean), Cond.fieldLink RX2 18 "GossipMembership$Network" "place" "[I", Cond.fieldLink RX2 22 "GossipMembership$Network" "cutLinks" "[Z", Cond.methodLink RX3 51 yX3_introduce, Cond.instanceMethod yX3_introduce, Cond.selects RX3 yX3_introduce yX3_introduce, Cond.initialized RX3, Cond.code yX3_introduce cX3_introduce 5 none, Cond.methodLink RX3 55 yX1_toldState, Cond.instanceMethod yX1_toldState, Cond.selects RX1 yX1_toldState yX1_toldState, Cond.code yX1_toldState cX1_toldState 3 (some .int), Cond.methodLink RX3 59 yX1_toldIncarnation, Cond.instanceMethod yX1_toldIncarnation, Cond.selects RX1 yX1_toldIncarnation yX1_toldIncarnation, Cond.code yX1_toldIncarnation cX1_toldIncarnation 3 (some .int), Cond.fieldLink RX1 9 "GossipMembership$Knowledge" "ownIncarnation" "[I", Cond.methodLink RX3 62 yX1_takeIn, Cond.instanceMethod yX1_takeIn, Cond.selects RX1 yX1_takeIn yX1_takeIn, Cond.code yX1_takeIn cX1_takeIn 6 (some .boolean), Cond.fieldLink RX1 44 "GossipMembership$Knowledge" "refuted" "I"]
def wsX3_admit_r3 : List Cond := [Cond.methodLink RX1 47 yX1_outweighs, Cond.instanceMethod yX1_outweighs, Cond.selects RX1 yX1_outweighs yX1_outweighs, Cond.code yX1_outweighs cX1_outweighs 4 (some .boolean), Cond.methodLink RX1 51 yX1_replaceView, Cond.instanceMethod yX1_replaceView, Cond.selects RX1 yX1_replaceView yX1_replaceView, Cond.code yX1_replaceView cX1_replaceView 4 none, Cond.fieldLink RX1 21 "GossipMembership$Knowledge" "deadlines" "[I", Cond.fieldLink RX1 34 "GossipMembership$Knowledge" "presentRound" "I", Cond.fieldLink RX1 27 "GossipMembership$Knowledge" "patience" "I", Cond.methodLink RX1 55 yX1_endQuiet, Cond.instanceMethod yX1_endQuiet, Cond.selects RX1 yX1_endQuiet yX1_endQuiet, Cond.code yX1_endQuiet cX1_endQuiet 1 none, Cond.fieldLink RX1 37 "GossipMembership$Knowledge" "lastUnquietRound" "I"]
def wsX3_admit : List Cond := .code yX3_admit cX3_admit 3 none :: ((wsX3_admit_r1 ++ (wsX3_admit_r2 ++ wsX3_admit_r3)) ++ wsX30 ++ wsX20 ++ wsX10 ++ (vx_atM "java/lang/ArrayIndexOutOfBoundsException" ["java/lang/IndexOutOfBoundsException", "java/lang/RuntimeException", "java/lang/Exception"]).filter goodWord)
def wsX3_declareOverdue_r1 : List Cond := [Cond.fieldLink RX3 21 "GossipMembership$World" "knowledge" "LGossipMembership$Knowledge;", Cond.fieldLink RX3 88 "GossipMembership$Knowledge" "deadlines" "[I", Cond.fieldLink RX3 66 "GossipMembership$Knowledge" "presentRound" "I", Cond.fieldLink RX3 94 "GossipMembership$World" "declared" "I", Cond.fieldLink RX3 12 "GossipMembership$World" "network" "LGossipMembership$Network;", Cond.fieldLink RX3 97 "GossipMembership$World" "declaredFalsely" "I", Cond.methodLink RX3 75 yX1_nodesInState, Cond.instanceMethod yX1_nodesInState, Cond.selects RX1 yX1_nodesInState yX1_nodesInState, Cond.initialized RX1, Cond.code yX1_nodesInState cX1_nodesInState 5 (some .int), Cond.fieldLink RX1 15 "GossipMembership$Knowledge" "state" "[I", Cond.static yX4_pair, Cond.initialized RX4, Cond.code yX4_pair cX4_pair 2 (some .int), Cond.methodLink RX3 59 yX1_toldIncarnation, Cond.instanceMethod yX1_toldIncarnation, Cond.selects RX1 yX1_toldIncarnation yX1_toldIncarnation, Cond.code yX1_toldIncarnation cX1_toldIncarnation 3 (some .int), Cond.fieldLink RX1 9 "GossipMembership$Knowledge" "ownIncarnation" "[I", Cond.fieldLink RX1 18 "GossipMembership$Knowledge" "incarnations" "[I", Cond.methodLink RX3 62 yX1_takeIn, Cond.instanceMethod yX1_takeIn, Cond.selects RX1 yX1_takeIn yX1_takeIn]
def wsX3_declareOverdue_r2 : List Cond := [Cond.code yX1_takeIn cX1_takeIn 6 (some .boolean), Cond.fieldLink RX1 44 "GossipMembership$Knowledge" "refuted" "I", Cond.fieldLink RX1 24 "GossipMembership$Knowledge" "counters" "[I", Cond.fieldLink RX1 31 "GossipMembership$Knowledge" "fanOut" "I", Cond.methodLink RX1 47 yX1_outweighs, Cond.instanceMethod yX1_outweighs, Cond.selects RX1 yX1_outweighs yX1_outweighs, Cond.code yX1_outweighs cX1_outweighs 4 (some .boolean), Cond.methodLink RX1 51 yX1_replaceView, Cond.instanceMethod yX1_replaceView, Cond.selects RX1 yX1_replaceView yX1_replaceView, Cond.code yX1_replaceView cX1_replaceView 4 none, Cond.fieldLink RX1 21 "GossipMembership$Knowledge" "deadlines" "[I", Cond.fieldLink RX1 34 "GossipMembership$Knowledge" "presentRound" "I", Cond.fieldLink RX1 27 "GossipMembership$Knowledge" "patience" "I", Cond.methodLink RX1 55 yX1_endQuiet, Cond.instanceMethod yX1_endQuiet, Cond.selects RX1 yX1_endQuiet yX1_endQuiet, Cond.code yX1_endQuiet cX1_endQuiet 1 none, Cond.fieldLink RX1 37 "GossipMembership$Knowledge" "lastUnquietRound" "I", Cond.methodLink RX3 47 yX2_connects, Cond.instanceMethod yX2_connects, Cond.selects RX2 yX2_connects yX2_connects, Cond.initialized RX2]
def wsX3_declareOverdue_r3 : List Cond := [Cond.code yX2_connects cX2_connects 3 (some .boolean), Cond.fieldLink RX2 9 "GossipMembership$Network" "up" "[Z", Cond.methodLink RX2 25 yX2_wouldConnect, Cond.instanceMethod yX2_wouldConnect, Cond.selects RX2 yX2_wouldConnect yX2_wouldConnect, Cond.code yX2_wouldConnect cX2_wouldConnect 3 (some .boolean), Cond.fieldLink RX2 18 "GossipMembership$Network" "place" "[I", Cond.fieldLink RX2 22 "GossipMembership$Network" "cutLinks" "[Z"]
def wsX3_declareOverdue : List Cond := .code yX3_declareOverdue cX3_declareOverdue 4 none :: ((wsX3_declareOverdue_r1 ++ (wsX3_declareOverdue_r2 ++ wsX3_declareOverdue_r3)) ++ wsX30 ++ wsX10 ++ wsX20 ++ (vx_atM "java/lang/ArrayIndexOutOfBoundsException" ["java/lang/IndexOutOfBoundsException", "java/lang/RuntimeException", "java/lang/Exception"]).filter goodWord)
def wsJ6_bitCount_0f7a4 : List Cond := .code yJ6_bitCount_0f7a4 cJ6_bitCount_0f7a4 1 (some .int) :: ([.constant RJ6 265 (1431655765), .constant RJ6 266 (858993459), .constant RJ6 267 (252645135)])
def wsX3_drawFrom : List Cond := .code yX3_drawFrom cX3_drawFrom 5 (some .int) :: ([.fieldLink RX3 29 "GossipMembership$World" "drawSeed" "I", .constantLong RX3 105 (1103515245), .constantLong RX3 107 (12345), .constantLong RX3 109 (2147483648), .methodLink RX3 100 yJ6_bitCount_0f7a4, .static yJ6_bitCount_0f7a4, .initialized RJ6, .code yJ6_bitCount_0f7a4 cJ6_bitCount_0f7a4 1 (some .int), .constant RJ6 265 (1431655765), .constant RJ6 266 (858993459), .constant RJ6 267 (252645135)] ++ wsX30 ++ (vx_atM "java/lang/ArithmeticException" ["java/lang/RuntimeException", "java/lang/Exception"]).filter goodWord)
def wsX3_send_r1 : List Cond := [Cond.fieldLink RX3 21 "GossipMembership$World" "knowledge" "LGossipMembership$Knowledge;", Cond.fieldLink RX3 114 "GossipMembership$Knowledge" "counters" "[I", Cond.fieldLink RX3 117 "GossipMembership$World" "messagesSent" "I", Cond.methodLink RX3 55 yX1_toldState, Cond.instanceMethod yX1_toldState, Cond.selects RX1 yX1_toldState yX1_toldState, Cond.initialized RX1, Cond.code yX1_toldState cX1_toldState 3 (some .int), Cond.fieldLink RX1 15 "GossipMembership$Knowledge" "state" "[I", Cond.static yX4_pair, Cond.initialized RX4, Cond.code yX4_pair cX4_pair 2 (some .int), Cond.methodLink RX3 59 yX1_toldIncarnation, Cond.instanceMethod yX1_toldIncarnation, Cond.selects RX1 yX1_toldIncarnation yX1_toldIncarnation, Cond.code yX1_toldIncarnation cX1_toldIncarnation 3 (some .int), Cond.fieldLink RX1 9 "GossipMembership$Knowledge" "ownIncarnation" "[I", Cond.fieldLink RX1 18 "GossipMembership$Knowledge" "incarnations" "[I", Cond.methodLink RX3 62 yX1_takeIn, Cond.instanceMethod yX1_takeIn, Cond.selects RX1 yX1_takeIn yX1_takeIn, Cond.code yX1_takeIn cX1_takeIn 6 (some .boolean), Cond.fieldLink RX1 44 "GossipMembership$Knowledge" "refuted" "I", Cond.fieldLink RX1 24 "GossipMembership$Knowledge" "counters" "[I"]
def wsX3_send_r2 : List Cond := [Cond.fieldLink RX1 31 "GossipMembership$Knowledge" "fanOut" "I", Cond.methodLink RX1 47 yX1_outweighs, Cond.instanceMethod yX1_outweighs, Cond.selects RX1 yX1_outweighs yX1_outweighs, Cond.code yX1_outweighs cX1_outweighs 4 (some .boolean), Cond.methodLink RX1 51 yX1_replaceView, Cond.instanceMethod yX1_replaceView, Cond.selects RX1 yX1_replaceView yX1_replaceView, Cond.code yX1_replaceView cX1_replaceView 4 none, Cond.fieldLink RX1 21 "GossipMembership$Knowledge" "deadlines" "[I", Cond.fieldLink RX1 34 "GossipMembership$Knowledge" "presentRound" "I", Cond.fieldLink RX1 27 "GossipMembership$Knowledge" "patience" "I", Cond.methodLink RX1 55 yX1_endQuiet, Cond.instanceMethod yX1_endQuiet, Cond.selects RX1 yX1_endQuiet yX1_endQuiet, Cond.code yX1_endQuiet cX1_endQuiet 1 none, Cond.fieldLink RX1 37 "GossipMembership$Knowledge" "lastUnquietRound" "I", Cond.methodLink RX3 111 yX1_mostUrgent, Cond.instanceMethod yX1_mostUrgent, Cond.selects RX1 yX1_mostUrgent yX1_mostUrgent, Cond.code yX1_mostUrgent cX1_mostUrgent 7 (some .int)]
def wsX3_send : List Cond := .code yX3_send cX3_send 8 none :: ((wsX3_send_r1 ++ wsX3_send_r2) ++ wsX30 ++ wsX10 ++ (vx_atM "java/lang/ArrayIndexOutOfBoundsException" ["java/lang/IndexOutOfBoundsException", "java/lang/RuntimeException", "java/lang/Exception"]).filter goodWord)
def wsX3_helpersReach_r1 : List Cond := [Cond.fieldLink RX3 21 "GossipMembership$World" "knowledge" "LGossipMembership$Knowledge;", Cond.fieldLink RX3 25 "GossipMembership$World" "helpers" "I", Cond.fieldLink RX3 12 "GossipMembership$World" "network" "LGossipMembership$Network;", Cond.methodLink RX3 75 yX1_nodesInState, Cond.instanceMethod yX1_nodesInState, Cond.selects RX1 yX1_nodesInState yX1_nodesInState, Cond.initialized RX1, Cond.code yX1_nodesInState cX1_nodesInState 5 (some .int), Cond.fieldLink RX1 15 "GossipMembership$Knowledge" "state" "[I", Cond.static yX4_pair, Cond.initialized RX4, Cond.code yX4_pair cX4_pair 2 (some .int), Cond.methodLink RX3 78 yX3_drawFrom, Cond.instanceMethod yX3_drawFrom, Cond.selects RX3 yX3_drawFrom yX3_drawFrom, Cond.initialized RX3, Cond.code yX3_drawFrom cX3_drawFrom 5 (some .int), Cond.fieldLink RX3 29 "GossipMembership$World" "drawSeed" "I", Cond.constantLong RX3 105 (1103515245), Cond.constantLong RX3 107 (12345), Cond.constantLong RX3 109 (2147483648), Cond.methodLink RX3 100 yJ6_bitCount_0f7a4, Cond.static yJ6_bitCount_0f7a4, Cond.initialized RJ6]
def wsX3_helpersReach_r2 : List Cond := [Cond.code yJ6_bitCount_0f7a4 cJ6_bitCount_0f7a4 1 (some .int), Cond.constant RJ6 265 (1431655765), Cond.constant RJ6 266 (858993459), Cond.constant RJ6 267 (252645135), Cond.methodLink RX3 47 yX2_connects, Cond.instanceMethod yX2_connects, Cond.selects RX2 yX2_connects yX2_connects, Cond.initialized RX2, Cond.code yX2_connects cX2_connects 3 (some .boolean), Cond.fieldLink RX2 9 "GossipMembership$Network" "up" "[Z", Cond.methodLink RX2 25 yX2_wouldConnect, Cond.instanceMethod yX2_wouldConnect, Cond.selects RX2 yX2_wouldConnect yX2_wouldConnect, Cond.code yX2_wouldConnect cX2_wouldConnect 3 (some .boolean), Cond.fieldLink RX2 18 "GossipMembership$Network" "place" "[I", Cond.fieldLink RX2 22 "GossipMembership$Network" "cutLinks" "[Z"]
def wsX3_helpersReach : List Cond := .code yX3_helpersReach cX3_helpersReach 7 (some .boolean) :: ((wsX3_helpersReach_r1 ++ wsX3_helpersReach_r2) ++ wsX30 ++ wsX10 ++ wsX20 ++ (vx_atM "java/lang/ArrayIndexOutOfBoundsException" ["java/lang/IndexOutOfBoundsException", "java/lang/RuntimeException", "java/lang/Exception"]).filter goodWord ++ (vx_atM "java/lang/ArithmeticException" ["java/lang/RuntimeException", "java/lang/Exception"]).filter goodWord)
def wsX3_takeTurn_r1 : List Cond := [Cond.fieldLink RX3 21 "GossipMembership$World" "knowledge" "LGossipMembership$Knowledge;", Cond.fieldLink RX3 12 "GossipMembership$World" "network" "LGossipMembership$Network;", Cond.methodLink RX3 72 yX3_declareOverdue, Cond.instanceMethod yX3_declareOverdue, Cond.selects RX3 yX3_declareOverdue yX3_declareOverdue, Cond.initialized RX3, Cond.code yX3_declareOverdue cX3_declareOverdue 4 none, Cond.fieldLink RX3 88 "GossipMembership$Knowledge" "deadlines" "[I", Cond.fieldLink RX3 66 "GossipMembership$Knowledge" "presentRound" "I", Cond.fieldLink RX3 94 "GossipMembership$World" "declared" "I", Cond.fieldLink RX3 97 "GossipMembership$World" "declaredFalsely" "I", Cond.methodLink RX3 75 yX1_nodesInState, Cond.instanceMethod yX1_nodesInState, Cond.selects RX1 yX1_nodesInState yX1_nodesInState, Cond.initialized RX1, Cond.code yX1_nodesInState cX1_nodesInState 5 (some .int), Cond.fieldLink RX1 15 "GossipMembership$Knowledge" "state" "[I", Cond.static yX4_pair, Cond.initialized RX4, Cond.code yX4_pair cX4_pair 2 (some .int), Cond.methodLink RX3 59 yX1_toldIncarnation, Cond.instanceMethod yX1_toldIncarnation, Cond.selects RX1 yX1_toldIncarnation yX1_toldIncarnation, Cond.code yX1_toldIncarnation cX1_toldIncarnation 3 (some .int)]
def wsX3_takeTurn_r2 : List Cond := [Cond.fieldLink RX1 9 "GossipMembership$Knowledge" "ownIncarnation" "[I", Cond.fieldLink RX1 18 "GossipMembership$Knowledge" "incarnations" "[I", Cond.methodLink RX3 62 yX1_takeIn, Cond.instanceMethod yX1_takeIn, Cond.selects RX1 yX1_takeIn yX1_takeIn, Cond.code yX1_takeIn cX1_takeIn 6 (some .boolean), Cond.fieldLink RX1 44 "GossipMembership$Knowledge" "refuted" "I", Cond.fieldLink RX1 24 "GossipMembership$Knowledge" "counters" "[I", Cond.fieldLink RX1 31 "GossipMembership$Knowledge" "fanOut" "I", Cond.methodLink RX1 47 yX1_outweighs, Cond.instanceMethod yX1_outweighs, Cond.selects RX1 yX1_outweighs yX1_outweighs, Cond.code yX1_outweighs cX1_outweighs 4 (some .boolean), Cond.methodLink RX1 51 yX1_replaceView, Cond.instanceMethod yX1_replaceView, Cond.selects RX1 yX1_replaceView yX1_replaceView, Cond.code yX1_replaceView cX1_replaceView 4 none, Cond.fieldLink RX1 21 "GossipMembership$Knowledge" "deadlines" "[I", Cond.fieldLink RX1 34 "GossipMembership$Knowledge" "presentRound" "I", Cond.fieldLink RX1 27 "GossipMembership$Knowledge" "patience" "I", Cond.methodLink RX1 55 yX1_endQuiet, Cond.instanceMethod yX1_endQuiet, Cond.selects RX1 yX1_endQuiet yX1_endQuiet, Cond.code yX1_endQuiet cX1_endQuiet 1 none]
def wsX3_takeTurn_r3 : List Cond := [Cond.fieldLink RX1 37 "GossipMembership$Knowledge" "lastUnquietRound" "I", Cond.methodLink RX3 47 yX2_connects, Cond.instanceMethod yX2_connects, Cond.selects RX2 yX2_connects yX2_connects, Cond.initialized RX2, Cond.code yX2_connects cX2_connects 3 (some .boolean), Cond.fieldLink RX2 9 "GossipMembership$Network" "up" "[Z", Cond.methodLink RX2 25 yX2_wouldConnect, Cond.instanceMethod yX2_wouldConnect, Cond.selects RX2 yX2_wouldConnect yX2_wouldConnect, Cond.code yX2_wouldConnect cX2_wouldConnect 3 (some .boolean), Cond.fieldLink RX2 18 "GossipMembership$Network" "place" "[I", Cond.fieldLink RX2 22 "GossipMembership$Network" "cutLinks" "[Z", Cond.methodLink RX3 78 yX3_drawFrom, Cond.instanceMethod yX3_drawFrom, Cond.selects RX3 yX3_drawFrom yX3_drawFrom, Cond.code yX3_drawFrom cX3_drawFrom 5 (some .int), Cond.fieldLink RX3 29 "GossipMembership$World" "drawSeed" "I", Cond.constantLong RX3 105 (1103515245), Cond.constantLong RX3 107 (12345), Cond.constantLong RX3 109 (2147483648), Cond.methodLink RX3 100 yJ6_bitCount_0f7a4, Cond.static yJ6_bitCount_0f7a4, Cond.initialized RJ6]
def wsX3_takeTurn_r4 : List Cond := [Cond.code yJ6_bitCount_0f7a4 cJ6_bitCount_0f7a4 1 (some .int), Cond.constant RJ6 265 (1431655765), Cond.constant RJ6 266 (858993459), Cond.constant RJ6 267 (252645135), Cond.methodLink RX3 82 yX3_send, Cond.instanceMethod yX3_send, Cond.selects RX3 yX3_send yX3_send, Cond.code yX3_send cX3_send 8 none, Cond.fieldLink RX3 114 "GossipMembership$Knowledge" "counters" "[I", Cond.fieldLink RX3 117 "GossipMembership$World" "messagesSent" "I", Cond.methodLink RX3 55 yX1_toldState, Cond.instanceMethod yX1_toldState, Cond.selects RX1 yX1_toldState yX1_toldState, Cond.code yX1_toldState cX1_toldState 3 (some .int), Cond.methodLink RX3 111 yX1_mostUrgent, Cond.instanceMethod yX1_mostUrgent, Cond.selects RX1 yX1_mostUrgent yX1_mostUrgent, Cond.code yX1_mostUrgent cX1_mostUrgent 7 (some .int), Cond.methodLink RX3 85 yX3_helpersReach, Cond.instanceMethod yX3_helpersReach, Cond.selects RX3 yX3_helpersReach yX3_helpersReach, Cond.code yX3_helpersReach cX3_helpersReach 7 (some .boolean), Cond.fieldLink RX3 25 "GossipMembership$World" "helpers" "I"]
def wsX3_takeTurn : List Cond := .code yX3_takeTurn cX3_takeTurn 3 none :: ((wsX3_takeTurn_r1 ++ (wsX3_takeTurn_r2 ++ (wsX3_takeTurn_r3 ++ wsX3_takeTurn_r4))) ++ wsX30 ++ wsX10 ++ wsX20 ++ (vx_atM "java/lang/ArrayIndexOutOfBoundsException" ["java/lang/IndexOutOfBoundsException", "java/lang/RuntimeException", "java/lang/Exception"]).filter goodWord ++ (vx_atM "java/lang/ArithmeticException" ["java/lang/RuntimeException", "java/lang/Exception"]).filter goodWord)
def wsX3_play_r1 : List Cond := [Cond.fieldLink RX3 21 "GossipMembership$World" "knowledge" "LGossipMembership$Knowledge;", Cond.fieldLink RX3 66 "GossipMembership$Knowledge" "presentRound" "I", Cond.fieldLink RX3 12 "GossipMembership$World" "network" "LGossipMembership$Network;", Cond.fieldLink RX3 32 "GossipMembership$Network" "up" "[Z", Cond.methodLink RX3 69 yX3_takeTurn, Cond.instanceMethod yX3_takeTurn, Cond.selects RX3 yX3_takeTurn yX3_takeTurn, Cond.initialized RX3, Cond.code yX3_takeTurn cX3_takeTurn 3 none, Cond.methodLink RX3 72 yX3_declareOverdue, Cond.instanceMethod yX3_declareOverdue, Cond.selects RX3 yX3_declareOverdue yX3_declareOverdue, Cond.code yX3_declareOverdue cX3_declareOverdue 4 none, Cond.fieldLink RX3 88 "GossipMembership$Knowledge" "deadlines" "[I", Cond.fieldLink RX3 94 "GossipMembership$World" "declared" "I", Cond.fieldLink RX3 97 "GossipMembership$World" "declaredFalsely" "I", Cond.methodLink RX3 75 yX1_nodesInState, Cond.instanceMethod yX1_nodesInState, Cond.selects RX1 yX1_nodesInState yX1_nodesInState, Cond.initialized RX1, Cond.code yX1_nodesInState cX1_nodesInState 5 (some .int), Cond.fieldLink RX1 15 "GossipMembership$Knowledge" "state" "[I", Cond.static yX4_pair, Cond.initialized RX4]
def wsX3_play_r2 : List Cond := [Cond.code yX4_pair cX4_pair 2 (some .int), Cond.methodLink RX3 59 yX1_toldIncarnation, Cond.instanceMethod yX1_toldIncarnation, Cond.selects RX1 yX1_toldIncarnation yX1_toldIncarnation, Cond.code yX1_toldIncarnation cX1_toldIncarnation 3 (some .int), Cond.fieldLink RX1 9 "GossipMembership$Knowledge" "ownIncarnation" "[I", Cond.fieldLink RX1 18 "GossipMembership$Knowledge" "incarnations" "[I", Cond.methodLink RX3 62 yX1_takeIn, Cond.instanceMethod yX1_takeIn, Cond.selects RX1 yX1_takeIn yX1_takeIn, Cond.code yX1_takeIn cX1_takeIn 6 (some .boolean), Cond.fieldLink RX1 44 "GossipMembership$Knowledge" "refuted" "I", Cond.fieldLink RX1 24 "GossipMembership$Knowledge" "counters" "[I", Cond.fieldLink RX1 31 "GossipMembership$Knowledge" "fanOut" "I", Cond.methodLink RX1 47 yX1_outweighs, Cond.instanceMethod yX1_outweighs, Cond.selects RX1 yX1_outweighs yX1_outweighs, Cond.code yX1_outweighs cX1_outweighs 4 (some .boolean), Cond.methodLink RX1 51 yX1_replaceView, Cond.instanceMethod yX1_replaceView, Cond.selects RX1 yX1_replaceView yX1_replaceView, Cond.code yX1_replaceView cX1_replaceView 4 none, Cond.fieldLink RX1 21 "GossipMembership$Knowledge" "deadlines" "[I", Cond.fieldLink RX1 34 "GossipMembership$Knowledge" "presentRound" "I"]
def wsX3_play_r3 : List Cond := [Cond.fieldLink RX1 27 "GossipMembership$Knowledge" "patience" "I", Cond.methodLink RX1 55 yX1_endQuiet, Cond.instanceMethod yX1_endQuiet, Cond.selects RX1 yX1_endQuiet yX1_endQuiet, Cond.code yX1_endQuiet cX1_endQuiet 1 none, Cond.fieldLink RX1 37 "GossipMembership$Knowledge" "lastUnquietRound" "I", Cond.methodLink RX3 47 yX2_connects, Cond.instanceMethod yX2_connects, Cond.selects RX2 yX2_connects yX2_connects, Cond.initialized RX2, Cond.code yX2_connects cX2_connects 3 (some .boolean), Cond.fieldLink RX2 9 "GossipMembership$Network" "up" "[Z", Cond.methodLink RX2 25 yX2_wouldConnect, Cond.instanceMethod yX2_wouldConnect, Cond.selects RX2 yX2_wouldConnect yX2_wouldConnect, Cond.code yX2_wouldConnect cX2_wouldConnect 3 (some .boolean), Cond.fieldLink RX2 18 "GossipMembership$Network" "place" "[I", Cond.fieldLink RX2 22 "GossipMembership$Network" "cutLinks" "[Z", Cond.methodLink RX3 78 yX3_drawFrom, Cond.instanceMethod yX3_drawFrom, Cond.selects RX3 yX3_drawFrom yX3_drawFrom, Cond.code yX3_drawFrom cX3_drawFrom 5 (some .int), Cond.fieldLink RX3 29 "GossipMembership$World" "drawSeed" "I", Cond.constantLong RX3 105 (1103515245)]
def wsX3_play_r4 : List Cond := [Cond.constantLong RX3 107 (12345), Cond.constantLong RX3 109 (2147483648), Cond.methodLink RX3 100 yJ6_bitCount_0f7a4, Cond.static yJ6_bitCount_0f7a4, Cond.initialized RJ6, Cond.code yJ6_bitCount_0f7a4 cJ6_bitCount_0f7a4 1 (some .int), Cond.constant RJ6 265 (1431655765), Cond.constant RJ6 266 (858993459), Cond.constant RJ6 267 (252645135), Cond.methodLink RX3 82 yX3_send, Cond.instanceMethod yX3_send, Cond.selects RX3 yX3_send yX3_send, Cond.code yX3_send cX3_send 8 none, Cond.fieldLink RX3 114 "GossipMembership$Knowledge" "counters" "[I", Cond.fieldLink RX3 117 "GossipMembership$World" "messagesSent" "I", Cond.methodLink RX3 55 yX1_toldState, Cond.instanceMethod yX1_toldState, Cond.selects RX1 yX1_toldState yX1_toldState, Cond.code yX1_toldState cX1_toldState 3 (some .int), Cond.methodLink RX3 111 yX1_mostUrgent, Cond.instanceMethod yX1_mostUrgent, Cond.selects RX1 yX1_mostUrgent yX1_mostUrgent, Cond.code yX1_mostUrgent cX1_mostUrgent 7 (some .int), Cond.methodLink RX3 85 yX3_helpersReach]
def wsX3_play_r5 : List Cond := [Cond.instanceMethod yX3_helpersReach, Cond.selects RX3 yX3_helpersReach yX3_helpersReach, Cond.code yX3_helpersReach cX3_helpersReach 7 (some .boolean), Cond.fieldLink RX3 25 "GossipMembership$World" "helpers" "I"]
def wsX3_play : List Cond := .code yX3_play cX3_play 4 none :: ((wsX3_play_r1 ++ (wsX3_play_r2 ++ (wsX3_play_r3 ++ (wsX3_play_r4 ++ wsX3_play_r5)))) ++ wsX30 ++ wsX10 ++ wsX20 ++ (vx_atM "java/lang/ArrayIndexOutOfBoundsException" ["java/lang/IndexOutOfBoundsException", "java/lang/RuntimeException", "java/lang/Exception"]).filter goodWord ++ (vx_atM "java/lang/ArithmeticException" ["java/lang/RuntimeException", "java/lang/Exception"]).filter goodWord)
def wsX3_twoAgree : List Cond := .code yX3_twoAgree cX3_twoAgree 3 (some .boolean) :: ([.fieldLink RX3 21 "GossipMembership$World" "knowledge" "LGossipMembership$Knowledge;", .methodLink RX3 123 yX1_isUpToDate, .instanceMethod yX1_isUpToDate, .selects RX1 yX1_isUpToDate yX1_isUpToDate, .initialized RX1, .code yX1_isUpToDate cX1_isUpToDate 3 (some .boolean), .fieldLink RX1 15 "GossipMembership$Knowledge" "state" "[I", .fieldLink RX1 18 "GossipMembership$Knowledge" "incarnations" "[I", .fieldLink RX1 9 "GossipMembership$Knowledge" "ownIncarnation" "[I", .static yX4_pair, .initialized RX4, .code yX4_pair cX4_pair 2 (some .int), .methodLink RX3 126 yX1_countDifferences, .instanceMethod yX1_countDifferences, .selects RX1 yX1_countDifferences yX1_countDifferences, .code yX1_countDifferences cX1_countDifferences 5 (some .int), .methodLink RX1 58 yX1_differ, .instanceMethod yX1_differ, .selects RX1 yX1_differ yX1_differ, .code yX1_differ cX1_differ 3 (some .boolean)] ++ wsX30 ++ wsX10 ++ (vx_atM "java/lang/ArrayIndexOutOfBoundsException" ["java/lang/IndexOutOfBoundsException", "java/lang/RuntimeException", "java/lang/Exception"]).filter goodWord)
def wsX3_allAgree_r1 : List Cond := [Cond.fieldLink RX3 12 "GossipMembership$World" "network" "LGossipMembership$Network;", Cond.methodLink RX3 47 yX2_connects, Cond.instanceMethod yX2_connects, Cond.selects RX2 yX2_connects yX2_connects, Cond.initialized RX2, Cond.code yX2_connects cX2_connects 3 (some .boolean), Cond.fieldLink RX2 9 "GossipMembership$Network" "up" "[Z", Cond.methodLink RX2 25 yX2_wouldConnect, Cond.instanceMethod yX2_wouldConnect, Cond.selects RX2 yX2_wouldConnect yX2_wouldConnect, Cond.code yX2_wouldConnect cX2_wouldConnect 3 (some .boolean), Cond.fieldLink RX2 18 "GossipMembership$Network" "place" "[I", Cond.fieldLink RX2 22 "GossipMembership$Network" "cutLinks" "[Z", Cond.static yX4_pair, Cond.initialized RX4, Cond.code yX4_pair cX4_pair 2 (some .int), Cond.methodLink RX3 120 yX3_twoAgree, Cond.instanceMethod yX3_twoAgree, Cond.selects RX3 yX3_twoAgree yX3_twoAgree, Cond.initialized RX3, Cond.code yX3_twoAgree cX3_twoAgree 3 (some .boolean), Cond.fieldLink RX3 21 "GossipMembership$World" "knowledge" "LGossipMembership$Knowledge;", Cond.methodLink RX3 123 yX1_isUpToDate, Cond.instanceMethod yX1_isUpToDate]
def wsX3_allAgree_r2 : List Cond := [Cond.selects RX1 yX1_isUpToDate yX1_isUpToDate, Cond.initialized RX1, Cond.code yX1_isUpToDate cX1_isUpToDate 3 (some .boolean), Cond.fieldLink RX1 15 "GossipMembership$Knowledge" "state" "[I", Cond.fieldLink RX1 18 "GossipMembership$Knowledge" "incarnations" "[I", Cond.fieldLink RX1 9 "GossipMembership$Knowledge" "ownIncarnation" "[I", Cond.methodLink RX3 126 yX1_countDifferences, Cond.instanceMethod yX1_countDifferences, Cond.selects RX1 yX1_countDifferences yX1_countDifferences, Cond.code yX1_countDifferences cX1_countDifferences 5 (some .int), Cond.methodLink RX1 58 yX1_differ, Cond.instanceMethod yX1_differ, Cond.selects RX1 yX1_differ yX1_differ, Cond.code yX1_differ cX1_differ 3 (some .boolean)]
def wsX3_allAgree : List Cond := .code yX3_allAgree cX3_allAgree 3 (some .boolean) :: ((wsX3_allAgree_r1 ++ wsX3_allAgree_r2) ++ wsX30 ++ wsX20 ++ wsX10 ++ (vx_atM "java/lang/ArrayIndexOutOfBoundsException" ["java/lang/IndexOutOfBoundsException", "java/lang/RuntimeException", "java/lang/Exception"]).filter goodWord)
def wsX3_countDisagreements_r1 : List Cond := [Cond.fieldLink RX3 12 "GossipMembership$World" "network" "LGossipMembership$Network;", Cond.fieldLink RX3 21 "GossipMembership$World" "knowledge" "LGossipMembership$Knowledge;", Cond.methodLink RX3 47 yX2_connects, Cond.instanceMethod yX2_connects, Cond.selects RX2 yX2_connects yX2_connects, Cond.initialized RX2, Cond.code yX2_connects cX2_connects 3 (some .boolean), Cond.fieldLink RX2 9 "GossipMembership$Network" "up" "[Z", Cond.methodLink RX2 25 yX2_wouldConnect, Cond.instanceMethod yX2_wouldConnect, Cond.selects RX2 yX2_wouldConnect yX2_wouldConnect, Cond.code yX2_wouldConnect cX2_wouldConnect 3 (some .boolean), Cond.fieldLink RX2 18 "GossipMembership$Network" "place" "[I", Cond.fieldLink RX2 22 "GossipMembership$Network" "cutLinks" "[Z", Cond.static yX4_pair, Cond.initialized RX4, Cond.code yX4_pair cX4_pair 2 (some .int), Cond.methodLink RX3 126 yX1_countDifferences, Cond.instanceMethod yX1_countDifferences, Cond.selects RX1 yX1_countDifferences yX1_countDifferences, Cond.initialized RX1, Cond.code yX1_countDifferences cX1_countDifferences 5 (some .int), Cond.methodLink RX1 58 yX1_differ, Cond.instanceMethod yX1_differ]
def wsX3_countDisagreements_r2 : List Cond := [Cond.selects RX1 yX1_differ yX1_differ, Cond.code yX1_differ cX1_differ 3 (some .boolean), Cond.fieldLink RX1 15 "GossipMembership$Knowledge" "state" "[I", Cond.fieldLink RX1 18 "GossipMembership$Knowledge" "incarnations" "[I"]
def wsX3_countDisagreements : List Cond := .code yX3_countDisagreements cX3_countDisagreements 4 (some .int) :: ((wsX3_countDisagreements_r1 ++ wsX3_countDisagreements_r2) ++ wsX30 ++ wsX20 ++ wsX10 ++ (vx_atM "java/lang/ArrayIndexOutOfBoundsException" ["java/lang/IndexOutOfBoundsException", "java/lang/RuntimeException", "java/lang/Exception"]).filter goodWord)
def wsX3_copyFrom_r1 : List Cond := [Cond.fieldLink RX3 12 "GossipMembership$World" "network" "LGossipMembership$Network;", Cond.fieldLink RX3 21 "GossipMembership$World" "knowledge" "LGossipMembership$Knowledge;", Cond.fieldLink RX3 25 "GossipMembership$World" "helpers" "I", Cond.fieldLink RX3 29 "GossipMembership$World" "drawSeed" "I", Cond.fieldLink RX3 94 "GossipMembership$World" "declared" "I", Cond.fieldLink RX3 97 "GossipMembership$World" "declaredFalsely" "I", Cond.fieldLink RX3 117 "GossipMembership$World" "messagesSent" "I", Cond.methodLink RX3 129 yX2_copyFrom, Cond.instanceMethod yX2_copyFrom, Cond.selects RX2 yX2_copyFrom yX2_copyFrom, Cond.initialized RX2, Cond.code yX2_copyFrom cX2_copyFrom 3 none, Cond.fieldLink RX2 9 "GossipMembership$Network" "up" "[Z", Cond.fieldLink RX2 15 "GossipMembership$Network" "everUp" "[Z", Cond.fieldLink RX2 18 "GossipMembership$Network" "place" "[I", Cond.fieldLink RX2 22 "GossipMembership$Network" "cutLinks" "[Z", Cond.methodLink RX3 133 yX1_copyFrom, Cond.instanceMethod yX1_copyFrom, Cond.selects RX1 yX1_copyFrom yX1_copyFrom, Cond.initialized RX1, Cond.code yX1_copyFrom cX1_copyFrom 2 none, Cond.fieldLink RX1 9 "GossipMembership$Knowledge" "ownIncarnation" "[I", Cond.methodLink RX1 62 arraycopyName, Cond.native arraycopyName]
def wsX3_copyFrom_r2 : List Cond := [Cond.static arraycopyName, Cond.initialized "java/lang/System", Cond.fieldLink RX1 15 "GossipMembership$Knowledge" "state" "[I", Cond.fieldLink RX1 18 "GossipMembership$Knowledge" "incarnations" "[I", Cond.fieldLink RX1 21 "GossipMembership$Knowledge" "deadlines" "[I", Cond.fieldLink RX1 24 "GossipMembership$Knowledge" "counters" "[I", Cond.fieldLink RX1 27 "GossipMembership$Knowledge" "patience" "I", Cond.fieldLink RX1 31 "GossipMembership$Knowledge" "fanOut" "I", Cond.fieldLink RX1 34 "GossipMembership$Knowledge" "presentRound" "I", Cond.fieldLink RX1 37 "GossipMembership$Knowledge" "lastUnquietRound" "I", Cond.fieldLink RX1 44 "GossipMembership$Knowledge" "refuted" "I"]
def wsX3_copyFrom : List Cond := .code yX3_copyFrom cX3_copyFrom 2 none :: ((wsX3_copyFrom_r1 ++ wsX3_copyFrom_r2) ++ wsX30 ++ wsX20 ++ wsX10 ++ (vx_atM "java/lang/ArrayIndexOutOfBoundsException" ["java/lang/IndexOutOfBoundsException", "java/lang/RuntimeException", "java/lang/Exception"]).filter goodWord)
def wsX4_init_r1 : List Cond := [Cond.methodLink RX4 1 objectInit, Cond.instanceMethod objectInit, Cond.code objectInit ⟨#[0xb1]⟩ 1 none, Cond.classLink RX4 7 RX3, Cond.instantiable RX3 7, Cond.initialized RX3, Cond.fieldLink RX4 10 "GossipMembership" "world" "LGossipMembership$World;", Cond.fieldLink RX4 16 "GossipMembership" "savedWorld" "LGossipMembership$World;", Cond.classLink RX4 19 RX0, Cond.instantiable RX0 2, Cond.initialized RX0, Cond.fieldLink RX4 22 "GossipMembership" "text" "LGossipMembership$CommandText;", Cond.fieldLink RX4 26 "GossipMembership" "failureKind" "I", Cond.instanceMethod yX3_init, Cond.code yX3_init cX3_init 1 none, Cond.methodLink RX3 3 objectInit, Cond.classLink RX3 9 RX2, Cond.instantiable RX2 4, Cond.initialized RX2, Cond.fieldLink RX3 12 "GossipMembership$World" "network" "LGossipMembership$Network;", Cond.classLink RX3 18 RX1, Cond.instantiable RX1 10, Cond.initialized RX1, Cond.fieldLink RX3 21 "GossipMembership$World" "knowledge" "LGossipMembership$Knowledge;"]
def wsX4_init_r2 : List Cond := [Cond.fieldLink RX3 25 "GossipMembership$World" "helpers" "I", Cond.fieldLink RX3 29 "GossipMembership$World" "drawSeed" "I", Cond.instanceMethod yX2_init, Cond.code yX2_init cX2_init 1 none, Cond.methodLink RX2 3 objectInit, Cond.arrayClass .boolean, Cond.fieldLink RX2 9 "GossipMembership$Network" "up" "[Z", Cond.fieldLink RX2 15 "GossipMembership$Network" "everUp" "[Z", Cond.arrayClass .int, Cond.fieldLink RX2 18 "GossipMembership$Network" "place" "[I", Cond.fieldLink RX2 22 "GossipMembership$Network" "cutLinks" "[Z", Cond.instanceMethod yX1_init, Cond.code yX1_init cX1_init 1 none, Cond.methodLink RX1 3 objectInit, Cond.fieldLink RX1 9 "GossipMembership$Knowledge" "ownIncarnation" "[I", Cond.fieldLink RX1 15 "GossipMembership$Knowledge" "state" "[I", Cond.fieldLink RX1 18 "GossipMembership$Knowledge" "incarnations" "[I", Cond.fieldLink RX1 21 "GossipMembership$Knowledge" "deadlines" "[I", Cond.fieldLink RX1 24 "GossipMembership$Knowledge" "counters" "[I", Cond.fieldLink RX1 27 "GossipMembership$Knowledge" "patience" "I", Cond.fieldLink RX1 31 "GossipMembership$Knowledge" "fanOut" "I", Cond.instanceMethod yX0_init, Cond.code yX0_init cX0_init 1 none, Cond.methodLink RX0 3 objectInit]
def wsX4_init_r3 : List Cond := [Cond.arrayClass .char, Cond.fieldLink RX0 9 "GossipMembership$CommandText" "signs" "[C"]
def wsX4_init : List Cond := .code yX4_init cX4_init 1 none :: ((wsX4_init_r1 ++ (wsX4_init_r2 ++ wsX4_init_r3)) ++ wsX30 ++ wsX40 ++ wsX00 ++ wsX20 ++ wsX10)
def wsX4_setPatience : List Cond := .code yX4_setPatience cX4_setPatience 3 (some .int) :: ([.classLink RX4 30 "java/lang/IllegalArgumentException", .initialized "java/lang/IllegalArgumentException", .fieldLink RX4 10 "GossipMembership" "world" "LGossipMembership$World;", .fieldLink RX4 37 "GossipMembership$World" "knowledge" "LGossipMembership$Knowledge;", .fieldLink RX4 41 "GossipMembership$Knowledge" "patience" "I"] ++ wsX40 ++ wsX30 ++ wsX10 ++ (vx_atS RX4 34 "java/lang/IllegalArgumentException" ["java/lang/RuntimeException", "java/lang/Exception"]).filter goodWord)
def wsX4_setFanOut : List Cond := .code yX4_setFanOut cX4_setFanOut 3 (some .int) :: ([.classLink RX4 30 "java/lang/IllegalArgumentException", .initialized "java/lang/IllegalArgumentException", .fieldLink RX4 10 "GossipMembership" "world" "LGossipMembership$World;", .fieldLink RX4 37 "GossipMembership$World" "knowledge" "LGossipMembership$Knowledge;", .fieldLink RX4 48 "GossipMembership$Knowledge" "fanOut" "I"] ++ wsX40 ++ wsX30 ++ wsX10 ++ (vx_atS RX4 34 "java/lang/IllegalArgumentException" ["java/lang/RuntimeException", "java/lang/Exception"]).filter goodWord)
def wsX4_setHelpers : List Cond := .code yX4_setHelpers cX4_setHelpers 3 (some .int) :: ([.classLink RX4 30 "java/lang/IllegalArgumentException", .initialized "java/lang/IllegalArgumentException", .fieldLink RX4 10 "GossipMembership" "world" "LGossipMembership$World;", .fieldLink RX4 53 "GossipMembership$World" "helpers" "I"] ++ wsX40 ++ wsX30 ++ (vx_atS RX4 34 "java/lang/IllegalArgumentException" ["java/lang/RuntimeException", "java/lang/Exception"]).filter goodWord)
def wsX4_setSeed : List Cond := .code yX4_setSeed cX4_setSeed 3 (some .int) :: ([.classLink RX4 30 "java/lang/IllegalArgumentException", .initialized "java/lang/IllegalArgumentException", .fieldLink RX4 10 "GossipMembership" "world" "LGossipMembership$World;", .fieldLink RX4 58 "GossipMembership$World" "drawSeed" "I"] ++ wsX40 ++ wsX30 ++ (vx_atS RX4 34 "java/lang/IllegalArgumentException" ["java/lang/RuntimeException", "java/lang/Exception"]).filter goodWord)
def wsX4_seed : List Cond := .code yX4_seed cX4_seed 1 (some .int) :: ([.fieldLink RX4 10 "GossipMembership" "world" "LGossipMembership$World;", .fieldLink RX4 58 "GossipMembership$World" "drawSeed" "I"] ++ wsX40 ++ wsX30)
def wsX4_requireNode : List Cond := .code yX4_requireNode cX4_requireNode 1 none :: ([.classLink RX4 239 "java/lang/IndexOutOfBoundsException", .initialized "java/lang/IndexOutOfBoundsException"] ++ (vx_atS RX4 243 "java/lang/IndexOutOfBoundsException" ["java/lang/RuntimeException", "java/lang/Exception"]).filter goodWord)
def wsX4_join_r1 : List Cond := [Cond.classLink RX4 75 "java/lang/IllegalStateException", Cond.initialized "java/lang/IllegalStateException", Cond.classLink RX4 30 "java/lang/IllegalArgumentException", Cond.initialized "java/lang/IllegalArgumentException", Cond.fieldLink RX4 10 "GossipMembership" "world" "LGossipMembership$World;", Cond.fieldLink RX4 65 "GossipMembership$World" "network" "LGossipMembership$Network;", Cond.fieldLink RX4 69 "GossipMembership$Network" "up" "[Z", Cond.fieldLink RX4 37 "GossipMembership$World" "knowledge" "LGossipMembership$Knowledge;", Cond.fieldLink RX4 93 "GossipMembership$Knowledge" "ownIncarnation" "[I", Cond.methodLink RX4 61 yX4_requireNode, Cond.static yX4_requireNode, Cond.initialized RX4, Cond.code yX4_requireNode cX4_requireNode 1 none, Cond.classLink RX4 239 "java/lang/IndexOutOfBoundsException", Cond.initialized "java/lang/IndexOutOfBoundsException", Cond.methodLink RX4 80 yX2_wouldConnect, Cond.instanceMethod yX2_wouldConnect, Cond.selects RX2 yX2_wouldConnect yX2_wouldConnect, Cond.initialized RX2, Cond.code yX2_wouldConnect cX2_wouldConnect 3 (some .boolean), Cond.fieldLink RX2 9 "GossipMembership$Network" "up" "[Z", Cond.fieldLink RX2 18 "GossipMembership$Network" "place" "[I", Cond.fieldLink RX2 22 "GossipMembership$Network" "cutLinks" "[Z", Cond.static yX4_pair]
def wsX4_join_r2 : List Cond := [Cond.code yX4_pair cX4_pair 2 (some .int), Cond.methodLink RX4 86 yX3_admit, Cond.instanceMethod yX3_admit, Cond.selects RX3 yX3_admit yX3_admit, Cond.initialized RX3, Cond.code yX3_admit cX3_admit 3 none, Cond.fieldLink RX3 12 "GossipMembership$World" "network" "LGossipMembership$Network;", Cond.fieldLink RX3 32 "GossipMembership$Network" "up" "[Z", Cond.fieldLink RX3 36 "GossipMembership$Network" "everUp" "[Z", Cond.fieldLink RX3 21 "GossipMembership$World" "knowledge" "LGossipMembership$Knowledge;", Cond.fieldLink RX3 39 "GossipMembership$Knowledge" "ownIncarnation" "[I", Cond.methodLink RX3 43 yX1_forgetAll, Cond.instanceMethod yX1_forgetAll, Cond.selects RX1 yX1_forgetAll yX1_forgetAll, Cond.initialized RX1, Cond.code yX1_forgetAll cX1_forgetAll 3 none, Cond.fieldLink RX1 15 "GossipMembership$Knowledge" "state" "[I", Cond.fieldLink RX1 18 "GossipMembership$Knowledge" "incarnations" "[I", Cond.fieldLink RX1 24 "GossipMembership$Knowledge" "counters" "[I", Cond.fieldLink RX1 31 "GossipMembership$Knowledge" "fanOut" "I", Cond.methodLink RX3 47 yX2_connects, Cond.instanceMethod yX2_connects, Cond.selects RX2 yX2_connects yX2_connects, Cond.code yX2_connects cX2_connects 3 (some .boolean)]
def wsX4_join_r3 : List Cond := [Cond.methodLink RX2 25 yX2_wouldConnect, Cond.methodLink RX3 51 yX3_introduce, Cond.instanceMethod yX3_introduce, Cond.selects RX3 yX3_introduce yX3_introduce, Cond.code yX3_introduce cX3_introduce 5 none, Cond.methodLink RX3 55 yX1_toldState, Cond.instanceMethod yX1_toldState, Cond.selects RX1 yX1_toldState yX1_toldState, Cond.code yX1_toldState cX1_toldState 3 (some .int), Cond.methodLink RX3 59 yX1_toldIncarnation, Cond.instanceMethod yX1_toldIncarnation, Cond.selects RX1 yX1_toldIncarnation yX1_toldIncarnation, Cond.code yX1_toldIncarnation cX1_toldIncarnation 3 (some .int), Cond.fieldLink RX1 9 "GossipMembership$Knowledge" "ownIncarnation" "[I", Cond.methodLink RX3 62 yX1_takeIn, Cond.instanceMethod yX1_takeIn, Cond.selects RX1 yX1_takeIn yX1_takeIn, Cond.code yX1_takeIn cX1_takeIn 6 (some .boolean), Cond.fieldLink RX1 44 "GossipMembership$Knowledge" "refuted" "I", Cond.methodLink RX1 47 yX1_outweighs, Cond.instanceMethod yX1_outweighs, Cond.selects RX1 yX1_outweighs yX1_outweighs, Cond.code yX1_outweighs cX1_outweighs 4 (some .boolean), Cond.methodLink RX1 51 yX1_replaceView]
def wsX4_join_r4 : List Cond := [Cond.instanceMethod yX1_replaceView, Cond.selects RX1 yX1_replaceView yX1_replaceView, Cond.code yX1_replaceView cX1_replaceView 4 none, Cond.fieldLink RX1 21 "GossipMembership$Knowledge" "deadlines" "[I", Cond.fieldLink RX1 34 "GossipMembership$Knowledge" "presentRound" "I", Cond.fieldLink RX1 27 "GossipMembership$Knowledge" "patience" "I", Cond.methodLink RX1 55 yX1_endQuiet, Cond.instanceMethod yX1_endQuiet, Cond.selects RX1 yX1_endQuiet yX1_endQuiet, Cond.code yX1_endQuiet cX1_endQuiet 1 none, Cond.fieldLink RX1 37 "GossipMembership$Knowledge" "lastUnquietRound" "I", Cond.methodLink RX4 90 yX1_endQuiet]
def wsX4_join : List Cond := .code yX4_join cX4_join 3 (some .int) :: ((wsX4_join_r1 ++ (wsX4_join_r2 ++ (wsX4_join_r3 ++ wsX4_join_r4))) ++ wsX40 ++ wsX30 ++ wsX20 ++ wsX10 ++ (vx_atM "java/lang/ArrayIndexOutOfBoundsException" ["java/lang/IndexOutOfBoundsException", "java/lang/RuntimeException", "java/lang/Exception"]).filter goodWord ++ (vx_atS RX4 79 "java/lang/IllegalStateException" ["java/lang/RuntimeException", "java/lang/Exception"]).filter goodWord ++ (vx_atS RX4 34 "java/lang/IllegalArgumentException" ["java/lang/RuntimeException", "java/lang/Exception"]).filter goodWord ++ (vx_atS RX4 243 "java/lang/IndexOutOfBoundsException" ["java/lang/RuntimeException", "java/lang/Exception"]).filter goodWord)
def wsX4_crash_r1 : List Cond := [Cond.classLink RX4 75 "java/lang/IllegalStateException", Cond.initialized "java/lang/IllegalStateException", Cond.fieldLink RX4 10 "GossipMembership" "world" "LGossipMembership$World;", Cond.fieldLink RX4 65 "GossipMembership$World" "network" "LGossipMembership$Network;", Cond.fieldLink RX4 69 "GossipMembership$Network" "up" "[Z", Cond.fieldLink RX4 37 "GossipMembership$World" "knowledge" "LGossipMembership$Knowledge;", Cond.methodLink RX4 61 yX4_requireNode, Cond.static yX4_requireNode, Cond.initialized RX4, Cond.code yX4_requireNode cX4_requireNode 1 none, Cond.classLink RX4 239 "java/lang/IndexOutOfBoundsException", Cond.initialized "java/lang/IndexOutOfBoundsException", Cond.methodLink RX4 90 yX1_endQuiet, Cond.instanceMethod yX1_endQuiet, Cond.selects RX1 yX1_endQuiet yX1_endQuiet, Cond.initialized RX1, Cond.code yX1_endQuiet cX1_endQuiet 1 none, Cond.fieldLink RX1 34 "GossipMembership$Knowledge" "presentRound" "I", Cond.fieldLink RX1 37 "GossipMembership$Knowledge" "lastUnquietRound" "I", Cond.methodLink RX4 99 yX2_countUp, Cond.instanceMethod yX2_countUp, Cond.selects RX2 yX2_countUp yX2_countUp, Cond.initialized RX2, Cond.code yX2_countUp cX2_countUp 3 (some .int)]
def wsX4_crash_r2 : List Cond := [Cond.fieldLink RX2 9 "GossipMembership$Network" "up" "[Z"]
def wsX4_crash : List Cond := .code yX4_crash cX4_crash 2 (some .int) :: ((wsX4_crash_r1 ++ wsX4_crash_r2) ++ wsX40 ++ wsX30 ++ wsX20 ++ wsX10 ++ (vx_atM "java/lang/ArrayIndexOutOfBoundsException" ["java/lang/IndexOutOfBoundsException", "java/lang/RuntimeException", "java/lang/Exception"]).filter goodWord ++ (vx_atS RX4 79 "java/lang/IllegalStateException" ["java/lang/RuntimeException", "java/lang/Exception"]).filter goodWord ++ (vx_atS RX4 243 "java/lang/IndexOutOfBoundsException" ["java/lang/RuntimeException", "java/lang/Exception"]).filter goodWord)
def wsX4_move : List Cond := .code yX4_move cX4_move 4 (some .int) :: ([.classLink RX4 30 "java/lang/IllegalArgumentException", .initialized "java/lang/IllegalArgumentException", .fieldLink RX4 10 "GossipMembership" "world" "LGossipMembership$World;", .fieldLink RX4 65 "GossipMembership$World" "network" "LGossipMembership$Network;", .fieldLink RX4 105 "GossipMembership$Network" "place" "[I", .fieldLink RX4 37 "GossipMembership$World" "knowledge" "LGossipMembership$Knowledge;", .methodLink RX4 61 yX4_requireNode, .static yX4_requireNode, .initialized RX4, .code yX4_requireNode cX4_requireNode 1 none, .classLink RX4 239 "java/lang/IndexOutOfBoundsException", .initialized "java/lang/IndexOutOfBoundsException", .methodLink RX4 90 yX1_endQuiet, .instanceMethod yX1_endQuiet, .selects RX1 yX1_endQuiet yX1_endQuiet, .initialized RX1, .code yX1_endQuiet cX1_endQuiet 1 none, .fieldLink RX1 34 "GossipMembership$Knowledge" "presentRound" "I", .fieldLink RX1 37 "GossipMembership$Knowledge" "lastUnquietRound" "I"] ++ wsX40 ++ wsX30 ++ wsX20 ++ wsX10 ++ (vx_atS RX4 34 "java/lang/IllegalArgumentException" ["java/lang/RuntimeException", "java/lang/Exception"]).filter goodWord ++ (vx_atM "java/lang/ArrayIndexOutOfBoundsException" ["java/lang/IndexOutOfBoundsException", "java/lang/RuntimeException", "java/lang/Exception"]).filter goodWord ++ (vx_atS RX4 243 "java/lang/IndexOutOfBoundsException" ["java/lang/RuntimeException", "java/lang/Exception"]).filter goodWord)
def wsX4_requireTwoNodes : List Cond := .code yX4_requireTwoNodes cX4_requireTwoNodes 2 none :: ([.classLink RX4 30 "java/lang/IllegalArgumentException", .initialized "java/lang/IllegalArgumentException", .methodLink RX4 61 yX4_requireNode, .static yX4_requireNode, .initialized RX4, .code yX4_requireNode cX4_requireNode 1 none, .classLink RX4 239 "java/lang/IndexOutOfBoundsException", .initialized "java/lang/IndexOutOfBoundsException"] ++ (vx_atS RX4 34 "java/lang/IllegalArgumentException" ["java/lang/RuntimeException", "java/lang/Exception"]).filter goodWord ++ (vx_atS RX4 243 "java/lang/IndexOutOfBoundsException" ["java/lang/RuntimeException", "java/lang/Exception"]).filter goodWord)
def wsX4_cut_r1 : List Cond := [Cond.fieldLink RX4 10 "GossipMembership" "world" "LGossipMembership$World;", Cond.fieldLink RX4 65 "GossipMembership$World" "network" "LGossipMembership$Network;", Cond.fieldLink RX4 111 "GossipMembership$Network" "cutLinks" "[Z", Cond.fieldLink RX4 37 "GossipMembership$World" "knowledge" "LGossipMembership$Knowledge;", Cond.methodLink RX4 108 yX4_requireTwoNodes, Cond.static yX4_requireTwoNodes, Cond.initialized RX4, Cond.code yX4_requireTwoNodes cX4_requireTwoNodes 2 none, Cond.classLink RX4 30 "java/lang/IllegalArgumentException", Cond.initialized "java/lang/IllegalArgumentException", Cond.methodLink RX4 61 yX4_requireNode, Cond.static yX4_requireNode, Cond.code yX4_requireNode cX4_requireNode 1 none, Cond.classLink RX4 239 "java/lang/IndexOutOfBoundsException", Cond.initialized "java/lang/IndexOutOfBoundsException", Cond.methodLink RX4 114 yX4_pair, Cond.static yX4_pair, Cond.code yX4_pair cX4_pair 2 (some .int), Cond.methodLink RX4 118 yX2_setCut, Cond.instanceMethod yX2_setCut, Cond.selects RX2 yX2_setCut yX2_setCut, Cond.initialized RX2, Cond.code yX2_setCut cX2_setCut 4 none, Cond.fieldLink RX2 22 "GossipMembership$Network" "cutLinks" "[Z"]
def wsX4_cut_r2 : List Cond := [Cond.methodLink RX4 90 yX1_endQuiet, Cond.instanceMethod yX1_endQuiet, Cond.selects RX1 yX1_endQuiet yX1_endQuiet, Cond.initialized RX1, Cond.code yX1_endQuiet cX1_endQuiet 1 none, Cond.fieldLink RX1 34 "GossipMembership$Knowledge" "presentRound" "I", Cond.fieldLink RX1 37 "GossipMembership$Knowledge" "lastUnquietRound" "I"]
def wsX4_cut : List Cond := .code yX4_cut cX4_cut 5 (some .boolean) :: ((wsX4_cut_r1 ++ wsX4_cut_r2) ++ wsX40 ++ wsX30 ++ wsX20 ++ wsX10 ++ (vx_atM "java/lang/ArrayIndexOutOfBoundsException" ["java/lang/IndexOutOfBoundsException", "java/lang/RuntimeException", "java/lang/Exception"]).filter goodWord ++ (vx_atS RX4 34 "java/lang/IllegalArgumentException" ["java/lang/RuntimeException", "java/lang/Exception"]).filter goodWord ++ (vx_atS RX4 243 "java/lang/IndexOutOfBoundsException" ["java/lang/RuntimeException", "java/lang/Exception"]).filter goodWord)
def wsX4_rounds_r1 : List Cond := [Cond.classLink RX4 30 "java/lang/IllegalArgumentException", Cond.initialized "java/lang/IllegalArgumentException", Cond.fieldLink RX4 10 "GossipMembership" "world" "LGossipMembership$World;", Cond.fieldLink RX4 37 "GossipMembership$World" "knowledge" "LGossipMembership$Knowledge;", Cond.fieldLink RX4 127 "GossipMembership$Knowledge" "presentRound" "I", Cond.methodLink RX4 124 yX3_play, Cond.instanceMethod yX3_play, Cond.selects RX3 yX3_play yX3_play, Cond.initialized RX3, Cond.code yX3_play cX3_play 4 none, Cond.fieldLink RX3 21 "GossipMembership$World" "knowledge" "LGossipMembership$Knowledge;", Cond.fieldLink RX3 66 "GossipMembership$Knowledge" "presentRound" "I", Cond.fieldLink RX3 12 "GossipMembership$World" "network" "LGossipMembership$Network;", Cond.fieldLink RX3 32 "GossipMembership$Network" "up" "[Z", Cond.methodLink RX3 69 yX3_takeTurn, Cond.instanceMethod yX3_takeTurn, Cond.selects RX3 yX3_takeTurn yX3_takeTurn, Cond.code yX3_takeTurn cX3_takeTurn 3 none, Cond.methodLink RX3 72 yX3_declareOverdue, Cond.instanceMethod yX3_declareOverdue, Cond.selects RX3 yX3_declareOverdue yX3_declareOverdue, Cond.code yX3_declareOverdue cX3_declareOverdue 4 none, Cond.fieldLink RX3 88 "GossipMembership$Knowledge" "deadlines" "[I", Cond.fieldLink RX3 94 "GossipMembership$World" "declared" "I"]
def wsX4_rounds_r2 : List Cond := [Cond.fieldLink RX3 97 "GossipMembership$World" "declaredFalsely" "I", Cond.methodLink RX3 75 yX1_nodesInState, Cond.instanceMethod yX1_nodesInState, Cond.selects RX1 yX1_nodesInState yX1_nodesInState, Cond.initialized RX1, Cond.code yX1_nodesInState cX1_nodesInState 5 (some .int), Cond.fieldLink RX1 15 "GossipMembership$Knowledge" "state" "[I", Cond.static yX4_pair, Cond.initialized RX4, Cond.code yX4_pair cX4_pair 2 (some .int), Cond.methodLink RX3 59 yX1_toldIncarnation, Cond.instanceMethod yX1_toldIncarnation, Cond.selects RX1 yX1_toldIncarnation yX1_toldIncarnation, Cond.code yX1_toldIncarnation cX1_toldIncarnation 3 (some .int), Cond.fieldLink RX1 9 "GossipMembership$Knowledge" "ownIncarnation" "[I", Cond.fieldLink RX1 18 "GossipMembership$Knowledge" "incarnations" "[I", Cond.methodLink RX3 62 yX1_takeIn, Cond.instanceMethod yX1_takeIn, Cond.selects RX1 yX1_takeIn yX1_takeIn, Cond.code yX1_takeIn cX1_takeIn 6 (some .boolean), Cond.fieldLink RX1 44 "GossipMembership$Knowledge" "refuted" "I", Cond.fieldLink RX1 24 "GossipMembership$Knowledge" "counters" "[I", Cond.fieldLink RX1 31 "GossipMembership$Knowledge" "fanOut" "I", Cond.methodLink RX1 47 yX1_outweighs]
def wsX4_rounds_r3 : List Cond := [Cond.instanceMethod yX1_outweighs, Cond.selects RX1 yX1_outweighs yX1_outweighs, Cond.code yX1_outweighs cX1_outweighs 4 (some .boolean), Cond.methodLink RX1 51 yX1_replaceView, Cond.instanceMethod yX1_replaceView, Cond.selects RX1 yX1_replaceView yX1_replaceView, Cond.code yX1_replaceView cX1_replaceView 4 none, Cond.fieldLink RX1 21 "GossipMembership$Knowledge" "deadlines" "[I", Cond.fieldLink RX1 34 "GossipMembership$Knowledge" "presentRound" "I", Cond.fieldLink RX1 27 "GossipMembership$Knowledge" "patience" "I", Cond.methodLink RX1 55 yX1_endQuiet, Cond.instanceMethod yX1_endQuiet, Cond.selects RX1 yX1_endQuiet yX1_endQuiet, Cond.code yX1_endQuiet cX1_endQuiet 1 none, Cond.fieldLink RX1 37 "GossipMembership$Knowledge" "lastUnquietRound" "I", Cond.methodLink RX3 47 yX2_connects, Cond.instanceMethod yX2_connects, Cond.selects RX2 yX2_connects yX2_connects, Cond.initialized RX2, Cond.code yX2_connects cX2_connects 3 (some .boolean), Cond.fieldLink RX2 9 "GossipMembership$Network" "up" "[Z", Cond.methodLink RX2 25 yX2_wouldConnect, Cond.instanceMethod yX2_wouldConnect, Cond.selects RX2 yX2_wouldConnect yX2_wouldConnect]
def wsX4_rounds_r4 : List Cond := [Cond.code yX2_wouldConnect cX2_wouldConnect 3 (some .boolean), Cond.fieldLink RX2 18 "GossipMembership$Network" "place" "[I", Cond.fieldLink RX2 22 "GossipMembership$Network" "cutLinks" "[Z", Cond.methodLink RX3 78 yX3_drawFrom, Cond.instanceMethod yX3_drawFrom, Cond.selects RX3 yX3_drawFrom yX3_drawFrom, Cond.code yX3_drawFrom cX3_drawFrom 5 (some .int), Cond.fieldLink RX3 29 "GossipMembership$World" "drawSeed" "I", Cond.constantLong RX3 105 (1103515245), Cond.constantLong RX3 107 (12345), Cond.constantLong RX3 109 (2147483648), Cond.methodLink RX3 100 yJ6_bitCount_0f7a4, Cond.static yJ6_bitCount_0f7a4, Cond.initialized RJ6, Cond.code yJ6_bitCount_0f7a4 cJ6_bitCount_0f7a4 1 (some .int), Cond.constant RJ6 265 (1431655765), Cond.constant RJ6 266 (858993459), Cond.constant RJ6 267 (252645135), Cond.methodLink RX3 82 yX3_send, Cond.instanceMethod yX3_send, Cond.selects RX3 yX3_send yX3_send, Cond.code yX3_send cX3_send 8 none, Cond.fieldLink RX3 114 "GossipMembership$Knowledge" "counters" "[I", Cond.fieldLink RX3 117 "GossipMembership$World" "messagesSent" "I"]
def wsX4_rounds_r5 : List Cond := [Cond.methodLink RX3 55 yX1_toldState, Cond.instanceMethod yX1_toldState, Cond.selects RX1 yX1_toldState yX1_toldState, Cond.code yX1_toldState cX1_toldState 3 (some .int), Cond.methodLink RX3 111 yX1_mostUrgent, Cond.instanceMethod yX1_mostUrgent, Cond.selects RX1 yX1_mostUrgent yX1_mostUrgent, Cond.code yX1_mostUrgent cX1_mostUrgent 7 (some .int), Cond.methodLink RX3 85 yX3_helpersReach, Cond.instanceMethod yX3_helpersReach, Cond.selects RX3 yX3_helpersReach yX3_helpersReach, Cond.code yX3_helpersReach cX3_helpersReach 7 (some .boolean), Cond.fieldLink RX3 25 "GossipMembership$World" "helpers" "I"]
def wsX4_rounds : List Cond := .code yX4_rounds cX4_rounds 2 (some .int) :: ((wsX4_rounds_r1 ++ (wsX4_rounds_r2 ++ (wsX4_rounds_r3 ++ (wsX4_rounds_r4 ++ wsX4_rounds_r5)))) ++ wsX40 ++ wsX30 ++ wsX10 ++ wsX20 ++ (vx_atS RX4 34 "java/lang/IllegalArgumentException" ["java/lang/RuntimeException", "java/lang/Exception"]).filter goodWord ++ (vx_atM "java/lang/ArrayIndexOutOfBoundsException" ["java/lang/IndexOutOfBoundsException", "java/lang/RuntimeException", "java/lang/Exception"]).filter goodWord ++ (vx_atM "java/lang/ArithmeticException" ["java/lang/RuntimeException", "java/lang/Exception"]).filter goodWord)
def wsX4_roundsUntilAgreement_r1 : List Cond := [Cond.classLink RX4 30 "java/lang/IllegalArgumentException", Cond.initialized "java/lang/IllegalArgumentException", Cond.classLink RX4 136 "java/util/NoSuchElementException", Cond.initialized "java/util/NoSuchElementException", Cond.fieldLink RX4 10 "GossipMembership" "world" "LGossipMembership$World;", Cond.methodLink RX4 132 yX3_allAgree, Cond.instanceMethod yX3_allAgree, Cond.selects RX3 yX3_allAgree yX3_allAgree, Cond.initialized RX3, Cond.code yX3_allAgree cX3_allAgree 3 (some .boolean), Cond.fieldLink RX3 12 "GossipMembership$World" "network" "LGossipMembership$Network;", Cond.methodLink RX3 47 yX2_connects, Cond.instanceMethod yX2_connects, Cond.selects RX2 yX2_connects yX2_connects, Cond.initialized RX2, Cond.code yX2_connects cX2_connects 3 (some .boolean), Cond.fieldLink RX2 9 "GossipMembership$Network" "up" "[Z", Cond.methodLink RX2 25 yX2_wouldConnect, Cond.instanceMethod yX2_wouldConnect, Cond.selects RX2 yX2_wouldConnect yX2_wouldConnect, Cond.code yX2_wouldConnect cX2_wouldConnect 3 (some .boolean), Cond.fieldLink RX2 18 "GossipMembership$Network" "place" "[I", Cond.fieldLink RX2 22 "GossipMembership$Network" "cutLinks" "[Z", Cond.static yX4_pair]
def wsX4_roundsUntilAgreement_r2 : List Cond := [Cond.initialized RX4, Cond.code yX4_pair cX4_pair 2 (some .int), Cond.methodLink RX3 120 yX3_twoAgree, Cond.instanceMethod yX3_twoAgree, Cond.selects RX3 yX3_twoAgree yX3_twoAgree, Cond.code yX3_twoAgree cX3_twoAgree 3 (some .boolean), Cond.fieldLink RX3 21 "GossipMembership$World" "knowledge" "LGossipMembership$Knowledge;", Cond.methodLink RX3 123 yX1_isUpToDate, Cond.instanceMethod yX1_isUpToDate, Cond.selects RX1 yX1_isUpToDate yX1_isUpToDate, Cond.initialized RX1, Cond.code yX1_isUpToDate cX1_isUpToDate 3 (some .boolean), Cond.fieldLink RX1 15 "GossipMembership$Knowledge" "state" "[I", Cond.fieldLink RX1 18 "GossipMembership$Knowledge" "incarnations" "[I", Cond.fieldLink RX1 9 "GossipMembership$Knowledge" "ownIncarnation" "[I", Cond.methodLink RX3 126 yX1_countDifferences, Cond.instanceMethod yX1_countDifferences, Cond.selects RX1 yX1_countDifferences yX1_countDifferences, Cond.code yX1_countDifferences cX1_countDifferences 5 (some .int), Cond.methodLink RX1 58 yX1_differ, Cond.instanceMethod yX1_differ, Cond.selects RX1 yX1_differ yX1_differ, Cond.code yX1_differ cX1_differ 3 (some .boolean), Cond.methodLink RX4 124 yX3_play]
def wsX4_roundsUntilAgreement_r3 : List Cond := [Cond.instanceMethod yX3_play, Cond.selects RX3 yX3_play yX3_play, Cond.code yX3_play cX3_play 4 none, Cond.fieldLink RX3 66 "GossipMembership$Knowledge" "presentRound" "I", Cond.fieldLink RX3 32 "GossipMembership$Network" "up" "[Z", Cond.methodLink RX3 69 yX3_takeTurn, Cond.instanceMethod yX3_takeTurn, Cond.selects RX3 yX3_takeTurn yX3_takeTurn, Cond.code yX3_takeTurn cX3_takeTurn 3 none, Cond.methodLink RX3 72 yX3_declareOverdue, Cond.instanceMethod yX3_declareOverdue, Cond.selects RX3 yX3_declareOverdue yX3_declareOverdue, Cond.code yX3_declareOverdue cX3_declareOverdue 4 none, Cond.fieldLink RX3 88 "GossipMembership$Knowledge" "deadlines" "[I", Cond.fieldLink RX3 94 "GossipMembership$World" "declared" "I", Cond.fieldLink RX3 97 "GossipMembership$World" "declaredFalsely" "I", Cond.methodLink RX3 75 yX1_nodesInState, Cond.instanceMethod yX1_nodesInState, Cond.selects RX1 yX1_nodesInState yX1_nodesInState, Cond.code yX1_nodesInState cX1_nodesInState 5 (some .int), Cond.methodLink RX3 59 yX1_toldIncarnation, Cond.instanceMethod yX1_toldIncarnation, Cond.selects RX1 yX1_toldIncarnation yX1_toldIncarnation, Cond.code yX1_toldIncarnation cX1_toldIncarnation 3 (some .int)]
def wsX4_roundsUntilAgreement_r4 : List Cond := [Cond.methodLink RX3 62 yX1_takeIn, Cond.instanceMethod yX1_takeIn, Cond.selects RX1 yX1_takeIn yX1_takeIn, Cond.code yX1_takeIn cX1_takeIn 6 (some .boolean), Cond.fieldLink RX1 44 "GossipMembership$Knowledge" "refuted" "I", Cond.fieldLink RX1 24 "GossipMembership$Knowledge" "counters" "[I", Cond.fieldLink RX1 31 "GossipMembership$Knowledge" "fanOut" "I", Cond.methodLink RX1 47 yX1_outweighs, Cond.instanceMethod yX1_outweighs, Cond.selects RX1 yX1_outweighs yX1_outweighs, Cond.code yX1_outweighs cX1_outweighs 4 (some .boolean), Cond.methodLink RX1 51 yX1_replaceView, Cond.instanceMethod yX1_replaceView, Cond.selects RX1 yX1_replaceView yX1_replaceView, Cond.code yX1_replaceView cX1_replaceView 4 none, Cond.fieldLink RX1 21 "GossipMembership$Knowledge" "deadlines" "[I", Cond.fieldLink RX1 34 "GossipMembership$Knowledge" "presentRound" "I", Cond.fieldLink RX1 27 "GossipMembership$Knowledge" "patience" "I", Cond.methodLink RX1 55 yX1_endQuiet, Cond.instanceMethod yX1_endQuiet, Cond.selects RX1 yX1_endQuiet yX1_endQuiet, Cond.code yX1_endQuiet cX1_endQuiet 1 none, Cond.fieldLink RX1 37 "GossipMembership$Knowledge" "lastUnquietRound" "I", Cond.methodLink RX3 78 yX3_drawFrom]
def wsX4_roundsUntilAgreement_r5 : List Cond := [Cond.instanceMethod yX3_drawFrom, Cond.selects RX3 yX3_drawFrom yX3_drawFrom, Cond.code yX3_drawFrom cX3_drawFrom 5 (some .int), Cond.fieldLink RX3 29 "GossipMembership$World" "drawSeed" "I", Cond.constantLong RX3 105 (1103515245), Cond.constantLong RX3 107 (12345), Cond.constantLong RX3 109 (2147483648), Cond.methodLink RX3 100 yJ6_bitCount_0f7a4, Cond.static yJ6_bitCount_0f7a4, Cond.initialized RJ6, Cond.code yJ6_bitCount_0f7a4 cJ6_bitCount_0f7a4 1 (some .int), Cond.constant RJ6 265 (1431655765), Cond.constant RJ6 266 (858993459), Cond.constant RJ6 267 (252645135), Cond.methodLink RX3 82 yX3_send, Cond.instanceMethod yX3_send, Cond.selects RX3 yX3_send yX3_send, Cond.code yX3_send cX3_send 8 none, Cond.fieldLink RX3 114 "GossipMembership$Knowledge" "counters" "[I", Cond.fieldLink RX3 117 "GossipMembership$World" "messagesSent" "I", Cond.methodLink RX3 55 yX1_toldState, Cond.instanceMethod yX1_toldState, Cond.selects RX1 yX1_toldState yX1_toldState, Cond.code yX1_toldState cX1_toldState 3 (some .int)]
def wsX4_roundsUntilAgreement_r6 : List Cond := [Cond.methodLink RX3 111 yX1_mostUrgent, Cond.instanceMethod yX1_mostUrgent, Cond.selects RX1 yX1_mostUrgent yX1_mostUrgent, Cond.code yX1_mostUrgent cX1_mostUrgent 7 (some .int), Cond.methodLink RX3 85 yX3_helpersReach, Cond.instanceMethod yX3_helpersReach, Cond.selects RX3 yX3_helpersReach yX3_helpersReach, Cond.code yX3_helpersReach cX3_helpersReach 7 (some .boolean), Cond.fieldLink RX3 25 "GossipMembership$World" "helpers" "I"]
def wsX4_roundsUntilAgreement : List Cond := .code yX4_roundsUntilAgreement cX4_roundsUntilAgreement 4 (some .int) :: ((wsX4_roundsUntilAgreement_r1 ++ (wsX4_roundsUntilAgreement_r2 ++ (wsX4_roundsUntilAgreement_r3 ++ (wsX4_roundsUntilAgreement_r4 ++ (wsX4_roundsUntilAgreement_r5 ++ wsX4_roundsUntilAgreement_r6))))) ++ wsX40 ++ wsX30 ++ wsX20 ++ wsX10 ++ (vx_atS RX4 34 "java/lang/IllegalArgumentException" ["java/lang/RuntimeException", "java/lang/Exception"]).filter goodWord ++ (vx_atS RX4 140 "java/util/NoSuchElementException" ["java/lang/RuntimeException", "java/lang/Exception"]).filter goodWord ++ (vx_atM "java/lang/ArrayIndexOutOfBoundsException" ["java/lang/IndexOutOfBoundsException", "java/lang/RuntimeException", "java/lang/Exception"]).filter goodWord ++ (vx_atM "java/lang/ArithmeticException" ["java/lang/RuntimeException", "java/lang/Exception"]).filter goodWord)
def wsX4_round : List Cond := .code yX4_round cX4_round 1 (some .int) :: ([.fieldLink RX4 10 "GossipMembership" "world" "LGossipMembership$World;", .fieldLink RX4 37 "GossipMembership$World" "knowledge" "LGossipMembership$Knowledge;", .fieldLink RX4 127 "GossipMembership$Knowledge" "presentRound" "I"] ++ wsX40 ++ wsX30 ++ wsX10)
def wsX4_isUp : List Cond := .code yX4_isUp cX4_isUp 2 (some .boolean) :: ([.fieldLink RX4 10 "GossipMembership" "world" "LGossipMembership$World;", .fieldLink RX4 65 "GossipMembership$World" "network" "LGossipMembership$Network;", .fieldLink RX4 69 "GossipMembership$Network" "up" "[Z", .methodLink RX4 61 yX4_requireNode, .static yX4_requireNode, .initialized RX4, .code yX4_requireNode cX4_requireNode 1 none, .classLink RX4 239 "java/lang/IndexOutOfBoundsException", .initialized "java/lang/IndexOutOfBoundsException"] ++ wsX40 ++ wsX30 ++ wsX20 ++ (vx_atM "java/lang/ArrayIndexOutOfBoundsException" ["java/lang/IndexOutOfBoundsException", "java/lang/RuntimeException", "java/lang/Exception"]).filter goodWord ++ (vx_atS RX4 243 "java/lang/IndexOutOfBoundsException" ["java/lang/RuntimeException", "java/lang/Exception"]).filter goodWord)
def wsX4_partition : List Cond := .code yX4_partition cX4_partition 2 (some .int) :: ([.fieldLink RX4 10 "GossipMembership" "world" "LGossipMembership$World;", .fieldLink RX4 65 "GossipMembership$World" "network" "LGossipMembership$Network;", .fieldLink RX4 105 "GossipMembership$Network" "place" "[I", .methodLink RX4 61 yX4_requireNode, .static yX4_requireNode, .initialized RX4, .code yX4_requireNode cX4_requireNode 1 none, .classLink RX4 239 "java/lang/IndexOutOfBoundsException", .initialized "java/lang/IndexOutOfBoundsException"] ++ wsX40 ++ wsX30 ++ wsX20 ++ (vx_atM "java/lang/ArrayIndexOutOfBoundsException" ["java/lang/IndexOutOfBoundsException", "java/lang/RuntimeException", "java/lang/Exception"]).filter goodWord ++ (vx_atS RX4 243 "java/lang/IndexOutOfBoundsException" ["java/lang/RuntimeException", "java/lang/Exception"]).filter goodWord)
def wsX4_incarnation : List Cond := .code yX4_incarnation cX4_incarnation 2 (some .int) :: ([.fieldLink RX4 10 "GossipMembership" "world" "LGossipMembership$World;", .fieldLink RX4 37 "GossipMembership$World" "knowledge" "LGossipMembership$Knowledge;", .fieldLink RX4 93 "GossipMembership$Knowledge" "ownIncarnation" "[I", .methodLink RX4 61 yX4_requireNode, .static yX4_requireNode, .initialized RX4, .code yX4_requireNode cX4_requireNode 1 none, .classLink RX4 239 "java/lang/IndexOutOfBoundsException", .initialized "java/lang/IndexOutOfBoundsException"] ++ wsX40 ++ wsX30 ++ wsX10 ++ (vx_atM "java/lang/ArrayIndexOutOfBoundsException" ["java/lang/IndexOutOfBoundsException", "java/lang/RuntimeException", "java/lang/Exception"]).filter goodWord ++ (vx_atS RX4 243 "java/lang/IndexOutOfBoundsException" ["java/lang/RuntimeException", "java/lang/Exception"]).filter goodWord)
def wsX4_reaches : List Cond := .code yX4_reaches cX4_reaches 3 (some .boolean) :: ([.fieldLink RX4 10 "GossipMembership" "world" "LGossipMembership$World;", .fieldLink RX4 65 "GossipMembership$World" "network" "LGossipMembership$Network;", .methodLink RX4 61 yX4_requireNode, .static yX4_requireNode, .initialized RX4, .code yX4_requireNode cX4_requireNode 1 none, .classLink RX4 239 "java/lang/IndexOutOfBoundsException", .initialized "java/lang/IndexOutOfBoundsException", .methodLink RX4 141 yX2_connects, .instanceMethod yX2_connects, .selects RX2 yX2_connects yX2_connects, .initialized RX2, .code yX2_connects cX2_connects 3 (some .boolean), .fieldLink RX2 9 "GossipMembership$Network" "up" "[Z", .methodLink RX2 25 yX2_wouldConnect, .instanceMethod yX2_wouldConnect, .selects RX2 yX2_wouldConnect yX2_wouldConnect, .code yX2_wouldConnect cX2_wouldConnect 3 (some .boolean), .fieldLink RX2 18 "GossipMembership$Network" "place" "[I", .fieldLink RX2 22 "GossipMembership$Network" "cutLinks" "[Z", .static yX4_pair, .code yX4_pair cX4_pair 2 (some .int)] ++ wsX40 ++ wsX30 ++ wsX20 ++ (vx_atS RX4 243 "java/lang/IndexOutOfBoundsException" ["java/lang/RuntimeException", "java/lang/Exception"]).filter goodWord ++ (vx_atM "java/lang/ArrayIndexOutOfBoundsException" ["java/lang/IndexOutOfBoundsException", "java/lang/RuntimeException", "java/lang/Exception"]).filter goodWord)
def wsX4_view : List Cond := .code yX4_view cX4_view 3 (some .int) :: ([.fieldLink RX4 10 "GossipMembership" "world" "LGossipMembership$World;", .fieldLink RX4 37 "GossipMembership$World" "knowledge" "LGossipMembership$Knowledge;", .fieldLink RX4 144 "GossipMembership$Knowledge" "state" "[I", .methodLink RX4 108 yX4_requireTwoNodes, .static yX4_requireTwoNodes, .initialized RX4, .code yX4_requireTwoNodes cX4_requireTwoNodes 2 none, .classLink RX4 30 "java/lang/IllegalArgumentException", .initialized "java/lang/IllegalArgumentException", .methodLink RX4 61 yX4_requireNode, .static yX4_requireNode, .code yX4_requireNode cX4_requireNode 1 none, .classLink RX4 239 "java/lang/IndexOutOfBoundsException", .initialized "java/lang/IndexOutOfBoundsException", .methodLink RX4 114 yX4_pair, .static yX4_pair, .code yX4_pair cX4_pair 2 (some .int)] ++ wsX40 ++ wsX30 ++ wsX10 ++ (vx_atM "java/lang/ArrayIndexOutOfBoundsException" ["java/lang/IndexOutOfBoundsException", "java/lang/RuntimeException", "java/lang/Exception"]).filter goodWord ++ (vx_atS RX4 34 "java/lang/IllegalArgumentException" ["java/lang/RuntimeException", "java/lang/Exception"]).filter goodWord ++ (vx_atS RX4 243 "java/lang/IndexOutOfBoundsException" ["java/lang/RuntimeException", "java/lang/Exception"]).filter goodWord)
def wsX4_viewIncarnation : List Cond := .code yX4_viewIncarnation cX4_viewIncarnation 3 (some .int) :: ([.fieldLink RX4 10 "GossipMembership" "world" "LGossipMembership$World;", .fieldLink RX4 37 "GossipMembership$World" "knowledge" "LGossipMembership$Knowledge;", .fieldLink RX4 147 "GossipMembership$Knowledge" "incarnations" "[I", .methodLink RX4 108 yX4_requireTwoNodes, .static yX4_requireTwoNodes, .initialized RX4, .code yX4_requireTwoNodes cX4_requireTwoNodes 2 none, .classLink RX4 30 "java/lang/IllegalArgumentException", .initialized "java/lang/IllegalArgumentException", .methodLink RX4 61 yX4_requireNode, .static yX4_requireNode, .code yX4_requireNode cX4_requireNode 1 none, .classLink RX4 239 "java/lang/IndexOutOfBoundsException", .initialized "java/lang/IndexOutOfBoundsException", .methodLink RX4 114 yX4_pair, .static yX4_pair, .code yX4_pair cX4_pair 2 (some .int)] ++ wsX40 ++ wsX30 ++ wsX10 ++ (vx_atM "java/lang/ArrayIndexOutOfBoundsException" ["java/lang/IndexOutOfBoundsException", "java/lang/RuntimeException", "java/lang/Exception"]).filter goodWord ++ (vx_atS RX4 34 "java/lang/IllegalArgumentException" ["java/lang/RuntimeException", "java/lang/Exception"]).filter goodWord ++ (vx_atS RX4 243 "java/lang/IndexOutOfBoundsException" ["java/lang/RuntimeException", "java/lang/Exception"]).filter goodWord)
def wsX4_deadline : List Cond := .code yX4_deadline cX4_deadline 3 (some .int) :: ([.classLink RX4 136 "java/util/NoSuchElementException", .initialized "java/util/NoSuchElementException", .fieldLink RX4 10 "GossipMembership" "world" "LGossipMembership$World;", .fieldLink RX4 37 "GossipMembership$World" "knowledge" "LGossipMembership$Knowledge;", .fieldLink RX4 144 "GossipMembership$Knowledge" "state" "[I", .fieldLink RX4 152 "GossipMembership$Knowledge" "deadlines" "[I", .methodLink RX4 108 yX4_requireTwoNodes, .static yX4_requireTwoNodes, .initialized RX4, .code yX4_requireTwoNodes cX4_requireTwoNodes 2 none, .classLink RX4 30 "java/lang/IllegalArgumentException", .initialized "java/lang/IllegalArgumentException", .methodLink RX4 61 yX4_requireNode, .static yX4_requireNode, .code yX4_requireNode cX4_requireNode 1 none, .classLink RX4 239 "java/lang/IndexOutOfBoundsException", .initialized "java/lang/IndexOutOfBoundsException", .methodLink RX4 114 yX4_pair, .static yX4_pair, .code yX4_pair cX4_pair 2 (some .int)] ++ wsX40 ++ wsX30 ++ wsX10 ++ (vx_atM "java/lang/ArrayIndexOutOfBoundsException" ["java/lang/IndexOutOfBoundsException", "java/lang/RuntimeException", "java/lang/Exception"]).filter goodWord ++ (vx_atS RX4 140 "java/util/NoSuchElementException" ["java/lang/RuntimeException", "java/lang/Exception"]).filter goodWord ++ (vx_atS RX4 34 "java/lang/IllegalArgumentException" ["java/lang/RuntimeException", "java/lang/Exception"]).filter goodWord ++ (vx_atS RX4 243 "java/lang/IndexOutOfBoundsException" ["java/lang/RuntimeException", "java/lang/Exception"]).filter goodWord)
def wsX4_counter : List Cond := .code yX4_counter cX4_counter 3 (some .int) :: ([.fieldLink RX4 10 "GossipMembership" "world" "LGossipMembership$World;", .fieldLink RX4 37 "GossipMembership$World" "knowledge" "LGossipMembership$Knowledge;", .fieldLink RX4 155 "GossipMembership$Knowledge" "counters" "[I", .methodLink RX4 61 yX4_requireNode, .static yX4_requireNode, .initialized RX4, .code yX4_requireNode cX4_requireNode 1 none, .classLink RX4 239 "java/lang/IndexOutOfBoundsException", .initialized "java/lang/IndexOutOfBoundsException", .methodLink RX4 114 yX4_pair, .static yX4_pair, .code yX4_pair cX4_pair 2 (some .int)] ++ wsX40 ++ wsX30 ++ wsX10 ++ (vx_atM "java/lang/ArrayIndexOutOfBoundsException" ["java/lang/IndexOutOfBoundsException", "java/lang/RuntimeException", "java/lang/Exception"]).filter goodWord ++ (vx_atS RX4 243 "java/lang/IndexOutOfBoundsException" ["java/lang/RuntimeException", "java/lang/Exception"]).filter goodWord)
def wsX4_tell_r1 : List Cond := [Cond.classLink RX4 75 "java/lang/IllegalStateException", Cond.initialized "java/lang/IllegalStateException", Cond.classLink RX4 30 "java/lang/IllegalArgumentException", Cond.initialized "java/lang/IllegalArgumentException", Cond.fieldLink RX4 10 "GossipMembership" "world" "LGossipMembership$World;", Cond.fieldLink RX4 65 "GossipMembership$World" "network" "LGossipMembership$Network;", Cond.fieldLink RX4 69 "GossipMembership$Network" "up" "[Z", Cond.fieldLink RX4 37 "GossipMembership$World" "knowledge" "LGossipMembership$Knowledge;", Cond.methodLink RX4 61 yX4_requireNode, Cond.static yX4_requireNode, Cond.initialized RX4, Cond.code yX4_requireNode cX4_requireNode 1 none, Cond.classLink RX4 239 "java/lang/IndexOutOfBoundsException", Cond.initialized "java/lang/IndexOutOfBoundsException", Cond.methodLink RX4 162 yX1_takeIn, Cond.instanceMethod yX1_takeIn, Cond.selects RX1 yX1_takeIn yX1_takeIn, Cond.initialized RX1, Cond.code yX1_takeIn cX1_takeIn 6 (some .boolean), Cond.fieldLink RX1 9 "GossipMembership$Knowledge" "ownIncarnation" "[I", Cond.fieldLink RX1 44 "GossipMembership$Knowledge" "refuted" "I", Cond.fieldLink RX1 24 "GossipMembership$Knowledge" "counters" "[I", Cond.fieldLink RX1 31 "GossipMembership$Knowledge" "fanOut" "I", Cond.static yX4_pair]
def wsX4_tell_r2 : List Cond := [Cond.code yX4_pair cX4_pair 2 (some .int), Cond.methodLink RX1 47 yX1_outweighs, Cond.instanceMethod yX1_outweighs, Cond.selects RX1 yX1_outweighs yX1_outweighs, Cond.code yX1_outweighs cX1_outweighs 4 (some .boolean), Cond.fieldLink RX1 15 "GossipMembership$Knowledge" "state" "[I", Cond.fieldLink RX1 18 "GossipMembership$Knowledge" "incarnations" "[I", Cond.methodLink RX1 51 yX1_replaceView, Cond.instanceMethod yX1_replaceView, Cond.selects RX1 yX1_replaceView yX1_replaceView, Cond.code yX1_replaceView cX1_replaceView 4 none, Cond.fieldLink RX1 21 "GossipMembership$Knowledge" "deadlines" "[I", Cond.fieldLink RX1 34 "GossipMembership$Knowledge" "presentRound" "I", Cond.fieldLink RX1 27 "GossipMembership$Knowledge" "patience" "I", Cond.methodLink RX1 55 yX1_endQuiet, Cond.instanceMethod yX1_endQuiet, Cond.selects RX1 yX1_endQuiet yX1_endQuiet, Cond.code yX1_endQuiet cX1_endQuiet 1 none, Cond.fieldLink RX1 37 "GossipMembership$Knowledge" "lastUnquietRound" "I", Cond.methodLink RX4 90 yX1_endQuiet]
def wsX4_tell : List Cond := .code yX4_tell cX4_tell 6 (some .boolean) :: ((wsX4_tell_r1 ++ wsX4_tell_r2) ++ wsX40 ++ wsX30 ++ wsX20 ++ wsX10 ++ (vx_atM "java/lang/ArrayIndexOutOfBoundsException" ["java/lang/IndexOutOfBoundsException", "java/lang/RuntimeException", "java/lang/Exception"]).filter goodWord ++ (vx_atS RX4 79 "java/lang/IllegalStateException" ["java/lang/RuntimeException", "java/lang/Exception"]).filter goodWord ++ (vx_atS RX4 34 "java/lang/IllegalArgumentException" ["java/lang/RuntimeException", "java/lang/Exception"]).filter goodWord ++ (vx_atS RX4 243 "java/lang/IndexOutOfBoundsException" ["java/lang/RuntimeException", "java/lang/Exception"]).filter goodWord)
def wsX4_alive : List Cond := .code yX4_alive cX4_alive 2 (some .int) :: ([.fieldLink RX4 10 "GossipMembership" "world" "LGossipMembership$World;", .fieldLink RX4 37 "GossipMembership$World" "knowledge" "LGossipMembership$Knowledge;", .methodLink RX4 61 yX4_requireNode, .static yX4_requireNode, .initialized RX4, .code yX4_requireNode cX4_requireNode 1 none, .classLink RX4 239 "java/lang/IndexOutOfBoundsException", .initialized "java/lang/IndexOutOfBoundsException", .methodLink RX4 166 yX1_nodesInState, .instanceMethod yX1_nodesInState, .selects RX1 yX1_nodesInState yX1_nodesInState, .initialized RX1, .code yX1_nodesInState cX1_nodesInState 5 (some .int), .fieldLink RX1 15 "GossipMembership$Knowledge" "state" "[I", .static yX4_pair, .code yX4_pair cX4_pair 2 (some .int)] ++ wsX40 ++ wsX30 ++ wsX10 ++ (vx_atS RX4 243 "java/lang/IndexOutOfBoundsException" ["java/lang/RuntimeException", "java/lang/Exception"]).filter goodWord ++ (vx_atM "java/lang/ArrayIndexOutOfBoundsException" ["java/lang/IndexOutOfBoundsException", "java/lang/RuntimeException", "java/lang/Exception"]).filter goodWord)
def wsX4_agree_r1 : List Cond := [Cond.fieldLink RX4 10 "GossipMembership" "world" "LGossipMembership$World;", Cond.methodLink RX4 132 yX3_allAgree, Cond.instanceMethod yX3_allAgree, Cond.selects RX3 yX3_allAgree yX3_allAgree, Cond.initialized RX3, Cond.code yX3_allAgree cX3_allAgree 3 (some .boolean), Cond.fieldLink RX3 12 "GossipMembership$World" "network" "LGossipMembership$Network;", Cond.methodLink RX3 47 yX2_connects, Cond.instanceMethod yX2_connects, Cond.selects RX2 yX2_connects yX2_connects, Cond.initialized RX2, Cond.code yX2_connects cX2_connects 3 (some .boolean), Cond.fieldLink RX2 9 "GossipMembership$Network" "up" "[Z", Cond.methodLink RX2 25 yX2_wouldConnect, Cond.instanceMethod yX2_wouldConnect, Cond.selects RX2 yX2_wouldConnect yX2_wouldConnect, Cond.code yX2_wouldConnect cX2_wouldConnect 3 (some .boolean), Cond.fieldLink RX2 18 "GossipMembership$Network" "place" "[I", Cond.fieldLink RX2 22 "GossipMembership$Network" "cutLinks" "[Z", Cond.static yX4_pair, Cond.initialized RX4, Cond.code yX4_pair cX4_pair 2 (some .int), Cond.methodLink RX3 120 yX3_twoAgree, Cond.instanceMethod yX3_twoAgree]
def wsX4_agree_r2 : List Cond := [Cond.selects RX3 yX3_twoAgree yX3_twoAgree, Cond.code yX3_twoAgree cX3_twoAgree 3 (some .boolean), Cond.fieldLink RX3 21 "GossipMembership$World" "knowledge" "LGossipMembership$Knowledge;", Cond.methodLink RX3 123 yX1_isUpToDate, Cond.instanceMethod yX1_isUpToDate, Cond.selects RX1 yX1_isUpToDate yX1_isUpToDate, Cond.initialized RX1, Cond.code yX1_isUpToDate cX1_isUpToDate 3 (some .boolean), Cond.fieldLink RX1 15 "GossipMembership$Knowledge" "state" "[I", Cond.fieldLink RX1 18 "GossipMembership$Knowledge" "incarnations" "[I", Cond.fieldLink RX1 9 "GossipMembership$Knowledge" "ownIncarnation" "[I", Cond.methodLink RX3 126 yX1_countDifferences, Cond.instanceMethod yX1_countDifferences, Cond.selects RX1 yX1_countDifferences yX1_countDifferences, Cond.code yX1_countDifferences cX1_countDifferences 5 (some .int), Cond.methodLink RX1 58 yX1_differ, Cond.instanceMethod yX1_differ, Cond.selects RX1 yX1_differ yX1_differ, Cond.code yX1_differ cX1_differ 3 (some .boolean)]
def wsX4_agree : List Cond := .code yX4_agree cX4_agree 1 (some .boolean) :: ((wsX4_agree_r1 ++ wsX4_agree_r2) ++ wsX40 ++ wsX30 ++ wsX20 ++ wsX10 ++ (vx_atM "java/lang/ArrayIndexOutOfBoundsException" ["java/lang/IndexOutOfBoundsException", "java/lang/RuntimeException", "java/lang/Exception"]).filter goodWord)
def wsX4_disagreements_r1 : List Cond := [Cond.fieldLink RX4 10 "GossipMembership" "world" "LGossipMembership$World;", Cond.methodLink RX4 169 yX3_countDisagreements, Cond.instanceMethod yX3_countDisagreements, Cond.selects RX3 yX3_countDisagreements yX3_countDisagreements, Cond.initialized RX3, Cond.code yX3_countDisagreements cX3_countDisagreements 4 (some .int), Cond.fieldLink RX3 12 "GossipMembership$World" "network" "LGossipMembership$Network;", Cond.fieldLink RX3 21 "GossipMembership$World" "knowledge" "LGossipMembership$Knowledge;", Cond.methodLink RX3 47 yX2_connects, Cond.instanceMethod yX2_connects, Cond.selects RX2 yX2_connects yX2_connects, Cond.initialized RX2, Cond.code yX2_connects cX2_connects 3 (some .boolean), Cond.fieldLink RX2 9 "GossipMembership$Network" "up" "[Z", Cond.methodLink RX2 25 yX2_wouldConnect, Cond.instanceMethod yX2_wouldConnect, Cond.selects RX2 yX2_wouldConnect yX2_wouldConnect, Cond.code yX2_wouldConnect cX2_wouldConnect 3 (some .boolean), Cond.fieldLink RX2 18 "GossipMembership$Network" "place" "[I", Cond.fieldLink RX2 22 "GossipMembership$Network" "cutLinks" "[Z", Cond.static yX4_pair, Cond.initialized RX4, Cond.code yX4_pair cX4_pair 2 (some .int), Cond.methodLink RX3 126 yX1_countDifferences]
def wsX4_disagreements_r2 : List Cond := [Cond.instanceMethod yX1_countDifferences, Cond.selects RX1 yX1_countDifferences yX1_countDifferences, Cond.initialized RX1, Cond.code yX1_countDifferences cX1_countDifferences 5 (some .int), Cond.methodLink RX1 58 yX1_differ, Cond.instanceMethod yX1_differ, Cond.selects RX1 yX1_differ yX1_differ, Cond.code yX1_differ cX1_differ 3 (some .boolean), Cond.fieldLink RX1 15 "GossipMembership$Knowledge" "state" "[I", Cond.fieldLink RX1 18 "GossipMembership$Knowledge" "incarnations" "[I"]
def wsX4_disagreements : List Cond := .code yX4_disagreements cX4_disagreements 1 (some .int) :: ((wsX4_disagreements_r1 ++ wsX4_disagreements_r2) ++ wsX40 ++ wsX30 ++ wsX20 ++ wsX10 ++ (vx_atM "java/lang/ArrayIndexOutOfBoundsException" ["java/lang/IndexOutOfBoundsException", "java/lang/RuntimeException", "java/lang/Exception"]).filter goodWord)
def wsX4_declarations : List Cond := .code yX4_declarations cX4_declarations 1 (some .int) :: ([.fieldLink RX4 10 "GossipMembership" "world" "LGossipMembership$World;", .fieldLink RX4 172 "GossipMembership$World" "declared" "I"] ++ wsX40 ++ wsX30)
def wsX4_falseDeclarations : List Cond := .code yX4_falseDeclarations cX4_falseDeclarations 1 (some .int) :: ([.fieldLink RX4 10 "GossipMembership" "world" "LGossipMembership$World;", .fieldLink RX4 175 "GossipMembership$World" "declaredFalsely" "I"] ++ wsX40 ++ wsX30)
def wsX4_refutations : List Cond := .code yX4_refutations cX4_refutations 1 (some .int) :: ([.fieldLink RX4 10 "GossipMembership" "world" "LGossipMembership$World;", .fieldLink RX4 37 "GossipMembership$World" "knowledge" "LGossipMembership$Knowledge;", .fieldLink RX4 178 "GossipMembership$Knowledge" "refuted" "I"] ++ wsX40 ++ wsX30 ++ wsX10)
def wsX4_messages : List Cond := .code yX4_messages cX4_messages 1 (some .int) :: ([.fieldLink RX4 10 "GossipMembership" "world" "LGossipMembership$World;", .fieldLink RX4 181 "GossipMembership$World" "messagesSent" "I"] ++ wsX40 ++ wsX30)
def wsX4_quietRounds : List Cond := .code yX4_quietRounds cX4_quietRounds 1 (some .int) :: ([.fieldLink RX4 10 "GossipMembership" "world" "LGossipMembership$World;", .fieldLink RX4 37 "GossipMembership$World" "knowledge" "LGossipMembership$Knowledge;", .fieldLink RX4 127 "GossipMembership$Knowledge" "presentRound" "I", .fieldLink RX4 184 "GossipMembership$Knowledge" "lastUnquietRound" "I"] ++ wsX40 ++ wsX30 ++ wsX10)
def wsX4_appendCharacter : List Cond := .code yX4_appendCharacter cX4_appendCharacter 2 (some .int) :: ([.classLink RX4 30 "java/lang/IllegalArgumentException", .initialized "java/lang/IllegalArgumentException", .classLink RX4 75 "java/lang/IllegalStateException", .initialized "java/lang/IllegalStateException", .fieldLink RX4 22 "GossipMembership" "text" "LGossipMembership$CommandText;", .fieldLink RX4 189 "GossipMembership$CommandText" "length" "I", .fieldLink RX4 194 "GossipMembership$CommandText" "signs" "[C"] ++ wsX40 ++ wsX00 ++ (vx_atS RX4 34 "java/lang/IllegalArgumentException" ["java/lang/RuntimeException", "java/lang/Exception"]).filter goodWord ++ (vx_atS RX4 79 "java/lang/IllegalStateException" ["java/lang/RuntimeException", "java/lang/Exception"]).filter goodWord ++ (vx_atM "java/lang/ArrayIndexOutOfBoundsException" ["java/lang/IndexOutOfBoundsException", "java/lang/RuntimeException", "java/lang/Exception"]).filter goodWord)
def wsX4_carryOut_r1 : List Cond := [Cond.classLink RX4 75 "java/lang/IllegalStateException", Cond.classLink RX4 30 "java/lang/IllegalArgumentException", Cond.fieldLink RX4 22 "GossipMembership" "text" "LGossipMembership$CommandText;", Cond.fieldLink RX4 10 "GossipMembership" "world" "LGossipMembership$World;", Cond.methodLink RX4 246 yX0_digitAt, Cond.instanceMethod yX0_digitAt, Cond.selects RX0 yX0_digitAt yX0_digitAt, Cond.initialized RX0, Cond.code yX0_digitAt cX0_digitAt 2 (some .int), Cond.methodLink RX0 19 yX0_signAt, Cond.instanceMethod yX0_signAt, Cond.selects RX0 yX0_signAt yX0_signAt, Cond.code yX0_signAt cX0_signAt 2 (some .char), Cond.fieldLink RX0 15 "GossipMembership$CommandText" "length" "I", Cond.fieldLink RX0 9 "GossipMembership$CommandText" "signs" "[C", Cond.methodLink RX4 249 yX0_signAt, Cond.methodLink RX4 253 yX4_crash, Cond.instanceMethod yX4_crash, Cond.selects RX4 yX4_crash yX4_crash, Cond.initialized RX4, Cond.code yX4_crash cX4_crash 2 (some .int), Cond.initialized "java/lang/IllegalStateException", Cond.fieldLink RX4 65 "GossipMembership$World" "network" "LGossipMembership$Network;", Cond.fieldLink RX4 69 "GossipMembership$Network" "up" "[Z"]
def wsX4_carryOut_r2 : List Cond := [Cond.fieldLink RX4 37 "GossipMembership$World" "knowledge" "LGossipMembership$Knowledge;", Cond.methodLink RX4 61 yX4_requireNode, Cond.static yX4_requireNode, Cond.code yX4_requireNode cX4_requireNode 1 none, Cond.classLink RX4 239 "java/lang/IndexOutOfBoundsException", Cond.initialized "java/lang/IndexOutOfBoundsException", Cond.methodLink RX4 90 yX1_endQuiet, Cond.instanceMethod yX1_endQuiet, Cond.selects RX1 yX1_endQuiet yX1_endQuiet, Cond.initialized RX1, Cond.code yX1_endQuiet cX1_endQuiet 1 none, Cond.fieldLink RX1 34 "GossipMembership$Knowledge" "presentRound" "I", Cond.fieldLink RX1 37 "GossipMembership$Knowledge" "lastUnquietRound" "I", Cond.methodLink RX4 99 yX2_countUp, Cond.instanceMethod yX2_countUp, Cond.selects RX2 yX2_countUp yX2_countUp, Cond.initialized RX2, Cond.code yX2_countUp cX2_countUp 3 (some .int), Cond.fieldLink RX2 9 "GossipMembership$Network" "up" "[Z", Cond.methodLink RX4 256 yX4_join, Cond.instanceMethod yX4_join, Cond.selects RX4 yX4_join yX4_join, Cond.code yX4_join cX4_join 3 (some .int), Cond.initialized "java/lang/IllegalArgumentException"]
def wsX4_carryOut_r3 : List Cond := [Cond.fieldLink RX4 93 "GossipMembership$Knowledge" "ownIncarnation" "[I", Cond.methodLink RX4 80 yX2_wouldConnect, Cond.instanceMethod yX2_wouldConnect, Cond.selects RX2 yX2_wouldConnect yX2_wouldConnect, Cond.code yX2_wouldConnect cX2_wouldConnect 3 (some .boolean), Cond.fieldLink RX2 18 "GossipMembership$Network" "place" "[I", Cond.fieldLink RX2 22 "GossipMembership$Network" "cutLinks" "[Z", Cond.static yX4_pair, Cond.code yX4_pair cX4_pair 2 (some .int), Cond.methodLink RX4 86 yX3_admit, Cond.instanceMethod yX3_admit, Cond.selects RX3 yX3_admit yX3_admit, Cond.initialized RX3, Cond.code yX3_admit cX3_admit 3 none, Cond.fieldLink RX3 12 "GossipMembership$World" "network" "LGossipMembership$Network;", Cond.fieldLink RX3 32 "GossipMembership$Network" "up" "[Z", Cond.fieldLink RX3 36 "GossipMembership$Network" "everUp" "[Z", Cond.fieldLink RX3 21 "GossipMembership$World" "knowledge" "LGossipMembership$Knowledge;", Cond.fieldLink RX3 39 "GossipMembership$Knowledge" "ownIncarnation" "[I", Cond.methodLink RX3 43 yX1_forgetAll, Cond.instanceMethod yX1_forgetAll, Cond.selects RX1 yX1_forgetAll yX1_forgetAll, Cond.code yX1_forgetAll cX1_forgetAll 3 none, Cond.fieldLink RX1 15 "GossipMembership$Knowledge" "state" "[I"]
def wsX4_carryOut_r4 : List Cond := [Cond.fieldLink RX1 18 "GossipMembership$Knowledge" "incarnations" "[I", Cond.fieldLink RX1 24 "GossipMembership$Knowledge" "counters" "[I", Cond.fieldLink RX1 31 "GossipMembership$Knowledge" "fanOut" "I", Cond.methodLink RX3 47 yX2_connects, Cond.instanceMethod yX2_connects, Cond.selects RX2 yX2_connects yX2_connects, Cond.code yX2_connects cX2_connects 3 (some .boolean), Cond.methodLink RX2 25 yX2_wouldConnect, Cond.methodLink RX3 51 yX3_introduce, Cond.instanceMethod yX3_introduce, Cond.selects RX3 yX3_introduce yX3_introduce, Cond.code yX3_introduce cX3_introduce 5 none, Cond.methodLink RX3 55 yX1_toldState, Cond.instanceMethod yX1_toldState, Cond.selects RX1 yX1_toldState yX1_toldState, Cond.code yX1_toldState cX1_toldState 3 (some .int), Cond.methodLink RX3 59 yX1_toldIncarnation, Cond.instanceMethod yX1_toldIncarnation, Cond.selects RX1 yX1_toldIncarnation yX1_toldIncarnation, Cond.code yX1_toldIncarnation cX1_toldIncarnation 3 (some .int), Cond.fieldLink RX1 9 "GossipMembership$Knowledge" "ownIncarnation" "[I", Cond.methodLink RX3 62 yX1_takeIn, Cond.instanceMethod yX1_takeIn, Cond.selects RX1 yX1_takeIn yX1_takeIn]
def wsX4_carryOut_r5 : List Cond := [Cond.code yX1_takeIn cX1_takeIn 6 (some .boolean), Cond.fieldLink RX1 44 "GossipMembership$Knowledge" "refuted" "I", Cond.methodLink RX1 47 yX1_outweighs, Cond.instanceMethod yX1_outweighs, Cond.selects RX1 yX1_outweighs yX1_outweighs, Cond.code yX1_outweighs cX1_outweighs 4 (some .boolean), Cond.methodLink RX1 51 yX1_replaceView, Cond.instanceMethod yX1_replaceView, Cond.selects RX1 yX1_replaceView yX1_replaceView, Cond.code yX1_replaceView cX1_replaceView 4 none, Cond.fieldLink RX1 21 "GossipMembership$Knowledge" "deadlines" "[I", Cond.fieldLink RX1 27 "GossipMembership$Knowledge" "patience" "I", Cond.methodLink RX1 55 yX1_endQuiet, Cond.methodLink RX4 259 yX4_move, Cond.instanceMethod yX4_move, Cond.selects RX4 yX4_move yX4_move, Cond.code yX4_move cX4_move 4 (some .int), Cond.fieldLink RX4 105 "GossipMembership$Network" "place" "[I", Cond.methodLink RX4 124 yX3_play, Cond.instanceMethod yX3_play, Cond.selects RX3 yX3_play yX3_play, Cond.code yX3_play cX3_play 4 none, Cond.fieldLink RX3 66 "GossipMembership$Knowledge" "presentRound" "I", Cond.methodLink RX3 69 yX3_takeTurn]
def wsX4_carryOut_r6 : List Cond := [Cond.instanceMethod yX3_takeTurn, Cond.selects RX3 yX3_takeTurn yX3_takeTurn, Cond.code yX3_takeTurn cX3_takeTurn 3 none, Cond.methodLink RX3 72 yX3_declareOverdue, Cond.instanceMethod yX3_declareOverdue, Cond.selects RX3 yX3_declareOverdue yX3_declareOverdue, Cond.code yX3_declareOverdue cX3_declareOverdue 4 none, Cond.fieldLink RX3 88 "GossipMembership$Knowledge" "deadlines" "[I", Cond.fieldLink RX3 94 "GossipMembership$World" "declared" "I", Cond.fieldLink RX3 97 "GossipMembership$World" "declaredFalsely" "I", Cond.methodLink RX3 75 yX1_nodesInState, Cond.instanceMethod yX1_nodesInState, Cond.selects RX1 yX1_nodesInState yX1_nodesInState, Cond.code yX1_nodesInState cX1_nodesInState 5 (some .int), Cond.methodLink RX3 78 yX3_drawFrom, Cond.instanceMethod yX3_drawFrom, Cond.selects RX3 yX3_drawFrom yX3_drawFrom, Cond.code yX3_drawFrom cX3_drawFrom 5 (some .int), Cond.fieldLink RX3 29 "GossipMembership$World" "drawSeed" "I", Cond.constantLong RX3 105 (1103515245), Cond.constantLong RX3 107 (12345), Cond.constantLong RX3 109 (2147483648), Cond.methodLink RX3 100 yJ6_bitCount_0f7a4, Cond.static yJ6_bitCount_0f7a4]
def wsX4_carryOut_r7 : List Cond := [Cond.initialized RJ6, Cond.code yJ6_bitCount_0f7a4 cJ6_bitCount_0f7a4 1 (some .int), Cond.constant RJ6 265 (1431655765), Cond.constant RJ6 266 (858993459), Cond.constant RJ6 267 (252645135), Cond.methodLink RX3 82 yX3_send, Cond.instanceMethod yX3_send, Cond.selects RX3 yX3_send yX3_send, Cond.code yX3_send cX3_send 8 none, Cond.fieldLink RX3 114 "GossipMembership$Knowledge" "counters" "[I", Cond.fieldLink RX3 117 "GossipMembership$World" "messagesSent" "I", Cond.methodLink RX3 111 yX1_mostUrgent, Cond.instanceMethod yX1_mostUrgent, Cond.selects RX1 yX1_mostUrgent yX1_mostUrgent, Cond.code yX1_mostUrgent cX1_mostUrgent 7 (some .int), Cond.methodLink RX3 85 yX3_helpersReach, Cond.instanceMethod yX3_helpersReach, Cond.selects RX3 yX3_helpersReach yX3_helpersReach, Cond.code yX3_helpersReach cX3_helpersReach 7 (some .boolean), Cond.fieldLink RX3 25 "GossipMembership$World" "helpers" "I"]
def wsX4_carryOut : List Cond := .codeWith yX4_carryOut cX4_carryOut 4 (some .int) [(11, 118, 121, 75), (11, 118, 124, 30)] :: ((wsX4_carryOut_r1 ++ (wsX4_carryOut_r2 ++ (wsX4_carryOut_r3 ++ (wsX4_carryOut_r4 ++ (wsX4_carryOut_r5 ++ (wsX4_carryOut_r6 ++ wsX4_carryOut_r7)))))) ++ wsX40 ++ wsX00 ++ wsX30 ++ wsX20 ++ wsX10 ++ (vx_atM "java/lang/ArrayIndexOutOfBoundsException" ["java/lang/IndexOutOfBoundsException", "java/lang/RuntimeException", "java/lang/Exception"]).filter goodWord ++ (vx_atS RX4 79 "java/lang/IllegalStateException" ["java/lang/RuntimeException", "java/lang/Exception"]).filter goodWord ++ (vx_atS RX4 243 "java/lang/IndexOutOfBoundsException" ["java/lang/RuntimeException", "java/lang/Exception"]).filter goodWord ++ (vx_atS RX4 34 "java/lang/IllegalArgumentException" ["java/lang/RuntimeException", "java/lang/Exception"]).filter goodWord ++ (vx_atM "java/lang/ArithmeticException" ["java/lang/RuntimeException", "java/lang/Exception"]).filter goodWord)
def wsX4_runText_r1 : List Cond := [Cond.classLink RX4 30 "java/lang/IllegalArgumentException", Cond.initialized "java/lang/IllegalArgumentException", Cond.classLink RX4 75 "java/lang/IllegalStateException", Cond.initialized "java/lang/IllegalStateException", Cond.fieldLink RX4 22 "GossipMembership" "text" "LGossipMembership$CommandText;", Cond.fieldLink RX4 189 "GossipMembership$CommandText" "length" "I", Cond.fieldLink RX4 26 "GossipMembership" "failureKind" "I", Cond.fieldLink RX4 208 "GossipMembership" "failureNumber" "I", Cond.methodLink RX4 198 yX0_findFault, Cond.instanceMethod yX0_findFault, Cond.selects RX0 yX0_findFault yX0_findFault, Cond.initialized RX0, Cond.code yX0_findFault cX0_findFault 3 (some .int), Cond.fieldLink RX0 15 "GossipMembership$CommandText" "length" "I", Cond.methodLink RX0 27 yX0_findFaultOfCommand, Cond.instanceMethod yX0_findFaultOfCommand, Cond.selects RX0 yX0_findFaultOfCommand yX0_findFaultOfCommand, Cond.code yX0_findFaultOfCommand cX0_findFaultOfCommand 5 (some .int), Cond.methodLink RX0 19 yX0_signAt, Cond.instanceMethod yX0_signAt, Cond.selects RX0 yX0_signAt yX0_signAt, Cond.code yX0_signAt cX0_signAt 2 (some .char), Cond.fieldLink RX0 9 "GossipMembership$CommandText" "signs" "[C", Cond.methodLink RX0 23 yX0_digitsOf]
def wsX4_runText_r2 : List Cond := [Cond.static yX0_digitsOf, Cond.code yX0_digitsOf cX0_digitsOf 1 (some .int), Cond.methodLink RX0 34 yX0_isDigitFor, Cond.static yX0_isDigitFor, Cond.code yX0_isDigitFor cX0_isDigitFor 4 (some .boolean), Cond.methodLink RX0 31 yX0_lengthOfCommand, Cond.instanceMethod yX0_lengthOfCommand, Cond.selects RX0 yX0_lengthOfCommand yX0_lengthOfCommand, Cond.code yX0_lengthOfCommand cX0_lengthOfCommand 2 (some .int), Cond.methodLink RX4 201 yX4_carryOut, Cond.instanceMethod yX4_carryOut, Cond.selects RX4 yX4_carryOut yX4_carryOut, Cond.initialized RX4, Cond.codeWith yX4_carryOut cX4_carryOut 4 (some .int) [(11, 118, 121, 75), (11, 118, 124, 30)], Cond.fieldLink RX4 10 "GossipMembership" "world" "LGossipMembership$World;", Cond.methodLink RX4 246 yX0_digitAt, Cond.instanceMethod yX0_digitAt, Cond.selects RX0 yX0_digitAt yX0_digitAt, Cond.code yX0_digitAt cX0_digitAt 2 (some .int), Cond.methodLink RX4 249 yX0_signAt, Cond.methodLink RX4 253 yX4_crash, Cond.instanceMethod yX4_crash, Cond.selects RX4 yX4_crash yX4_crash, Cond.code yX4_crash cX4_crash 2 (some .int)]
def wsX4_runText_r3 : List Cond := [Cond.fieldLink RX4 65 "GossipMembership$World" "network" "LGossipMembership$Network;", Cond.fieldLink RX4 69 "GossipMembership$Network" "up" "[Z", Cond.fieldLink RX4 37 "GossipMembership$World" "knowledge" "LGossipMembership$Knowledge;", Cond.methodLink RX4 61 yX4_requireNode, Cond.static yX4_requireNode, Cond.code yX4_requireNode cX4_requireNode 1 none, Cond.classLink RX4 239 "java/lang/IndexOutOfBoundsException", Cond.initialized "java/lang/IndexOutOfBoundsException", Cond.methodLink RX4 90 yX1_endQuiet, Cond.instanceMethod yX1_endQuiet, Cond.selects RX1 yX1_endQuiet yX1_endQuiet, Cond.initialized RX1, Cond.code yX1_endQuiet cX1_endQuiet 1 none, Cond.fieldLink RX1 34 "GossipMembership$Knowledge" "presentRound" "I", Cond.fieldLink RX1 37 "GossipMembership$Knowledge" "lastUnquietRound" "I", Cond.methodLink RX4 99 yX2_countUp, Cond.instanceMethod yX2_countUp, Cond.selects RX2 yX2_countUp yX2_countUp, Cond.initialized RX2, Cond.code yX2_countUp cX2_countUp 3 (some .int), Cond.fieldLink RX2 9 "GossipMembership$Network" "up" "[Z", Cond.methodLink RX4 256 yX4_join, Cond.instanceMethod yX4_join, Cond.selects RX4 yX4_join yX4_join]
def wsX4_runText_r4 : List Cond := [Cond.code yX4_join cX4_join 3 (some .int), Cond.fieldLink RX4 93 "GossipMembership$Knowledge" "ownIncarnation" "[I", Cond.methodLink RX4 80 yX2_wouldConnect, Cond.instanceMethod yX2_wouldConnect, Cond.selects RX2 yX2_wouldConnect yX2_wouldConnect, Cond.code yX2_wouldConnect cX2_wouldConnect 3 (some .boolean), Cond.fieldLink RX2 18 "GossipMembership$Network" "place" "[I", Cond.fieldLink RX2 22 "GossipMembership$Network" "cutLinks" "[Z", Cond.static yX4_pair, Cond.code yX4_pair cX4_pair 2 (some .int), Cond.methodLink RX4 86 yX3_admit, Cond.instanceMethod yX3_admit, Cond.selects RX3 yX3_admit yX3_admit, Cond.initialized RX3, Cond.code yX3_admit cX3_admit 3 none, Cond.fieldLink RX3 12 "GossipMembership$World" "network" "LGossipMembership$Network;", Cond.fieldLink RX3 32 "GossipMembership$Network" "up" "[Z", Cond.fieldLink RX3 36 "GossipMembership$Network" "everUp" "[Z", Cond.fieldLink RX3 21 "GossipMembership$World" "knowledge" "LGossipMembership$Knowledge;", Cond.fieldLink RX3 39 "GossipMembership$Knowledge" "ownIncarnation" "[I", Cond.methodLink RX3 43 yX1_forgetAll, Cond.instanceMethod yX1_forgetAll, Cond.selects RX1 yX1_forgetAll yX1_forgetAll, Cond.code yX1_forgetAll cX1_forgetAll 3 none]
def wsX4_runText_r5 : List Cond := [Cond.fieldLink RX1 15 "GossipMembership$Knowledge" "state" "[I", Cond.fieldLink RX1 18 "GossipMembership$Knowledge" "incarnations" "[I", Cond.fieldLink RX1 24 "GossipMembership$Knowledge" "counters" "[I", Cond.fieldLink RX1 31 "GossipMembership$Knowledge" "fanOut" "I", Cond.methodLink RX3 47 yX2_connects, Cond.instanceMethod yX2_connects, Cond.selects RX2 yX2_connects yX2_connects, Cond.code yX2_connects cX2_connects 3 (some .boolean), Cond.methodLink RX2 25 yX2_wouldConnect, Cond.methodLink RX3 51 yX3_introduce, Cond.instanceMethod yX3_introduce, Cond.selects RX3 yX3_introduce yX3_introduce, Cond.code yX3_introduce cX3_introduce 5 none, Cond.methodLink RX3 55 yX1_toldState, Cond.instanceMethod yX1_toldState, Cond.selects RX1 yX1_toldState yX1_toldState, Cond.code yX1_toldState cX1_toldState 3 (some .int), Cond.methodLink RX3 59 yX1_toldIncarnation, Cond.instanceMethod yX1_toldIncarnation, Cond.selects RX1 yX1_toldIncarnation yX1_toldIncarnation, Cond.code yX1_toldIncarnation cX1_toldIncarnation 3 (some .int), Cond.fieldLink RX1 9 "GossipMembership$Knowledge" "ownIncarnation" "[I", Cond.methodLink RX3 62 yX1_takeIn, Cond.instanceMethod yX1_takeIn]
def wsX4_runText_r6 : List Cond := [Cond.selects RX1 yX1_takeIn yX1_takeIn, Cond.code yX1_takeIn cX1_takeIn 6 (some .boolean), Cond.fieldLink RX1 44 "GossipMembership$Knowledge" "refuted" "I", Cond.methodLink RX1 47 yX1_outweighs, Cond.instanceMethod yX1_outweighs, Cond.selects RX1 yX1_outweighs yX1_outweighs, Cond.code yX1_outweighs cX1_outweighs 4 (some .boolean), Cond.methodLink RX1 51 yX1_replaceView, Cond.instanceMethod yX1_replaceView, Cond.selects RX1 yX1_replaceView yX1_replaceView, Cond.code yX1_replaceView cX1_replaceView 4 none, Cond.fieldLink RX1 21 "GossipMembership$Knowledge" "deadlines" "[I", Cond.fieldLink RX1 27 "GossipMembership$Knowledge" "patience" "I", Cond.methodLink RX1 55 yX1_endQuiet, Cond.methodLink RX4 259 yX4_move, Cond.instanceMethod yX4_move, Cond.selects RX4 yX4_move yX4_move, Cond.code yX4_move cX4_move 4 (some .int), Cond.fieldLink RX4 105 "GossipMembership$Network" "place" "[I", Cond.methodLink RX4 124 yX3_play, Cond.instanceMethod yX3_play, Cond.selects RX3 yX3_play yX3_play, Cond.code yX3_play cX3_play 4 none, Cond.fieldLink RX3 66 "GossipMembership$Knowledge" "presentRound" "I"]
def wsX4_runText_r7 : List Cond := [Cond.methodLink RX3 69 yX3_takeTurn, Cond.instanceMethod yX3_takeTurn, Cond.selects RX3 yX3_takeTurn yX3_takeTurn, Cond.code yX3_takeTurn cX3_takeTurn 3 none, Cond.methodLink RX3 72 yX3_declareOverdue, Cond.instanceMethod yX3_declareOverdue, Cond.selects RX3 yX3_declareOverdue yX3_declareOverdue, Cond.code yX3_declareOverdue cX3_declareOverdue 4 none, Cond.fieldLink RX3 88 "GossipMembership$Knowledge" "deadlines" "[I", Cond.fieldLink RX3 94 "GossipMembership$World" "declared" "I", Cond.fieldLink RX3 97 "GossipMembership$World" "declaredFalsely" "I", Cond.methodLink RX3 75 yX1_nodesInState, Cond.instanceMethod yX1_nodesInState, Cond.selects RX1 yX1_nodesInState yX1_nodesInState, Cond.code yX1_nodesInState cX1_nodesInState 5 (some .int), Cond.methodLink RX3 78 yX3_drawFrom, Cond.instanceMethod yX3_drawFrom, Cond.selects RX3 yX3_drawFrom yX3_drawFrom, Cond.code yX3_drawFrom cX3_drawFrom 5 (some .int), Cond.fieldLink RX3 29 "GossipMembership$World" "drawSeed" "I", Cond.constantLong RX3 105 (1103515245), Cond.constantLong RX3 107 (12345), Cond.constantLong RX3 109 (2147483648), Cond.methodLink RX3 100 yJ6_bitCount_0f7a4]
def wsX4_runText_r8 : List Cond := [Cond.static yJ6_bitCount_0f7a4, Cond.initialized RJ6, Cond.code yJ6_bitCount_0f7a4 cJ6_bitCount_0f7a4 1 (some .int), Cond.constant RJ6 265 (1431655765), Cond.constant RJ6 266 (858993459), Cond.constant RJ6 267 (252645135), Cond.methodLink RX3 82 yX3_send, Cond.instanceMethod yX3_send, Cond.selects RX3 yX3_send yX3_send, Cond.code yX3_send cX3_send 8 none, Cond.fieldLink RX3 114 "GossipMembership$Knowledge" "counters" "[I", Cond.fieldLink RX3 117 "GossipMembership$World" "messagesSent" "I", Cond.methodLink RX3 111 yX1_mostUrgent, Cond.instanceMethod yX1_mostUrgent, Cond.selects RX1 yX1_mostUrgent yX1_mostUrgent, Cond.code yX1_mostUrgent cX1_mostUrgent 7 (some .int), Cond.methodLink RX3 85 yX3_helpersReach, Cond.instanceMethod yX3_helpersReach, Cond.selects RX3 yX3_helpersReach yX3_helpersReach, Cond.code yX3_helpersReach cX3_helpersReach 7 (some .boolean), Cond.fieldLink RX3 25 "GossipMembership$World" "helpers" "I", Cond.methodLink RX4 205 yX0_lengthOfCommand]
def wsX4_runText : List Cond := .code yX4_runText cX4_runText 5 (some .int) :: ((wsX4_runText_r1 ++ (wsX4_runText_r2 ++ (wsX4_runText_r3 ++ (wsX4_runText_r4 ++ (wsX4_runText_r5 ++ (wsX4_runText_r6 ++ (wsX4_runText_r7 ++ wsX4_runText_r8))))))) ++ wsX40 ++ wsX00 ++ wsX30 ++ wsX20 ++ wsX10 ++ (vx_atS RX4 34 "java/lang/IllegalArgumentException" ["java/lang/RuntimeException", "java/lang/Exception"]).filter goodWord ++ (vx_atS RX4 79 "java/lang/IllegalStateException" ["java/lang/RuntimeException", "java/lang/Exception"]).filter goodWord ++ (vx_atM "java/lang/ArrayIndexOutOfBoundsException" ["java/lang/IndexOutOfBoundsException", "java/lang/RuntimeException", "java/lang/Exception"]).filter goodWord ++ (vx_atS RX4 243 "java/lang/IndexOutOfBoundsException" ["java/lang/RuntimeException", "java/lang/Exception"]).filter goodWord ++ (vx_atM "java/lang/ArithmeticException" ["java/lang/RuntimeException", "java/lang/Exception"]).filter goodWord)
def wsX4_failure : List Cond := .code yX4_failure cX4_failure 2 (some .int) :: ([.classLink RX4 30 "java/lang/IllegalArgumentException", .initialized "java/lang/IllegalArgumentException", .classLink RX4 136 "java/util/NoSuchElementException", .initialized "java/util/NoSuchElementException", .fieldLink RX4 26 "GossipMembership" "failureKind" "I", .fieldLink RX4 208 "GossipMembership" "failureNumber" "I"] ++ wsX40 ++ (vx_atS RX4 34 "java/lang/IllegalArgumentException" ["java/lang/RuntimeException", "java/lang/Exception"]).filter goodWord ++ (vx_atS RX4 140 "java/util/NoSuchElementException" ["java/lang/RuntimeException", "java/lang/Exception"]).filter goodWord)
def wsX4_averageCounter : List Cond := .code yX4_averageCounter cX4_averageCounter 2 (some .double) :: ([.fieldLink RX4 10 "GossipMembership" "world" "LGossipMembership$World;", .fieldLink RX4 37 "GossipMembership$World" "knowledge" "LGossipMembership$Knowledge;", .constantDouble RX4 222 (4620693217682128896), .methodLink RX4 61 yX4_requireNode, .static yX4_requireNode, .initialized RX4, .code yX4_requireNode cX4_requireNode 1 none, .classLink RX4 239 "java/lang/IndexOutOfBoundsException", .initialized "java/lang/IndexOutOfBoundsException", .methodLink RX4 219 yX1_sumOfCounters, .instanceMethod yX1_sumOfCounters, .selects RX1 yX1_sumOfCounters yX1_sumOfCounters, .initialized RX1, .code yX1_sumOfCounters cX1_sumOfCounters 4 (some .int), .fieldLink RX1 24 "GossipMembership$Knowledge" "counters" "[I", .static yX4_pair, .code yX4_pair cX4_pair 2 (some .int)] ++ wsX40 ++ wsX30 ++ wsX10 ++ (vx_atS RX4 243 "java/lang/IndexOutOfBoundsException" ["java/lang/RuntimeException", "java/lang/Exception"]).filter goodWord ++ (vx_atM "java/lang/ArrayIndexOutOfBoundsException" ["java/lang/IndexOutOfBoundsException", "java/lang/RuntimeException", "java/lang/Exception"]).filter goodWord)
def wsX4_falseShare : List Cond := .code yX4_falseShare cX4_falseShare 1 (some .float) :: ([.classLink RX4 224 "java/lang/ArithmeticException", .initialized "java/lang/ArithmeticException", .fieldLink RX4 10 "GossipMembership" "world" "LGossipMembership$World;", .fieldLink RX4 172 "GossipMembership$World" "declared" "I", .fieldLink RX4 175 "GossipMembership$World" "declaredFalsely" "I"] ++ wsX40 ++ wsX30 ++ (vx_atS RX4 228 "java/lang/ArithmeticException" ["java/lang/RuntimeException", "java/lang/Exception"]).filter goodWord)
def wsX4_save_r1 : List Cond := [Cond.fieldLink RX4 16 "GossipMembership" "savedWorld" "LGossipMembership$World;", Cond.fieldLink RX4 10 "GossipMembership" "world" "LGossipMembership$World;", Cond.fieldLink RX4 233 "GossipMembership" "somethingSaved" "Z", Cond.methodLink RX4 229 yX3_copyFrom, Cond.instanceMethod yX3_copyFrom, Cond.selects RX3 yX3_copyFrom yX3_copyFrom, Cond.initialized RX3, Cond.code yX3_copyFrom cX3_copyFrom 2 none, Cond.fieldLink RX3 12 "GossipMembership$World" "network" "LGossipMembership$Network;", Cond.fieldLink RX3 21 "GossipMembership$World" "knowledge" "LGossipMembership$Knowledge;", Cond.fieldLink RX3 25 "GossipMembership$World" "helpers" "I", Cond.fieldLink RX3 29 "GossipMembership$World" "drawSeed" "I", Cond.fieldLink RX3 94 "GossipMembership$World" "declared" "I", Cond.fieldLink RX3 97 "GossipMembership$World" "declaredFalsely" "I", Cond.fieldLink RX3 117 "GossipMembership$World" "messagesSent" "I", Cond.methodLink RX3 129 yX2_copyFrom, Cond.instanceMethod yX2_copyFrom, Cond.selects RX2 yX2_copyFrom yX2_copyFrom, Cond.initialized RX2, Cond.code yX2_copyFrom cX2_copyFrom 3 none, Cond.fieldLink RX2 9 "GossipMembership$Network" "up" "[Z", Cond.fieldLink RX2 15 "GossipMembership$Network" "everUp" "[Z", Cond.fieldLink RX2 18 "GossipMembership$Network" "place" "[I", Cond.fieldLink RX2 22 "GossipMembership$Network" "cutLinks" "[Z"]
def wsX4_save_r2 : List Cond := [Cond.methodLink RX3 133 yX1_copyFrom, Cond.instanceMethod yX1_copyFrom, Cond.selects RX1 yX1_copyFrom yX1_copyFrom, Cond.initialized RX1, Cond.code yX1_copyFrom cX1_copyFrom 2 none, Cond.fieldLink RX1 9 "GossipMembership$Knowledge" "ownIncarnation" "[I", Cond.methodLink RX1 62 arraycopyName, Cond.native arraycopyName, Cond.static arraycopyName, Cond.initialized "java/lang/System", Cond.fieldLink RX1 15 "GossipMembership$Knowledge" "state" "[I", Cond.fieldLink RX1 18 "GossipMembership$Knowledge" "incarnations" "[I", Cond.fieldLink RX1 21 "GossipMembership$Knowledge" "deadlines" "[I", Cond.fieldLink RX1 24 "GossipMembership$Knowledge" "counters" "[I", Cond.fieldLink RX1 27 "GossipMembership$Knowledge" "patience" "I", Cond.fieldLink RX1 31 "GossipMembership$Knowledge" "fanOut" "I", Cond.fieldLink RX1 34 "GossipMembership$Knowledge" "presentRound" "I", Cond.fieldLink RX1 37 "GossipMembership$Knowledge" "lastUnquietRound" "I", Cond.fieldLink RX1 44 "GossipMembership$Knowledge" "refuted" "I"]
def wsX4_save : List Cond := .code yX4_save cX4_save 1 none :: ((wsX4_save_r1 ++ wsX4_save_r2) ++ wsX40 ++ wsX30 ++ wsX20 ++ wsX10 ++ (vx_atM "java/lang/ArrayIndexOutOfBoundsException" ["java/lang/IndexOutOfBoundsException", "java/lang/RuntimeException", "java/lang/Exception"]).filter goodWord)
def wsX4_restore_r1 : List Cond := [Cond.classLink RX4 75 "java/lang/IllegalStateException", Cond.initialized "java/lang/IllegalStateException", Cond.fieldLink RX4 233 "GossipMembership" "somethingSaved" "Z", Cond.fieldLink RX4 10 "GossipMembership" "world" "LGossipMembership$World;", Cond.fieldLink RX4 16 "GossipMembership" "savedWorld" "LGossipMembership$World;", Cond.methodLink RX4 229 yX3_copyFrom, Cond.instanceMethod yX3_copyFrom, Cond.selects RX3 yX3_copyFrom yX3_copyFrom, Cond.initialized RX3, Cond.code yX3_copyFrom cX3_copyFrom 2 none, Cond.fieldLink RX3 12 "GossipMembership$World" "network" "LGossipMembership$Network;", Cond.fieldLink RX3 21 "GossipMembership$World" "knowledge" "LGossipMembership$Knowledge;", Cond.fieldLink RX3 25 "GossipMembership$World" "helpers" "I", Cond.fieldLink RX3 29 "GossipMembership$World" "drawSeed" "I", Cond.fieldLink RX3 94 "GossipMembership$World" "declared" "I", Cond.fieldLink RX3 97 "GossipMembership$World" "declaredFalsely" "I", Cond.fieldLink RX3 117 "GossipMembership$World" "messagesSent" "I", Cond.methodLink RX3 129 yX2_copyFrom, Cond.instanceMethod yX2_copyFrom, Cond.selects RX2 yX2_copyFrom yX2_copyFrom, Cond.initialized RX2, Cond.code yX2_copyFrom cX2_copyFrom 3 none, Cond.fieldLink RX2 9 "GossipMembership$Network" "up" "[Z", Cond.fieldLink RX2 15 "GossipMembership$Network" "everUp" "[Z"]
def wsX4_restore_r2 : List Cond := [Cond.fieldLink RX2 18 "GossipMembership$Network" "place" "[I", Cond.fieldLink RX2 22 "GossipMembership$Network" "cutLinks" "[Z", Cond.methodLink RX3 133 yX1_copyFrom, Cond.instanceMethod yX1_copyFrom, Cond.selects RX1 yX1_copyFrom yX1_copyFrom, Cond.initialized RX1, Cond.code yX1_copyFrom cX1_copyFrom 2 none, Cond.fieldLink RX1 9 "GossipMembership$Knowledge" "ownIncarnation" "[I", Cond.methodLink RX1 62 arraycopyName, Cond.native arraycopyName, Cond.static arraycopyName, Cond.initialized "java/lang/System", Cond.fieldLink RX1 15 "GossipMembership$Knowledge" "state" "[I", Cond.fieldLink RX1 18 "GossipMembership$Knowledge" "incarnations" "[I", Cond.fieldLink RX1 21 "GossipMembership$Knowledge" "deadlines" "[I", Cond.fieldLink RX1 24 "GossipMembership$Knowledge" "counters" "[I", Cond.fieldLink RX1 27 "GossipMembership$Knowledge" "patience" "I", Cond.fieldLink RX1 31 "GossipMembership$Knowledge" "fanOut" "I", Cond.fieldLink RX1 34 "GossipMembership$Knowledge" "presentRound" "I", Cond.fieldLink RX1 37 "GossipMembership$Knowledge" "lastUnquietRound" "I", Cond.fieldLink RX1 44 "GossipMembership$Knowledge" "refuted" "I"]
def wsX4_restore : List Cond := .code yX4_restore cX4_restore 1 none :: ((wsX4_restore_r1 ++ wsX4_restore_r2) ++ wsX40 ++ wsX30 ++ wsX20 ++ wsX10 ++ (vx_atS RX4 79 "java/lang/IllegalStateException" ["java/lang/RuntimeException", "java/lang/Exception"]).filter goodWord ++ (vx_atM "java/lang/ArrayIndexOutOfBoundsException" ["java/lang/IndexOutOfBoundsException", "java/lang/RuntimeException", "java/lang/Exception"]).filter goodWord)
def wsX5_init : List Cond := .code yX5_init cX5_init 1 none :: ([.methodLink RX5 1 objectInit, .instanceMethod objectInit, .code objectInit ⟨#[0xb1]⟩ 1 none, .arrayClass .int, .fieldLink RX5 7 "GossipMembershipModel" "s" "[I", .fieldLink RX5 13 "GossipMembershipModel" "saved" "[I", .fieldLink RX5 16 "GossipMembershipModel" "text" "[I", .fieldLink RX5 19 "GossipMembershipModel" "sent" "[I"] ++ wsX50 ++ (vx_atM "java/lang/ArrayIndexOutOfBoundsException" ["java/lang/IndexOutOfBoundsException", "java/lang/RuntimeException", "java/lang/Exception"]).filter goodWord)
def wsX5_thrown : List Cond := .code yX5_thrown cX5_thrown 1 (some .int) :: ([.fieldLink RX5 22 "GossipMembershipModel" "thrown" "I"] ++ wsX50)
def wsX5_fails : List Cond := .code yX5_fails cX5_fails 2 (some .int) :: ([.fieldLink RX5 22 "GossipMembershipModel" "thrown" "I"] ++ wsX50)
def wsX5_in : List Cond := .code yX5_in cX5_in 3 (some .boolean) :: ([])
def wsX5_isNode : List Cond := .code yX5_isNode cX5_isNode 1 (some .boolean) :: ([.methodLink RX5 26 yX5_in, .static yX5_in, .initialized RX5, .code yX5_in cX5_in 3 (some .boolean)])
def wsX5_pair : List Cond := .code yX5_pair cX5_pair 2 (some .int) :: ([])
def wsX5_areLinked : List Cond := .code yX5_areLinked cX5_areLinked 3 (some .boolean) :: ([.fieldLink RX5 7 "GossipMembershipModel" "s" "[I", .methodLink RX5 34 yX5_pair, .static yX5_pair, .initialized RX5, .code yX5_pair cX5_pair 2 (some .int)] ++ wsX50 ++ (vx_atM "java/lang/ArrayIndexOutOfBoundsException" ["java/lang/IndexOutOfBoundsException", "java/lang/RuntimeException", "java/lang/Exception"]).filter goodWord)
def wsX5_canReach : List Cond := .code yX5_canReach cX5_canReach 3 (some .boolean) :: ([.fieldLink RX5 7 "GossipMembershipModel" "s" "[I", .methodLink RX5 30 yX5_areLinked, .instanceMethod yX5_areLinked, .selects RX5 yX5_areLinked yX5_areLinked, .initialized RX5, .code yX5_areLinked cX5_areLinked 3 (some .boolean), .methodLink RX5 34 yX5_pair, .static yX5_pair, .code yX5_pair cX5_pair 2 (some .int)] ++ wsX50 ++ (vx_atM "java/lang/ArrayIndexOutOfBoundsException" ["java/lang/IndexOutOfBoundsException", "java/lang/RuntimeException", "java/lang/Exception"]).filter goodWord)
def wsX5_changes : List Cond := .code yX5_changes cX5_changes 3 none :: ([.fieldLink RX5 7 "GossipMembershipModel" "s" "[I", .methodLink RX5 34 yX5_pair, .static yX5_pair, .initialized RX5, .code yX5_pair cX5_pair 2 (some .int)] ++ wsX50 ++ (vx_atM "java/lang/ArrayIndexOutOfBoundsException" ["java/lang/IndexOutOfBoundsException", "java/lang/RuntimeException", "java/lang/Exception"]).filter goodWord)
def wsX5_becomes : List Cond := .code yX5_becomes cX5_becomes 6 none :: ([.fieldLink RX5 7 "GossipMembershipModel" "s" "[I", .methodLink RX5 34 yX5_pair, .static yX5_pair, .initialized RX5, .code yX5_pair cX5_pair 2 (some .int), .methodLink RX5 38 yX5_changes, .instanceMethod yX5_changes, .selects RX5 yX5_changes yX5_changes, .code yX5_changes cX5_changes 3 none] ++ wsX50 ++ (vx_atM "java/lang/ArrayIndexOutOfBoundsException" ["java/lang/IndexOutOfBoundsException", "java/lang/RuntimeException", "java/lang/Exception"]).filter goodWord)
def wsX5_refutes : List Cond := .code yX5_refutes cX5_refutes 4 (some .boolean) :: ([.fieldLink RX5 7 "GossipMembershipModel" "s" "[I", .methodLink RX5 38 yX5_changes, .instanceMethod yX5_changes, .selects RX5 yX5_changes yX5_changes, .initialized RX5, .code yX5_changes cX5_changes 3 none, .methodLink RX5 34 yX5_pair, .static yX5_pair, .code yX5_pair cX5_pair 2 (some .int)] ++ wsX50 ++ (vx_atM "java/lang/ArrayIndexOutOfBoundsException" ["java/lang/IndexOutOfBoundsException", "java/lang/RuntimeException", "java/lang/Exception"]).filter goodWord)
def wsX5_takesIn : List Cond := .code yX5_takesIn cX5_takesIn 9 (some .boolean) :: ([.fieldLink RX5 7 "GossipMembershipModel" "s" "[I", .methodLink RX5 42 yX5_refutes, .instanceMethod yX5_refutes, .selects RX5 yX5_refutes yX5_refutes, .initialized RX5, .code yX5_refutes cX5_refutes 4 (some .boolean), .methodLink RX5 38 yX5_changes, .instanceMethod yX5_changes, .selects RX5 yX5_changes yX5_changes, .code yX5_changes cX5_changes 3 none, .methodLink RX5 34 yX5_pair, .static yX5_pair, .code yX5_pair cX5_pair 2 (some .int), .methodLink RX5 45 yX5_becomes, .instanceMethod yX5_becomes, .selects RX5 yX5_becomes yX5_becomes, .code yX5_becomes cX5_becomes 6 none] ++ wsX50 ++ (vx_atM "java/lang/ArrayIndexOutOfBoundsException" ["java/lang/IndexOutOfBoundsException", "java/lang/RuntimeException", "java/lang/Exception"]).filter goodWord)
def wsX5_mostCounted : List Cond := .code yX5_mostCounted cX5_mostCounted 6 (some .int) :: ([.fieldLink RX5 7 "GossipMembershipModel" "s" "[I", .methodLink RX5 34 yX5_pair, .static yX5_pair, .initialized RX5, .code yX5_pair cX5_pair 2 (some .int)] ++ wsX50 ++ (vx_atM "java/lang/ArrayIndexOutOfBoundsException" ["java/lang/IndexOutOfBoundsException", "java/lang/RuntimeException", "java/lang/Exception"]).filter goodWord)
def wsX5_composes : List Cond := .code yX5_composes cX5_composes 7 none :: ([.fieldLink RX5 49 "GossipMembershipModel" "sentMany" "I", .fieldLink RX5 7 "GossipMembershipModel" "s" "[I", .fieldLink RX5 19 "GossipMembershipModel" "sent" "[I", .methodLink RX5 34 yX5_pair, .static yX5_pair, .initialized RX5, .code yX5_pair cX5_pair 2 (some .int), .methodLink RX5 52 yX5_mostCounted, .instanceMethod yX5_mostCounted, .selects RX5 yX5_mostCounted yX5_mostCounted, .code yX5_mostCounted cX5_mostCounted 6 (some .int)] ++ wsX50 ++ (vx_atM "java/lang/ArrayIndexOutOfBoundsException" ["java/lang/IndexOutOfBoundsException", "java/lang/RuntimeException", "java/lang/Exception"]).filter goodWord)
def wsX5_sends_r1 : List Cond := [Cond.fieldLink RX5 7 "GossipMembershipModel" "s" "[I", Cond.fieldLink RX5 49 "GossipMembershipModel" "sentMany" "I", Cond.fieldLink RX5 19 "GossipMembershipModel" "sent" "[I", Cond.methodLink RX5 55 yX5_composes, Cond.instanceMethod yX5_composes, Cond.selects RX5 yX5_composes yX5_composes, Cond.initialized RX5, Cond.code yX5_composes cX5_composes 7 none, Cond.methodLink RX5 34 yX5_pair, Cond.static yX5_pair, Cond.code yX5_pair cX5_pair 2 (some .int), Cond.methodLink RX5 52 yX5_mostCounted, Cond.instanceMethod yX5_mostCounted, Cond.selects RX5 yX5_mostCounted yX5_mostCounted, Cond.code yX5_mostCounted cX5_mostCounted 6 (some .int), Cond.methodLink RX5 58 yX5_takesIn, Cond.instanceMethod yX5_takesIn, Cond.selects RX5 yX5_takesIn yX5_takesIn, Cond.code yX5_takesIn cX5_takesIn 9 (some .boolean), Cond.methodLink RX5 42 yX5_refutes, Cond.instanceMethod yX5_refutes, Cond.selects RX5 yX5_refutes yX5_refutes, Cond.code yX5_refutes cX5_refutes 4 (some .boolean), Cond.methodLink RX5 38 yX5_changes]
def wsX5_sends_r2 : List Cond := [Cond.instanceMethod yX5_changes, Cond.selects RX5 yX5_changes yX5_changes, Cond.code yX5_changes cX5_changes 3 none, Cond.methodLink RX5 45 yX5_becomes, Cond.instanceMethod yX5_becomes, Cond.selects RX5 yX5_becomes yX5_becomes, Cond.code yX5_becomes cX5_becomes 6 none]
def wsX5_sends : List Cond := .code yX5_sends cX5_sends 6 none :: ((wsX5_sends_r1 ++ wsX5_sends_r2) ++ wsX50 ++ (vx_atM "java/lang/ArrayIndexOutOfBoundsException" ["java/lang/IndexOutOfBoundsException", "java/lang/RuntimeException", "java/lang/Exception"]).filter goodWord)
def wsX5_draws : List Cond := .code yX5_draws cX5_draws 4 (some .int) :: ([.fieldLink RX5 7 "GossipMembershipModel" "s" "[I", .constantLong RX5 62 (1103515245), .constantLong RX5 64 (12345), .constantLong RX5 66 (2147483648), .constantLong RX5 68 (256)] ++ wsX50 ++ (vx_atM "java/lang/ArrayIndexOutOfBoundsException" ["java/lang/IndexOutOfBoundsException", "java/lang/RuntimeException", "java/lang/Exception"]).filter goodWord ++ (vx_atM "java/lang/ArithmeticException" ["java/lang/RuntimeException", "java/lang/Exception"]).filter goodWord)
def wsX5_bits : List Cond := .code yX5_bits cX5_bits 3 (some .int) :: ([])
def wsX5_drawn : List Cond := .code yX5_drawn cX5_drawn 4 (some .int) :: ([.methodLink RX5 70 yX5_bits, .static yX5_bits, .initialized RX5, .code yX5_bits cX5_bits 3 (some .int), .methodLink RX5 74 yX5_draws, .instanceMethod yX5_draws, .selects RX5 yX5_draws yX5_draws, .code yX5_draws cX5_draws 4 (some .int), .fieldLink RX5 7 "GossipMembershipModel" "s" "[I", .constantLong RX5 62 (1103515245), .constantLong RX5 64 (12345), .constantLong RX5 66 (2147483648), .constantLong RX5 68 (256)] ++ wsX50 ++ (vx_atM "java/lang/ArrayIndexOutOfBoundsException" ["java/lang/IndexOutOfBoundsException", "java/lang/RuntimeException", "java/lang/Exception"]).filter goodWord ++ (vx_atM "java/lang/ArithmeticException" ["java/lang/RuntimeException", "java/lang/Exception"]).filter goodWord)
def wsX5_viewed : List Cond := .code yX5_viewed cX5_viewed 6 (some .int) :: ([.fieldLink RX5 7 "GossipMembershipModel" "s" "[I", .methodLink RX5 34 yX5_pair, .static yX5_pair, .initialized RX5, .code yX5_pair cX5_pair 2 (some .int), .methodLink RX5 26 yX5_in, .static yX5_in, .code yX5_in cX5_in 3 (some .boolean)] ++ wsX50 ++ (vx_atM "java/lang/ArrayIndexOutOfBoundsException" ["java/lang/IndexOutOfBoundsException", "java/lang/RuntimeException", "java/lang/Exception"]).filter goodWord)
def wsX5_declares : List Cond := .code yX5_declares cX5_declares 4 none :: ([.fieldLink RX5 7 "GossipMembershipModel" "s" "[I", .methodLink RX5 34 yX5_pair, .static yX5_pair, .initialized RX5, .code yX5_pair cX5_pair 2 (some .int), .methodLink RX5 45 yX5_becomes, .instanceMethod yX5_becomes, .selects RX5 yX5_becomes yX5_becomes, .code yX5_becomes cX5_becomes 6 none, .methodLink RX5 38 yX5_changes, .instanceMethod yX5_changes, .selects RX5 yX5_changes yX5_changes, .code yX5_changes cX5_changes 3 none, .methodLink RX5 77 yX5_canReach, .instanceMethod yX5_canReach, .selects RX5 yX5_canReach yX5_canReach, .code yX5_canReach cX5_canReach 3 (some .boolean), .methodLink RX5 30 yX5_areLinked, .instanceMethod yX5_areLinked, .selects RX5 yX5_areLinked yX5_areLinked, .code yX5_areLinked cX5_areLinked 3 (some .boolean)] ++ wsX50 ++ (vx_atM "java/lang/ArrayIndexOutOfBoundsException" ["java/lang/IndexOutOfBoundsException", "java/lang/RuntimeException", "java/lang/Exception"]).filter goodWord)
def wsX5_isHelped_r1 : List Cond := [Cond.fieldLink RX5 7 "GossipMembershipModel" "s" "[I", Cond.methodLink RX5 80 yX5_viewed, Cond.instanceMethod yX5_viewed, Cond.selects RX5 yX5_viewed yX5_viewed, Cond.initialized RX5, Cond.code yX5_viewed cX5_viewed 6 (some .int), Cond.methodLink RX5 34 yX5_pair, Cond.static yX5_pair, Cond.code yX5_pair cX5_pair 2 (some .int), Cond.methodLink RX5 26 yX5_in, Cond.static yX5_in, Cond.code yX5_in cX5_in 3 (some .boolean), Cond.methodLink RX5 84 yX5_drawn, Cond.instanceMethod yX5_drawn, Cond.selects RX5 yX5_drawn yX5_drawn, Cond.code yX5_drawn cX5_drawn 4 (some .int), Cond.methodLink RX5 70 yX5_bits, Cond.static yX5_bits, Cond.code yX5_bits cX5_bits 3 (some .int), Cond.methodLink RX5 74 yX5_draws, Cond.instanceMethod yX5_draws, Cond.selects RX5 yX5_draws yX5_draws, Cond.code yX5_draws cX5_draws 4 (some .int), Cond.constantLong RX5 62 (1103515245)]
def wsX5_isHelped_r2 : List Cond := [Cond.constantLong RX5 64 (12345), Cond.constantLong RX5 66 (2147483648), Cond.constantLong RX5 68 (256), Cond.methodLink RX5 77 yX5_canReach, Cond.instanceMethod yX5_canReach, Cond.selects RX5 yX5_canReach yX5_canReach, Cond.code yX5_canReach cX5_canReach 3 (some .boolean), Cond.methodLink RX5 30 yX5_areLinked, Cond.instanceMethod yX5_areLinked, Cond.selects RX5 yX5_areLinked yX5_areLinked, Cond.code yX5_areLinked cX5_areLinked 3 (some .boolean)]
def wsX5_isHelped : List Cond := .code yX5_isHelped cX5_isHelped 7 (some .boolean) :: ((wsX5_isHelped_r1 ++ wsX5_isHelped_r2) ++ wsX50 ++ (vx_atM "java/lang/ArrayIndexOutOfBoundsException" ["java/lang/IndexOutOfBoundsException", "java/lang/RuntimeException", "java/lang/Exception"]).filter goodWord ++ (vx_atM "java/lang/ArithmeticException" ["java/lang/RuntimeException", "java/lang/Exception"]).filter goodWord)
def wsX5_turns_r1 : List Cond := [Cond.fieldLink RX5 7 "GossipMembershipModel" "s" "[I", Cond.methodLink RX5 87 yX5_declares, Cond.instanceMethod yX5_declares, Cond.selects RX5 yX5_declares yX5_declares, Cond.initialized RX5, Cond.code yX5_declares cX5_declares 4 none, Cond.methodLink RX5 34 yX5_pair, Cond.static yX5_pair, Cond.code yX5_pair cX5_pair 2 (some .int), Cond.methodLink RX5 45 yX5_becomes, Cond.instanceMethod yX5_becomes, Cond.selects RX5 yX5_becomes yX5_becomes, Cond.code yX5_becomes cX5_becomes 6 none, Cond.methodLink RX5 38 yX5_changes, Cond.instanceMethod yX5_changes, Cond.selects RX5 yX5_changes yX5_changes, Cond.code yX5_changes cX5_changes 3 none, Cond.methodLink RX5 77 yX5_canReach, Cond.instanceMethod yX5_canReach, Cond.selects RX5 yX5_canReach yX5_canReach, Cond.code yX5_canReach cX5_canReach 3 (some .boolean), Cond.methodLink RX5 30 yX5_areLinked, Cond.instanceMethod yX5_areLinked, Cond.selects RX5 yX5_areLinked yX5_areLinked]
def wsX5_turns_r2 : List Cond := [Cond.code yX5_areLinked cX5_areLinked 3 (some .boolean), Cond.methodLink RX5 80 yX5_viewed, Cond.instanceMethod yX5_viewed, Cond.selects RX5 yX5_viewed yX5_viewed, Cond.code yX5_viewed cX5_viewed 6 (some .int), Cond.methodLink RX5 26 yX5_in, Cond.static yX5_in, Cond.code yX5_in cX5_in 3 (some .boolean), Cond.methodLink RX5 84 yX5_drawn, Cond.instanceMethod yX5_drawn, Cond.selects RX5 yX5_drawn yX5_drawn, Cond.code yX5_drawn cX5_drawn 4 (some .int), Cond.methodLink RX5 70 yX5_bits, Cond.static yX5_bits, Cond.code yX5_bits cX5_bits 3 (some .int), Cond.methodLink RX5 74 yX5_draws, Cond.instanceMethod yX5_draws, Cond.selects RX5 yX5_draws yX5_draws, Cond.code yX5_draws cX5_draws 4 (some .int), Cond.constantLong RX5 62 (1103515245), Cond.constantLong RX5 64 (12345), Cond.constantLong RX5 66 (2147483648), Cond.constantLong RX5 68 (256), Cond.methodLink RX5 91 yX5_sends]
def wsX5_turns_r3 : List Cond := [Cond.instanceMethod yX5_sends, Cond.selects RX5 yX5_sends yX5_sends, Cond.code yX5_sends cX5_sends 6 none, Cond.fieldLink RX5 49 "GossipMembershipModel" "sentMany" "I", Cond.fieldLink RX5 19 "GossipMembershipModel" "sent" "[I", Cond.methodLink RX5 55 yX5_composes, Cond.instanceMethod yX5_composes, Cond.selects RX5 yX5_composes yX5_composes, Cond.code yX5_composes cX5_composes 7 none, Cond.methodLink RX5 52 yX5_mostCounted, Cond.instanceMethod yX5_mostCounted, Cond.selects RX5 yX5_mostCounted yX5_mostCounted, Cond.code yX5_mostCounted cX5_mostCounted 6 (some .int), Cond.methodLink RX5 58 yX5_takesIn, Cond.instanceMethod yX5_takesIn, Cond.selects RX5 yX5_takesIn yX5_takesIn, Cond.code yX5_takesIn cX5_takesIn 9 (some .boolean), Cond.methodLink RX5 42 yX5_refutes, Cond.instanceMethod yX5_refutes, Cond.selects RX5 yX5_refutes yX5_refutes, Cond.code yX5_refutes cX5_refutes 4 (some .boolean), Cond.methodLink RX5 94 yX5_isHelped, Cond.instanceMethod yX5_isHelped, Cond.selects RX5 yX5_isHelped yX5_isHelped]
def wsX5_turns_r4 : List Cond := [Cond.code yX5_isHelped cX5_isHelped 7 (some .boolean)]
def wsX5_turns : List Cond := .code yX5_turns cX5_turns 4 none :: ((wsX5_turns_r1 ++ (wsX5_turns_r2 ++ (wsX5_turns_r3 ++ wsX5_turns_r4))) ++ wsX50 ++ (vx_atM "java/lang/ArrayIndexOutOfBoundsException" ["java/lang/IndexOutOfBoundsException", "java/lang/RuntimeException", "java/lang/Exception"]).filter goodWord ++ (vx_atM "java/lang/ArithmeticException" ["java/lang/RuntimeException", "java/lang/Exception"]).filter goodWord)
def wsX5_round1_r1 : List Cond := [Cond.fieldLink RX5 7 "GossipMembershipModel" "s" "[I", Cond.methodLink RX5 97 yX5_turns, Cond.instanceMethod yX5_turns, Cond.selects RX5 yX5_turns yX5_turns, Cond.initialized RX5, Cond.code yX5_turns cX5_turns 4 none, Cond.methodLink RX5 87 yX5_declares, Cond.instanceMethod yX5_declares, Cond.selects RX5 yX5_declares yX5_declares, Cond.code yX5_declares cX5_declares 4 none, Cond.methodLink RX5 34 yX5_pair, Cond.static yX5_pair, Cond.code yX5_pair cX5_pair 2 (some .int), Cond.methodLink RX5 45 yX5_becomes, Cond.instanceMethod yX5_becomes, Cond.selects RX5 yX5_becomes yX5_becomes, Cond.code yX5_becomes cX5_becomes 6 none, Cond.methodLink RX5 38 yX5_changes, Cond.instanceMethod yX5_changes, Cond.selects RX5 yX5_changes yX5_changes, Cond.code yX5_changes cX5_changes 3 none, Cond.methodLink RX5 77 yX5_canReach, Cond.instanceMethod yX5_canReach, Cond.selects RX5 yX5_canReach yX5_canReach]
def wsX5_round1_r2 : List Cond := [Cond.code yX5_canReach cX5_canReach 3 (some .boolean), Cond.methodLink RX5 30 yX5_areLinked, Cond.instanceMethod yX5_areLinked, Cond.selects RX5 yX5_areLinked yX5_areLinked, Cond.code yX5_areLinked cX5_areLinked 3 (some .boolean), Cond.methodLink RX5 80 yX5_viewed, Cond.instanceMethod yX5_viewed, Cond.selects RX5 yX5_viewed yX5_viewed, Cond.code yX5_viewed cX5_viewed 6 (some .int), Cond.methodLink RX5 26 yX5_in, Cond.static yX5_in, Cond.code yX5_in cX5_in 3 (some .boolean), Cond.methodLink RX5 84 yX5_drawn, Cond.instanceMethod yX5_drawn, Cond.selects RX5 yX5_drawn yX5_drawn, Cond.code yX5_drawn cX5_drawn 4 (some .int), Cond.methodLink RX5 70 yX5_bits, Cond.static yX5_bits, Cond.code yX5_bits cX5_bits 3 (some .int), Cond.methodLink RX5 74 yX5_draws, Cond.instanceMethod yX5_draws, Cond.selects RX5 yX5_draws yX5_draws, Cond.code yX5_draws cX5_draws 4 (some .int), Cond.constantLong RX5 62 (1103515245)]
def wsX5_round1_r3 : List Cond := [Cond.constantLong RX5 64 (12345), Cond.constantLong RX5 66 (2147483648), Cond.constantLong RX5 68 (256), Cond.methodLink RX5 91 yX5_sends, Cond.instanceMethod yX5_sends, Cond.selects RX5 yX5_sends yX5_sends, Cond.code yX5_sends cX5_sends 6 none, Cond.fieldLink RX5 49 "GossipMembershipModel" "sentMany" "I", Cond.fieldLink RX5 19 "GossipMembershipModel" "sent" "[I", Cond.methodLink RX5 55 yX5_composes, Cond.instanceMethod yX5_composes, Cond.selects RX5 yX5_composes yX5_composes, Cond.code yX5_composes cX5_composes 7 none, Cond.methodLink RX5 52 yX5_mostCounted, Cond.instanceMethod yX5_mostCounted, Cond.selects RX5 yX5_mostCounted yX5_mostCounted, Cond.code yX5_mostCounted cX5_mostCounted 6 (some .int), Cond.methodLink RX5 58 yX5_takesIn, Cond.instanceMethod yX5_takesIn, Cond.selects RX5 yX5_takesIn yX5_takesIn, Cond.code yX5_takesIn cX5_takesIn 9 (some .boolean), Cond.methodLink RX5 42 yX5_refutes, Cond.instanceMethod yX5_refutes, Cond.selects RX5 yX5_refutes yX5_refutes]
def wsX5_round1_r4 : List Cond := [Cond.code yX5_refutes cX5_refutes 4 (some .boolean), Cond.methodLink RX5 94 yX5_isHelped, Cond.instanceMethod yX5_isHelped, Cond.selects RX5 yX5_isHelped yX5_isHelped, Cond.code yX5_isHelped cX5_isHelped 7 (some .boolean)]
def wsX5_round1 : List Cond := .code yX5_round1 cX5_round1 2 none :: ((wsX5_round1_r1 ++ (wsX5_round1_r2 ++ (wsX5_round1_r3 ++ wsX5_round1_r4))) ++ wsX50 ++ (vx_atM "java/lang/ArrayIndexOutOfBoundsException" ["java/lang/IndexOutOfBoundsException", "java/lang/RuntimeException", "java/lang/Exception"]).filter goodWord ++ (vx_atM "java/lang/ArithmeticException" ["java/lang/RuntimeException", "java/lang/Exception"]).filter goodWord)
def wsX5_sets : List Cond := .code yX5_sets cX5_sets 6 (some .int) :: ([.fieldLink RX5 22 "GossipMembershipModel" "thrown" "I", .fieldLink RX5 7 "GossipMembershipModel" "s" "[I", .methodLink RX5 26 yX5_in, .static yX5_in, .initialized RX5, .code yX5_in cX5_in 3 (some .boolean), .methodLink RX5 100 yX5_fails, .instanceMethod yX5_fails, .selects RX5 yX5_fails yX5_fails, .code yX5_fails cX5_fails 2 (some .int)] ++ wsX50 ++ (vx_atM "java/lang/ArrayIndexOutOfBoundsException" ["java/lang/IndexOutOfBoundsException", "java/lang/RuntimeException", "java/lang/Exception"]).filter goodWord)
def wsX5_setPatience : List Cond := .code yX5_setPatience cX5_setPatience 2 (some .int) :: ([.methodLink RX5 103 yX5_sets, .instanceMethod yX5_sets, .selects RX5 yX5_sets yX5_sets, .initialized RX5, .code yX5_sets cX5_sets 6 (some .int), .fieldLink RX5 22 "GossipMembershipModel" "thrown" "I", .fieldLink RX5 7 "GossipMembershipModel" "s" "[I", .methodLink RX5 26 yX5_in, .static yX5_in, .code yX5_in cX5_in 3 (some .boolean), .methodLink RX5 100 yX5_fails, .instanceMethod yX5_fails, .selects RX5 yX5_fails yX5_fails, .code yX5_fails cX5_fails 2 (some .int)] ++ wsX50 ++ (vx_atM "java/lang/ArrayIndexOutOfBoundsException" ["java/lang/IndexOutOfBoundsException", "java/lang/RuntimeException", "java/lang/Exception"]).filter goodWord)
def wsX5_setFanOut : List Cond := .code yX5_setFanOut cX5_setFanOut 2 (some .int) :: ([.methodLink RX5 103 yX5_sets, .instanceMethod yX5_sets, .selects RX5 yX5_sets yX5_sets, .initialized RX5, .code yX5_sets cX5_sets 6 (some .int), .fieldLink RX5 22 "GossipMembershipModel" "thrown" "I", .fieldLink RX5 7 "GossipMembershipModel" "s" "[I", .methodLink RX5 26 yX5_in, .static yX5_in, .code yX5_in cX5_in 3 (some .boolean), .methodLink RX5 100 yX5_fails, .instanceMethod yX5_fails, .selects RX5 yX5_fails yX5_fails, .code yX5_fails cX5_fails 2 (some .int)] ++ wsX50 ++ (vx_atM "java/lang/ArrayIndexOutOfBoundsException" ["java/lang/IndexOutOfBoundsException", "java/lang/RuntimeException", "java/lang/Exception"]).filter goodWord)
def wsX5_setHelpers : List Cond := .code yX5_setHelpers cX5_setHelpers 2 (some .int) :: ([.methodLink RX5 103 yX5_sets, .instanceMethod yX5_sets, .selects RX5 yX5_sets yX5_sets, .initialized RX5, .code yX5_sets cX5_sets 6 (some .int), .fieldLink RX5 22 "GossipMembershipModel" "thrown" "I", .fieldLink RX5 7 "GossipMembershipModel" "s" "[I", .methodLink RX5 26 yX5_in, .static yX5_in, .code yX5_in cX5_in 3 (some .boolean), .methodLink RX5 100 yX5_fails, .instanceMethod yX5_fails, .selects RX5 yX5_fails yX5_fails, .code yX5_fails cX5_fails 2 (some .int)] ++ wsX50 ++ (vx_atM "java/lang/ArrayIndexOutOfBoundsException" ["java/lang/IndexOutOfBoundsException", "java/lang/RuntimeException", "java/lang/Exception"]).filter goodWord)
def wsX5_setSeed : List Cond := .code yX5_setSeed cX5_setSeed 2 (some .int) :: ([.constant RX5 107 (2147483647), .methodLink RX5 103 yX5_sets, .instanceMethod yX5_sets, .selects RX5 yX5_sets yX5_sets, .initialized RX5, .code yX5_sets cX5_sets 6 (some .int), .fieldLink RX5 22 "GossipMembershipModel" "thrown" "I", .fieldLink RX5 7 "GossipMembershipModel" "s" "[I", .methodLink RX5 26 yX5_in, .static yX5_in, .code yX5_in cX5_in 3 (some .boolean), .methodLink RX5 100 yX5_fails, .instanceMethod yX5_fails, .selects RX5 yX5_fails yX5_fails, .code yX5_fails cX5_fails 2 (some .int)] ++ wsX50 ++ (vx_atM "java/lang/ArrayIndexOutOfBoundsException" ["java/lang/IndexOutOfBoundsException", "java/lang/RuntimeException", "java/lang/Exception"]).filter goodWord)
def wsX5_seed : List Cond := .code yX5_seed cX5_seed 1 (some .int) :: ([.fieldLink RX5 22 "GossipMembershipModel" "thrown" "I", .fieldLink RX5 7 "GossipMembershipModel" "s" "[I"] ++ wsX50 ++ (vx_atM "java/lang/ArrayIndexOutOfBoundsException" ["java/lang/IndexOutOfBoundsException", "java/lang/RuntimeException", "java/lang/Exception"]).filter goodWord)
def wsX5_greets : List Cond := .code yX5_greets cX5_greets 5 none :: ([.fieldLink RX5 7 "GossipMembershipModel" "s" "[I", .methodLink RX5 34 yX5_pair, .static yX5_pair, .initialized RX5, .code yX5_pair cX5_pair 2 (some .int), .methodLink RX5 58 yX5_takesIn, .instanceMethod yX5_takesIn, .selects RX5 yX5_takesIn yX5_takesIn, .code yX5_takesIn cX5_takesIn 9 (some .boolean), .methodLink RX5 42 yX5_refutes, .instanceMethod yX5_refutes, .selects RX5 yX5_refutes yX5_refutes, .code yX5_refutes cX5_refutes 4 (some .boolean), .methodLink RX5 38 yX5_changes, .instanceMethod yX5_changes, .selects RX5 yX5_changes yX5_changes, .code yX5_changes cX5_changes 3 none, .methodLink RX5 45 yX5_becomes, .instanceMethod yX5_becomes, .selects RX5 yX5_becomes yX5_becomes, .code yX5_becomes cX5_becomes 6 none] ++ wsX50 ++ (vx_atM "java/lang/ArrayIndexOutOfBoundsException" ["java/lang/IndexOutOfBoundsException", "java/lang/RuntimeException", "java/lang/Exception"]).filter goodWord)
def wsX5_join_r1 : List Cond := [Cond.fieldLink RX5 22 "GossipMembershipModel" "thrown" "I", Cond.fieldLink RX5 7 "GossipMembershipModel" "s" "[I", Cond.methodLink RX5 108 yX5_isNode, Cond.static yX5_isNode, Cond.initialized RX5, Cond.code yX5_isNode cX5_isNode 1 (some .boolean), Cond.methodLink RX5 26 yX5_in, Cond.static yX5_in, Cond.code yX5_in cX5_in 3 (some .boolean), Cond.methodLink RX5 100 yX5_fails, Cond.instanceMethod yX5_fails, Cond.selects RX5 yX5_fails yX5_fails, Cond.code yX5_fails cX5_fails 2 (some .int), Cond.methodLink RX5 30 yX5_areLinked, Cond.instanceMethod yX5_areLinked, Cond.selects RX5 yX5_areLinked yX5_areLinked, Cond.code yX5_areLinked cX5_areLinked 3 (some .boolean), Cond.methodLink RX5 34 yX5_pair, Cond.static yX5_pair, Cond.code yX5_pair cX5_pair 2 (some .int), Cond.methodLink RX5 38 yX5_changes, Cond.instanceMethod yX5_changes, Cond.selects RX5 yX5_changes yX5_changes, Cond.code yX5_changes cX5_changes 3 none]
def wsX5_join_r2 : List Cond := [Cond.methodLink RX5 112 yX5_greets, Cond.instanceMethod yX5_greets, Cond.selects RX5 yX5_greets yX5_greets, Cond.code yX5_greets cX5_greets 5 none, Cond.methodLink RX5 58 yX5_takesIn, Cond.instanceMethod yX5_takesIn, Cond.selects RX5 yX5_takesIn yX5_takesIn, Cond.code yX5_takesIn cX5_takesIn 9 (some .boolean), Cond.methodLink RX5 42 yX5_refutes, Cond.instanceMethod yX5_refutes, Cond.selects RX5 yX5_refutes yX5_refutes, Cond.code yX5_refutes cX5_refutes 4 (some .boolean), Cond.methodLink RX5 45 yX5_becomes, Cond.instanceMethod yX5_becomes, Cond.selects RX5 yX5_becomes yX5_becomes, Cond.code yX5_becomes cX5_becomes 6 none]
def wsX5_join : List Cond := .code yX5_join cX5_join 4 (some .int) :: ((wsX5_join_r1 ++ wsX5_join_r2) ++ wsX50 ++ (vx_atM "java/lang/ArrayIndexOutOfBoundsException" ["java/lang/IndexOutOfBoundsException", "java/lang/RuntimeException", "java/lang/Exception"]).filter goodWord)
def wsX5_crash : List Cond := .code yX5_crash cX5_crash 4 (some .int) :: ([.fieldLink RX5 22 "GossipMembershipModel" "thrown" "I", .fieldLink RX5 7 "GossipMembershipModel" "s" "[I", .methodLink RX5 108 yX5_isNode, .static yX5_isNode, .initialized RX5, .code yX5_isNode cX5_isNode 1 (some .boolean), .methodLink RX5 26 yX5_in, .static yX5_in, .code yX5_in cX5_in 3 (some .boolean), .methodLink RX5 100 yX5_fails, .instanceMethod yX5_fails, .selects RX5 yX5_fails yX5_fails, .code yX5_fails cX5_fails 2 (some .int)] ++ wsX50 ++ (vx_atM "java/lang/ArrayIndexOutOfBoundsException" ["java/lang/IndexOutOfBoundsException", "java/lang/RuntimeException", "java/lang/Exception"]).filter goodWord)
def wsX5_move : List Cond := .code yX5_move cX5_move 4 (some .int) :: ([.fieldLink RX5 22 "GossipMembershipModel" "thrown" "I", .fieldLink RX5 7 "GossipMembershipModel" "s" "[I", .methodLink RX5 108 yX5_isNode, .static yX5_isNode, .initialized RX5, .code yX5_isNode cX5_isNode 1 (some .boolean), .methodLink RX5 26 yX5_in, .static yX5_in, .code yX5_in cX5_in 3 (some .boolean), .methodLink RX5 100 yX5_fails, .instanceMethod yX5_fails, .selects RX5 yX5_fails yX5_fails, .code yX5_fails cX5_fails 2 (some .int)] ++ wsX50 ++ (vx_atM "java/lang/ArrayIndexOutOfBoundsException" ["java/lang/IndexOutOfBoundsException", "java/lang/RuntimeException", "java/lang/Exception"]).filter goodWord)
def wsX5_cut : List Cond := .code yX5_cut cX5_cut 5 (some .boolean) :: ([.fieldLink RX5 22 "GossipMembershipModel" "thrown" "I", .fieldLink RX5 7 "GossipMembershipModel" "s" "[I", .methodLink RX5 108 yX5_isNode, .static yX5_isNode, .initialized RX5, .code yX5_isNode cX5_isNode 1 (some .boolean), .methodLink RX5 26 yX5_in, .static yX5_in, .code yX5_in cX5_in 3 (some .boolean), .methodLink RX5 34 yX5_pair, .static yX5_pair, .code yX5_pair cX5_pair 2 (some .int)] ++ wsX50 ++ (vx_atM "java/lang/ArrayIndexOutOfBoundsException" ["java/lang/IndexOutOfBoundsException", "java/lang/RuntimeException", "java/lang/Exception"]).filter goodWord)
def wsX5_rounds_r1 : List Cond := [Cond.fieldLink RX5 22 "GossipMembershipModel" "thrown" "I", Cond.fieldLink RX5 7 "GossipMembershipModel" "s" "[I", Cond.methodLink RX5 26 yX5_in, Cond.static yX5_in, Cond.initialized RX5, Cond.code yX5_in cX5_in 3 (some .boolean), Cond.methodLink RX5 100 yX5_fails, Cond.instanceMethod yX5_fails, Cond.selects RX5 yX5_fails yX5_fails, Cond.code yX5_fails cX5_fails 2 (some .int), Cond.methodLink RX5 115 yX5_round1, Cond.instanceMethod yX5_round1, Cond.selects RX5 yX5_round1 yX5_round1, Cond.code yX5_round1 cX5_round1 2 none, Cond.methodLink RX5 97 yX5_turns, Cond.instanceMethod yX5_turns, Cond.selects RX5 yX5_turns yX5_turns, Cond.code yX5_turns cX5_turns 4 none, Cond.methodLink RX5 87 yX5_declares, Cond.instanceMethod yX5_declares, Cond.selects RX5 yX5_declares yX5_declares, Cond.code yX5_declares cX5_declares 4 none, Cond.methodLink RX5 34 yX5_pair, Cond.static yX5_pair]
def wsX5_rounds_r2 : List Cond := [Cond.code yX5_pair cX5_pair 2 (some .int), Cond.methodLink RX5 45 yX5_becomes, Cond.instanceMethod yX5_becomes, Cond.selects RX5 yX5_becomes yX5_becomes, Cond.code yX5_becomes cX5_becomes 6 none, Cond.methodLink RX5 38 yX5_changes, Cond.instanceMethod yX5_changes, Cond.selects RX5 yX5_changes yX5_changes, Cond.code yX5_changes cX5_changes 3 none, Cond.methodLink RX5 77 yX5_canReach, Cond.instanceMethod yX5_canReach, Cond.selects RX5 yX5_canReach yX5_canReach, Cond.code yX5_canReach cX5_canReach 3 (some .boolean), Cond.methodLink RX5 30 yX5_areLinked, Cond.instanceMethod yX5_areLinked, Cond.selects RX5 yX5_areLinked yX5_areLinked, Cond.code yX5_areLinked cX5_areLinked 3 (some .boolean), Cond.methodLink RX5 80 yX5_viewed, Cond.instanceMethod yX5_viewed, Cond.selects RX5 yX5_viewed yX5_viewed, Cond.code yX5_viewed cX5_viewed 6 (some .int), Cond.methodLink RX5 84 yX5_drawn, Cond.instanceMethod yX5_drawn, Cond.selects RX5 yX5_drawn yX5_drawn]
def wsX5_rounds_r3 : List Cond := [Cond.code yX5_drawn cX5_drawn 4 (some .int), Cond.methodLink RX5 70 yX5_bits, Cond.static yX5_bits, Cond.code yX5_bits cX5_bits 3 (some .int), Cond.methodLink RX5 74 yX5_draws, Cond.instanceMethod yX5_draws, Cond.selects RX5 yX5_draws yX5_draws, Cond.code yX5_draws cX5_draws 4 (some .int), Cond.constantLong RX5 62 (1103515245), Cond.constantLong RX5 64 (12345), Cond.constantLong RX5 66 (2147483648), Cond.constantLong RX5 68 (256), Cond.methodLink RX5 91 yX5_sends, Cond.instanceMethod yX5_sends, Cond.selects RX5 yX5_sends yX5_sends, Cond.code yX5_sends cX5_sends 6 none, Cond.fieldLink RX5 49 "GossipMembershipModel" "sentMany" "I", Cond.fieldLink RX5 19 "GossipMembershipModel" "sent" "[I", Cond.methodLink RX5 55 yX5_composes, Cond.instanceMethod yX5_composes, Cond.selects RX5 yX5_composes yX5_composes, Cond.code yX5_composes cX5_composes 7 none, Cond.methodLink RX5 52 yX5_mostCounted, Cond.instanceMethod yX5_mostCounted]
def wsX5_rounds_r4 : List Cond := [Cond.selects RX5 yX5_mostCounted yX5_mostCounted, Cond.code yX5_mostCounted cX5_mostCounted 6 (some .int), Cond.methodLink RX5 58 yX5_takesIn, Cond.instanceMethod yX5_takesIn, Cond.selects RX5 yX5_takesIn yX5_takesIn, Cond.code yX5_takesIn cX5_takesIn 9 (some .boolean), Cond.methodLink RX5 42 yX5_refutes, Cond.instanceMethod yX5_refutes, Cond.selects RX5 yX5_refutes yX5_refutes, Cond.code yX5_refutes cX5_refutes 4 (some .boolean), Cond.methodLink RX5 94 yX5_isHelped, Cond.instanceMethod yX5_isHelped, Cond.selects RX5 yX5_isHelped yX5_isHelped, Cond.code yX5_isHelped cX5_isHelped 7 (some .boolean)]
def wsX5_rounds : List Cond := .code yX5_rounds cX5_rounds 3 (some .int) :: ((wsX5_rounds_r1 ++ (wsX5_rounds_r2 ++ (wsX5_rounds_r3 ++ wsX5_rounds_r4))) ++ wsX50 ++ (vx_atM "java/lang/ArrayIndexOutOfBoundsException" ["java/lang/IndexOutOfBoundsException", "java/lang/RuntimeException", "java/lang/Exception"]).filter goodWord ++ (vx_atM "java/lang/ArithmeticException" ["java/lang/RuntimeException", "java/lang/Exception"]).filter goodWord)
def wsX5_differences : List Cond := .code yX5_differences cX5_differences 6 (some .int) :: ([.fieldLink RX5 7 "GossipMembershipModel" "s" "[I", .methodLink RX5 34 yX5_pair, .static yX5_pair, .initialized RX5, .code yX5_pair cX5_pair 2 (some .int)] ++ wsX50 ++ (vx_atM "java/lang/ArrayIndexOutOfBoundsException" ["java/lang/IndexOutOfBoundsException", "java/lang/RuntimeException", "java/lang/Exception"]).filter goodWord)
def wsX5_allDifferences : List Cond := .code yX5_allDifferences cX5_allDifferences 4 (some .int) :: ([.methodLink RX5 77 yX5_canReach, .instanceMethod yX5_canReach, .selects RX5 yX5_canReach yX5_canReach, .initialized RX5, .code yX5_canReach cX5_canReach 3 (some .boolean), .fieldLink RX5 7 "GossipMembershipModel" "s" "[I", .methodLink RX5 30 yX5_areLinked, .instanceMethod yX5_areLinked, .selects RX5 yX5_areLinked yX5_areLinked, .code yX5_areLinked cX5_areLinked 3 (some .boolean), .methodLink RX5 34 yX5_pair, .static yX5_pair, .code yX5_pair cX5_pair 2 (some .int), .methodLink RX5 125 yX5_differences, .instanceMethod yX5_differences, .selects RX5 yX5_differences yX5_differences, .code yX5_differences cX5_differences 6 (some .int)] ++ wsX50 ++ (vx_atM "java/lang/ArrayIndexOutOfBoundsException" ["java/lang/IndexOutOfBoundsException", "java/lang/RuntimeException", "java/lang/Exception"]).filter goodWord)
def wsX5_knows : List Cond := .code yX5_knows cX5_knows 3 (some .boolean) :: ([.fieldLink RX5 7 "GossipMembershipModel" "s" "[I", .methodLink RX5 34 yX5_pair, .static yX5_pair, .initialized RX5, .code yX5_pair cX5_pair 2 (some .int)] ++ wsX50 ++ (vx_atM "java/lang/ArrayIndexOutOfBoundsException" ["java/lang/IndexOutOfBoundsException", "java/lang/RuntimeException", "java/lang/Exception"]).filter goodWord)
def wsX5_doAgree_r1 : List Cond := [Cond.methodLink RX5 128 yX5_allDifferences, Cond.instanceMethod yX5_allDifferences, Cond.selects RX5 yX5_allDifferences yX5_allDifferences, Cond.initialized RX5, Cond.code yX5_allDifferences cX5_allDifferences 4 (some .int), Cond.methodLink RX5 77 yX5_canReach, Cond.instanceMethod yX5_canReach, Cond.selects RX5 yX5_canReach yX5_canReach, Cond.code yX5_canReach cX5_canReach 3 (some .boolean), Cond.fieldLink RX5 7 "GossipMembershipModel" "s" "[I", Cond.methodLink RX5 30 yX5_areLinked, Cond.instanceMethod yX5_areLinked, Cond.selects RX5 yX5_areLinked yX5_areLinked, Cond.code yX5_areLinked cX5_areLinked 3 (some .boolean), Cond.methodLink RX5 34 yX5_pair, Cond.static yX5_pair, Cond.code yX5_pair cX5_pair 2 (some .int), Cond.methodLink RX5 125 yX5_differences, Cond.instanceMethod yX5_differences, Cond.selects RX5 yX5_differences yX5_differences, Cond.code yX5_differences cX5_differences 6 (some .int), Cond.methodLink RX5 132 yX5_knows, Cond.instanceMethod yX5_knows, Cond.selects RX5 yX5_knows yX5_knows]
def wsX5_doAgree_r2 : List Cond := [Cond.code yX5_knows cX5_knows 3 (some .boolean)]
def wsX5_doAgree : List Cond := .code yX5_doAgree cX5_doAgree 4 (some .boolean) :: ((wsX5_doAgree_r1 ++ wsX5_doAgree_r2) ++ wsX50 ++ (vx_atM "java/lang/ArrayIndexOutOfBoundsException" ["java/lang/IndexOutOfBoundsException", "java/lang/RuntimeException", "java/lang/Exception"]).filter goodWord)
def wsX5_roundsUntilAgreement_r1 : List Cond := [Cond.fieldLink RX5 22 "GossipMembershipModel" "thrown" "I", Cond.methodLink RX5 26 yX5_in, Cond.static yX5_in, Cond.initialized RX5, Cond.code yX5_in cX5_in 3 (some .boolean), Cond.methodLink RX5 100 yX5_fails, Cond.instanceMethod yX5_fails, Cond.selects RX5 yX5_fails yX5_fails, Cond.code yX5_fails cX5_fails 2 (some .int), Cond.methodLink RX5 118 yX5_doAgree, Cond.instanceMethod yX5_doAgree, Cond.selects RX5 yX5_doAgree yX5_doAgree, Cond.code yX5_doAgree cX5_doAgree 4 (some .boolean), Cond.methodLink RX5 128 yX5_allDifferences, Cond.instanceMethod yX5_allDifferences, Cond.selects RX5 yX5_allDifferences yX5_allDifferences, Cond.code yX5_allDifferences cX5_allDifferences 4 (some .int), Cond.methodLink RX5 77 yX5_canReach, Cond.instanceMethod yX5_canReach, Cond.selects RX5 yX5_canReach yX5_canReach, Cond.code yX5_canReach cX5_canReach 3 (some .boolean), Cond.fieldLink RX5 7 "GossipMembershipModel" "s" "[I", Cond.methodLink RX5 30 yX5_areLinked, Cond.instanceMethod yX5_areLinked]
def wsX5_roundsUntilAgreement_r2 : List Cond := [Cond.selects RX5 yX5_areLinked yX5_areLinked, Cond.code yX5_areLinked cX5_areLinked 3 (some .boolean), Cond.methodLink RX5 34 yX5_pair, Cond.static yX5_pair, Cond.code yX5_pair cX5_pair 2 (some .int), Cond.methodLink RX5 125 yX5_differences, Cond.instanceMethod yX5_differences, Cond.selects RX5 yX5_differences yX5_differences, Cond.code yX5_differences cX5_differences 6 (some .int), Cond.methodLink RX5 132 yX5_knows, Cond.instanceMethod yX5_knows, Cond.selects RX5 yX5_knows yX5_knows, Cond.code yX5_knows cX5_knows 3 (some .boolean), Cond.methodLink RX5 115 yX5_round1, Cond.instanceMethod yX5_round1, Cond.selects RX5 yX5_round1 yX5_round1, Cond.code yX5_round1 cX5_round1 2 none, Cond.methodLink RX5 97 yX5_turns, Cond.instanceMethod yX5_turns, Cond.selects RX5 yX5_turns yX5_turns, Cond.code yX5_turns cX5_turns 4 none, Cond.methodLink RX5 87 yX5_declares, Cond.instanceMethod yX5_declares, Cond.selects RX5 yX5_declares yX5_declares]
def wsX5_roundsUntilAgreement_r3 : List Cond := [Cond.code yX5_declares cX5_declares 4 none, Cond.methodLink RX5 45 yX5_becomes, Cond.instanceMethod yX5_becomes, Cond.selects RX5 yX5_becomes yX5_becomes, Cond.code yX5_becomes cX5_becomes 6 none, Cond.methodLink RX5 38 yX5_changes, Cond.instanceMethod yX5_changes, Cond.selects RX5 yX5_changes yX5_changes, Cond.code yX5_changes cX5_changes 3 none, Cond.methodLink RX5 80 yX5_viewed, Cond.instanceMethod yX5_viewed, Cond.selects RX5 yX5_viewed yX5_viewed, Cond.code yX5_viewed cX5_viewed 6 (some .int), Cond.methodLink RX5 84 yX5_drawn, Cond.instanceMethod yX5_drawn, Cond.selects RX5 yX5_drawn yX5_drawn, Cond.code yX5_drawn cX5_drawn 4 (some .int), Cond.methodLink RX5 70 yX5_bits, Cond.static yX5_bits, Cond.code yX5_bits cX5_bits 3 (some .int), Cond.methodLink RX5 74 yX5_draws, Cond.instanceMethod yX5_draws, Cond.selects RX5 yX5_draws yX5_draws, Cond.code yX5_draws cX5_draws 4 (some .int)]
def wsX5_roundsUntilAgreement_r4 : List Cond := [Cond.constantLong RX5 62 (1103515245), Cond.constantLong RX5 64 (12345), Cond.constantLong RX5 66 (2147483648), Cond.constantLong RX5 68 (256), Cond.methodLink RX5 91 yX5_sends, Cond.instanceMethod yX5_sends, Cond.selects RX5 yX5_sends yX5_sends, Cond.code yX5_sends cX5_sends 6 none, Cond.fieldLink RX5 49 "GossipMembershipModel" "sentMany" "I", Cond.fieldLink RX5 19 "GossipMembershipModel" "sent" "[I", Cond.methodLink RX5 55 yX5_composes, Cond.instanceMethod yX5_composes, Cond.selects RX5 yX5_composes yX5_composes, Cond.code yX5_composes cX5_composes 7 none, Cond.methodLink RX5 52 yX5_mostCounted, Cond.instanceMethod yX5_mostCounted, Cond.selects RX5 yX5_mostCounted yX5_mostCounted, Cond.code yX5_mostCounted cX5_mostCounted 6 (some .int), Cond.methodLink RX5 58 yX5_takesIn, Cond.instanceMethod yX5_takesIn, Cond.selects RX5 yX5_takesIn yX5_takesIn, Cond.code yX5_takesIn cX5_takesIn 9 (some .boolean), Cond.methodLink RX5 42 yX5_refutes, Cond.instanceMethod yX5_refutes]
def wsX5_roundsUntilAgreement_r5 : List Cond := [Cond.selects RX5 yX5_refutes yX5_refutes, Cond.code yX5_refutes cX5_refutes 4 (some .boolean), Cond.methodLink RX5 94 yX5_isHelped, Cond.instanceMethod yX5_isHelped, Cond.selects RX5 yX5_isHelped yX5_isHelped, Cond.code yX5_isHelped cX5_isHelped 7 (some .boolean)]
def wsX5_roundsUntilAgreement : List Cond := .code yX5_roundsUntilAgreement cX5_roundsUntilAgreement 3 (some .int) :: ((wsX5_roundsUntilAgreement_r1 ++ (wsX5_roundsUntilAgreement_r2 ++ (wsX5_roundsUntilAgreement_r3 ++ (wsX5_roundsUntilAgreement_r4 ++ wsX5_roundsUntilAgreement_r5)))) ++ wsX50 ++ (vx_atM "java/lang/ArrayIndexOutOfBoundsException" ["java/lang/IndexOutOfBoundsException", "java/lang/RuntimeException", "java/lang/Exception"]).filter goodWord ++ (vx_atM "java/lang/ArithmeticException" ["java/lang/RuntimeException", "java/lang/Exception"]).filter goodWord)
def wsX5_round : List Cond := .code yX5_round cX5_round 1 (some .int) :: ([.fieldLink RX5 22 "GossipMembershipModel" "thrown" "I", .fieldLink RX5 7 "GossipMembershipModel" "s" "[I"] ++ wsX50 ++ (vx_atM "java/lang/ArrayIndexOutOfBoundsException" ["java/lang/IndexOutOfBoundsException", "java/lang/RuntimeException", "java/lang/Exception"]).filter goodWord)
def wsX5_isUp : List Cond := .code yX5_isUp cX5_isUp 2 (some .boolean) :: ([.fieldLink RX5 22 "GossipMembershipModel" "thrown" "I", .fieldLink RX5 7 "GossipMembershipModel" "s" "[I", .methodLink RX5 108 yX5_isNode, .static yX5_isNode, .initialized RX5, .code yX5_isNode cX5_isNode 1 (some .boolean), .methodLink RX5 26 yX5_in, .static yX5_in, .code yX5_in cX5_in 3 (some .boolean)] ++ wsX50 ++ (vx_atM "java/lang/ArrayIndexOutOfBoundsException" ["java/lang/IndexOutOfBoundsException", "java/lang/RuntimeException", "java/lang/Exception"]).filter goodWord)
def wsX5_partition : List Cond := .code yX5_partition cX5_partition 2 (some .int) :: ([.fieldLink RX5 22 "GossipMembershipModel" "thrown" "I", .fieldLink RX5 7 "GossipMembershipModel" "s" "[I", .methodLink RX5 108 yX5_isNode, .static yX5_isNode, .initialized RX5, .code yX5_isNode cX5_isNode 1 (some .boolean), .methodLink RX5 26 yX5_in, .static yX5_in, .code yX5_in cX5_in 3 (some .boolean), .methodLink RX5 100 yX5_fails, .instanceMethod yX5_fails, .selects RX5 yX5_fails yX5_fails, .code yX5_fails cX5_fails 2 (some .int)] ++ wsX50 ++ (vx_atM "java/lang/ArrayIndexOutOfBoundsException" ["java/lang/IndexOutOfBoundsException", "java/lang/RuntimeException", "java/lang/Exception"]).filter goodWord)
def wsX5_incarnation : List Cond := .code yX5_incarnation cX5_incarnation 2 (some .int) :: ([.fieldLink RX5 22 "GossipMembershipModel" "thrown" "I", .fieldLink RX5 7 "GossipMembershipModel" "s" "[I", .methodLink RX5 108 yX5_isNode, .static yX5_isNode, .initialized RX5, .code yX5_isNode cX5_isNode 1 (some .boolean), .methodLink RX5 26 yX5_in, .static yX5_in, .code yX5_in cX5_in 3 (some .boolean), .methodLink RX5 100 yX5_fails, .instanceMethod yX5_fails, .selects RX5 yX5_fails yX5_fails, .code yX5_fails cX5_fails 2 (some .int)] ++ wsX50 ++ (vx_atM "java/lang/ArrayIndexOutOfBoundsException" ["java/lang/IndexOutOfBoundsException", "java/lang/RuntimeException", "java/lang/Exception"]).filter goodWord)
def wsX5_reaches : List Cond := .code yX5_reaches cX5_reaches 3 (some .boolean) :: ([.fieldLink RX5 22 "GossipMembershipModel" "thrown" "I", .methodLink RX5 108 yX5_isNode, .static yX5_isNode, .initialized RX5, .code yX5_isNode cX5_isNode 1 (some .boolean), .methodLink RX5 26 yX5_in, .static yX5_in, .code yX5_in cX5_in 3 (some .boolean), .methodLink RX5 77 yX5_canReach, .instanceMethod yX5_canReach, .selects RX5 yX5_canReach yX5_canReach, .code yX5_canReach cX5_canReach 3 (some .boolean), .fieldLink RX5 7 "GossipMembershipModel" "s" "[I", .methodLink RX5 30 yX5_areLinked, .instanceMethod yX5_areLinked, .selects RX5 yX5_areLinked yX5_areLinked, .code yX5_areLinked cX5_areLinked 3 (some .boolean), .methodLink RX5 34 yX5_pair, .static yX5_pair, .code yX5_pair cX5_pair 2 (some .int)] ++ wsX50 ++ (vx_atM "java/lang/ArrayIndexOutOfBoundsException" ["java/lang/IndexOutOfBoundsException", "java/lang/RuntimeException", "java/lang/Exception"]).filter goodWord)
def wsX5_viewRefusal : List Cond := .code yX5_viewRefusal cX5_viewRefusal 3 (some .int) :: ([.fieldLink RX5 22 "GossipMembershipModel" "thrown" "I", .methodLink RX5 108 yX5_isNode, .static yX5_isNode, .initialized RX5, .code yX5_isNode cX5_isNode 1 (some .boolean), .methodLink RX5 26 yX5_in, .static yX5_in, .code yX5_in cX5_in 3 (some .boolean)] ++ wsX50)
def wsX5_view : List Cond := .code yX5_view cX5_view 3 (some .int) :: ([.fieldLink RX5 7 "GossipMembershipModel" "s" "[I", .methodLink RX5 122 yX5_viewRefusal, .instanceMethod yX5_viewRefusal, .selects RX5 yX5_viewRefusal yX5_viewRefusal, .initialized RX5, .code yX5_viewRefusal cX5_viewRefusal 3 (some .int), .fieldLink RX5 22 "GossipMembershipModel" "thrown" "I", .methodLink RX5 108 yX5_isNode, .static yX5_isNode, .code yX5_isNode cX5_isNode 1 (some .boolean), .methodLink RX5 26 yX5_in, .static yX5_in, .code yX5_in cX5_in 3 (some .boolean), .methodLink RX5 34 yX5_pair, .static yX5_pair, .code yX5_pair cX5_pair 2 (some .int)] ++ wsX50 ++ (vx_atM "java/lang/ArrayIndexOutOfBoundsException" ["java/lang/IndexOutOfBoundsException", "java/lang/RuntimeException", "java/lang/Exception"]).filter goodWord)
def wsX5_viewIncarnation : List Cond := .code yX5_viewIncarnation cX5_viewIncarnation 3 (some .int) :: ([.fieldLink RX5 7 "GossipMembershipModel" "s" "[I", .methodLink RX5 122 yX5_viewRefusal, .instanceMethod yX5_viewRefusal, .selects RX5 yX5_viewRefusal yX5_viewRefusal, .initialized RX5, .code yX5_viewRefusal cX5_viewRefusal 3 (some .int), .fieldLink RX5 22 "GossipMembershipModel" "thrown" "I", .methodLink RX5 108 yX5_isNode, .static yX5_isNode, .code yX5_isNode cX5_isNode 1 (some .boolean), .methodLink RX5 26 yX5_in, .static yX5_in, .code yX5_in cX5_in 3 (some .boolean), .methodLink RX5 34 yX5_pair, .static yX5_pair, .code yX5_pair cX5_pair 2 (some .int)] ++ wsX50 ++ (vx_atM "java/lang/ArrayIndexOutOfBoundsException" ["java/lang/IndexOutOfBoundsException", "java/lang/RuntimeException", "java/lang/Exception"]).filter goodWord)
def wsX5_deadline : List Cond := .code yX5_deadline cX5_deadline 3 (some .int) :: ([.fieldLink RX5 7 "GossipMembershipModel" "s" "[I", .methodLink RX5 122 yX5_viewRefusal, .instanceMethod yX5_viewRefusal, .selects RX5 yX5_viewRefusal yX5_viewRefusal, .initialized RX5, .code yX5_viewRefusal cX5_viewRefusal 3 (some .int), .fieldLink RX5 22 "GossipMembershipModel" "thrown" "I", .methodLink RX5 108 yX5_isNode, .static yX5_isNode, .code yX5_isNode cX5_isNode 1 (some .boolean), .methodLink RX5 26 yX5_in, .static yX5_in, .code yX5_in cX5_in 3 (some .boolean), .methodLink RX5 34 yX5_pair, .static yX5_pair, .code yX5_pair cX5_pair 2 (some .int), .methodLink RX5 100 yX5_fails, .instanceMethod yX5_fails, .selects RX5 yX5_fails yX5_fails, .code yX5_fails cX5_fails 2 (some .int)] ++ wsX50 ++ (vx_atM "java/lang/ArrayIndexOutOfBoundsException" ["java/lang/IndexOutOfBoundsException", "java/lang/RuntimeException", "java/lang/Exception"]).filter goodWord)
def wsX5_counter : List Cond := .code yX5_counter cX5_counter 3 (some .int) :: ([.fieldLink RX5 22 "GossipMembershipModel" "thrown" "I", .fieldLink RX5 7 "GossipMembershipModel" "s" "[I", .methodLink RX5 108 yX5_isNode, .static yX5_isNode, .initialized RX5, .code yX5_isNode cX5_isNode 1 (some .boolean), .methodLink RX5 26 yX5_in, .static yX5_in, .code yX5_in cX5_in 3 (some .boolean), .methodLink RX5 34 yX5_pair, .static yX5_pair, .code yX5_pair cX5_pair 2 (some .int), .methodLink RX5 100 yX5_fails, .instanceMethod yX5_fails, .selects RX5 yX5_fails yX5_fails, .code yX5_fails cX5_fails 2 (some .int)] ++ wsX50 ++ (vx_atM "java/lang/ArrayIndexOutOfBoundsException" ["java/lang/IndexOutOfBoundsException", "java/lang/RuntimeException", "java/lang/Exception"]).filter goodWord)
def wsX5_tell_r1 : List Cond := [Cond.fieldLink RX5 22 "GossipMembershipModel" "thrown" "I", Cond.fieldLink RX5 7 "GossipMembershipModel" "s" "[I", Cond.methodLink RX5 108 yX5_isNode, Cond.static yX5_isNode, Cond.initialized RX5, Cond.code yX5_isNode cX5_isNode 1 (some .boolean), Cond.methodLink RX5 26 yX5_in, Cond.static yX5_in, Cond.code yX5_in cX5_in 3 (some .boolean), Cond.methodLink RX5 58 yX5_takesIn, Cond.instanceMethod yX5_takesIn, Cond.selects RX5 yX5_takesIn yX5_takesIn, Cond.code yX5_takesIn cX5_takesIn 9 (some .boolean), Cond.methodLink RX5 42 yX5_refutes, Cond.instanceMethod yX5_refutes, Cond.selects RX5 yX5_refutes yX5_refutes, Cond.code yX5_refutes cX5_refutes 4 (some .boolean), Cond.methodLink RX5 38 yX5_changes, Cond.instanceMethod yX5_changes, Cond.selects RX5 yX5_changes yX5_changes, Cond.code yX5_changes cX5_changes 3 none, Cond.methodLink RX5 34 yX5_pair, Cond.static yX5_pair, Cond.code yX5_pair cX5_pair 2 (some .int)]
def wsX5_tell_r2 : List Cond := [Cond.methodLink RX5 45 yX5_becomes, Cond.instanceMethod yX5_becomes, Cond.selects RX5 yX5_becomes yX5_becomes, Cond.code yX5_becomes cX5_becomes 6 none]
def wsX5_tell : List Cond := .code yX5_tell cX5_tell 5 (some .boolean) :: ((wsX5_tell_r1 ++ wsX5_tell_r2) ++ wsX50 ++ (vx_atM "java/lang/ArrayIndexOutOfBoundsException" ["java/lang/IndexOutOfBoundsException", "java/lang/RuntimeException", "java/lang/Exception"]).filter goodWord)
def wsX5_alive : List Cond := .code yX5_alive cX5_alive 2 (some .int) :: ([.fieldLink RX5 22 "GossipMembershipModel" "thrown" "I", .methodLink RX5 108 yX5_isNode, .static yX5_isNode, .initialized RX5, .code yX5_isNode cX5_isNode 1 (some .boolean), .methodLink RX5 26 yX5_in, .static yX5_in, .code yX5_in cX5_in 3 (some .boolean), .methodLink RX5 80 yX5_viewed, .instanceMethod yX5_viewed, .selects RX5 yX5_viewed yX5_viewed, .code yX5_viewed cX5_viewed 6 (some .int), .fieldLink RX5 7 "GossipMembershipModel" "s" "[I", .methodLink RX5 34 yX5_pair, .static yX5_pair, .code yX5_pair cX5_pair 2 (some .int), .methodLink RX5 100 yX5_fails, .instanceMethod yX5_fails, .selects RX5 yX5_fails yX5_fails, .code yX5_fails cX5_fails 2 (some .int)] ++ wsX50 ++ (vx_atM "java/lang/ArrayIndexOutOfBoundsException" ["java/lang/IndexOutOfBoundsException", "java/lang/RuntimeException", "java/lang/Exception"]).filter goodWord)
def wsX5_agree_r1 : List Cond := [Cond.fieldLink RX5 22 "GossipMembershipModel" "thrown" "I", Cond.methodLink RX5 118 yX5_doAgree, Cond.instanceMethod yX5_doAgree, Cond.selects RX5 yX5_doAgree yX5_doAgree, Cond.initialized RX5, Cond.code yX5_doAgree cX5_doAgree 4 (some .boolean), Cond.methodLink RX5 128 yX5_allDifferences, Cond.instanceMethod yX5_allDifferences, Cond.selects RX5 yX5_allDifferences yX5_allDifferences, Cond.code yX5_allDifferences cX5_allDifferences 4 (some .int), Cond.methodLink RX5 77 yX5_canReach, Cond.instanceMethod yX5_canReach, Cond.selects RX5 yX5_canReach yX5_canReach, Cond.code yX5_canReach cX5_canReach 3 (some .boolean), Cond.fieldLink RX5 7 "GossipMembershipModel" "s" "[I", Cond.methodLink RX5 30 yX5_areLinked, Cond.instanceMethod yX5_areLinked, Cond.selects RX5 yX5_areLinked yX5_areLinked, Cond.code yX5_areLinked cX5_areLinked 3 (some .boolean), Cond.methodLink RX5 34 yX5_pair, Cond.static yX5_pair, Cond.code yX5_pair cX5_pair 2 (some .int), Cond.methodLink RX5 125 yX5_differences, Cond.instanceMethod yX5_differences]
def wsX5_agree_r2 : List Cond := [Cond.selects RX5 yX5_differences yX5_differences, Cond.code yX5_differences cX5_differences 6 (some .int), Cond.methodLink RX5 132 yX5_knows, Cond.instanceMethod yX5_knows, Cond.selects RX5 yX5_knows yX5_knows, Cond.code yX5_knows cX5_knows 3 (some .boolean)]
def wsX5_agree : List Cond := .code yX5_agree cX5_agree 1 (some .boolean) :: ((wsX5_agree_r1 ++ wsX5_agree_r2) ++ wsX50 ++ (vx_atM "java/lang/ArrayIndexOutOfBoundsException" ["java/lang/IndexOutOfBoundsException", "java/lang/RuntimeException", "java/lang/Exception"]).filter goodWord)
def wsX5_disagreements : List Cond := .code yX5_disagreements cX5_disagreements 1 (some .int) :: ([.fieldLink RX5 22 "GossipMembershipModel" "thrown" "I", .methodLink RX5 128 yX5_allDifferences, .instanceMethod yX5_allDifferences, .selects RX5 yX5_allDifferences yX5_allDifferences, .initialized RX5, .code yX5_allDifferences cX5_allDifferences 4 (some .int), .methodLink RX5 77 yX5_canReach, .instanceMethod yX5_canReach, .selects RX5 yX5_canReach yX5_canReach, .code yX5_canReach cX5_canReach 3 (some .boolean), .fieldLink RX5 7 "GossipMembershipModel" "s" "[I", .methodLink RX5 30 yX5_areLinked, .instanceMethod yX5_areLinked, .selects RX5 yX5_areLinked yX5_areLinked, .code yX5_areLinked cX5_areLinked 3 (some .boolean), .methodLink RX5 34 yX5_pair, .static yX5_pair, .code yX5_pair cX5_pair 2 (some .int), .methodLink RX5 125 yX5_differences, .instanceMethod yX5_differences, .selects RX5 yX5_differences yX5_differences, .code yX5_differences cX5_differences 6 (some .int)] ++ wsX50 ++ (vx_atM "java/lang/ArrayIndexOutOfBoundsException" ["java/lang/IndexOutOfBoundsException", "java/lang/RuntimeException", "java/lang/Exception"]).filter goodWord)
def wsX5_plain : List Cond := .code yX5_plain cX5_plain 2 (some .int) :: ([.fieldLink RX5 22 "GossipMembershipModel" "thrown" "I", .fieldLink RX5 7 "GossipMembershipModel" "s" "[I"] ++ wsX50 ++ (vx_atM "java/lang/ArrayIndexOutOfBoundsException" ["java/lang/IndexOutOfBoundsException", "java/lang/RuntimeException", "java/lang/Exception"]).filter goodWord)
def wsX5_declarations : List Cond := .code yX5_declarations cX5_declarations 1 (some .int) :: ([.methodLink RX5 135 yX5_plain, .instanceMethod yX5_plain, .selects RX5 yX5_plain yX5_plain, .initialized RX5, .code yX5_plain cX5_plain 2 (some .int), .fieldLink RX5 22 "GossipMembershipModel" "thrown" "I", .fieldLink RX5 7 "GossipMembershipModel" "s" "[I"] ++ wsX50 ++ (vx_atM "java/lang/ArrayIndexOutOfBoundsException" ["java/lang/IndexOutOfBoundsException", "java/lang/RuntimeException", "java/lang/Exception"]).filter goodWord)
def wsX5_falseDeclarations : List Cond := .code yX5_falseDeclarations cX5_falseDeclarations 1 (some .int) :: ([.methodLink RX5 135 yX5_plain, .instanceMethod yX5_plain, .selects RX5 yX5_plain yX5_plain, .initialized RX5, .code yX5_plain cX5_plain 2 (some .int), .fieldLink RX5 22 "GossipMembershipModel" "thrown" "I", .fieldLink RX5 7 "GossipMembershipModel" "s" "[I"] ++ wsX50 ++ (vx_atM "java/lang/ArrayIndexOutOfBoundsException" ["java/lang/IndexOutOfBoundsException", "java/lang/RuntimeException", "java/lang/Exception"]).filter goodWord)
def wsX5_refutations : List Cond := .code yX5_refutations cX5_refutations 1 (some .int) :: ([.methodLink RX5 135 yX5_plain, .instanceMethod yX5_plain, .selects RX5 yX5_plain yX5_plain, .initialized RX5, .code yX5_plain cX5_plain 2 (some .int), .fieldLink RX5 22 "GossipMembershipModel" "thrown" "I", .fieldLink RX5 7 "GossipMembershipModel" "s" "[I"] ++ wsX50 ++ (vx_atM "java/lang/ArrayIndexOutOfBoundsException" ["java/lang/IndexOutOfBoundsException", "java/lang/RuntimeException", "java/lang/Exception"]).filter goodWord)
def wsX5_messages : List Cond := .code yX5_messages cX5_messages 1 (some .int) :: ([.methodLink RX5 135 yX5_plain, .instanceMethod yX5_plain, .selects RX5 yX5_plain yX5_plain, .initialized RX5, .code yX5_plain cX5_plain 2 (some .int), .fieldLink RX5 22 "GossipMembershipModel" "thrown" "I", .fieldLink RX5 7 "GossipMembershipModel" "s" "[I"] ++ wsX50 ++ (vx_atM "java/lang/ArrayIndexOutOfBoundsException" ["java/lang/IndexOutOfBoundsException", "java/lang/RuntimeException", "java/lang/Exception"]).filter goodWord)
def wsX5_quietRounds : List Cond := .code yX5_quietRounds cX5_quietRounds 1 (some .int) :: ([.fieldLink RX5 7 "GossipMembershipModel" "s" "[I", .methodLink RX5 135 yX5_plain, .instanceMethod yX5_plain, .selects RX5 yX5_plain yX5_plain, .initialized RX5, .code yX5_plain cX5_plain 2 (some .int), .fieldLink RX5 22 "GossipMembershipModel" "thrown" "I"] ++ wsX50 ++ (vx_atM "java/lang/ArrayIndexOutOfBoundsException" ["java/lang/IndexOutOfBoundsException", "java/lang/RuntimeException", "java/lang/Exception"]).filter goodWord)
def wsX5_appendCharacter : List Cond := .code yX5_appendCharacter cX5_appendCharacter 2 (some .int) :: ([.fieldLink RX5 22 "GossipMembershipModel" "thrown" "I", .fieldLink RX5 138 "GossipMembershipModel" "length" "I", .fieldLink RX5 16 "GossipMembershipModel" "text" "[I", .methodLink RX5 26 yX5_in, .static yX5_in, .initialized RX5, .code yX5_in cX5_in 3 (some .boolean), .methodLink RX5 100 yX5_fails, .instanceMethod yX5_fails, .selects RX5 yX5_fails yX5_fails, .code yX5_fails cX5_fails 2 (some .int)] ++ wsX50 ++ (vx_atM "java/lang/ArrayIndexOutOfBoundsException" ["java/lang/IndexOutOfBoundsException", "java/lang/RuntimeException", "java/lang/Exception"]).filter goodWord)
def wsX5_here : List Cond := .code yX5_here cX5_here 1 (some .int) :: ([.fieldLink RX5 141 "GossipMembershipModel" "spot" "I", .fieldLink RX5 138 "GossipMembershipModel" "length" "I", .fieldLink RX5 16 "GossipMembershipModel" "text" "[I"] ++ wsX50 ++ (vx_atM "java/lang/ArrayIndexOutOfBoundsException" ["java/lang/IndexOutOfBoundsException", "java/lang/RuntimeException", "java/lang/Exception"]).filter goodWord)
def wsX5_digit : List Cond := .code yX5_digit cX5_digit 3 (some .int) :: ([.fieldLink RX5 144 "GossipMembershipModel" "isRead" "Z", .fieldLink RX5 141 "GossipMembershipModel" "spot" "I", .fieldLink RX5 16 "GossipMembershipModel" "text" "[I", .methodLink RX5 148 yX5_here, .instanceMethod yX5_here, .selects RX5 yX5_here yX5_here, .initialized RX5, .code yX5_here cX5_here 1 (some .int), .fieldLink RX5 138 "GossipMembershipModel" "length" "I", .methodLink RX5 26 yX5_in, .static yX5_in, .code yX5_in cX5_in 3 (some .boolean)] ++ wsX50 ++ (vx_atM "java/lang/ArrayIndexOutOfBoundsException" ["java/lang/IndexOutOfBoundsException", "java/lang/RuntimeException", "java/lang/Exception"]).filter goodWord)
def wsX5_does_r1 : List Cond := [Cond.fieldLink RX5 22 "GossipMembershipModel" "thrown" "I", Cond.fieldLink RX5 171 "GossipMembershipModel" "failureKind" "I", Cond.methodLink RX5 159 yX5_crash, Cond.instanceMethod yX5_crash, Cond.selects RX5 yX5_crash yX5_crash, Cond.initialized RX5, Cond.code yX5_crash cX5_crash 4 (some .int), Cond.fieldLink RX5 7 "GossipMembershipModel" "s" "[I", Cond.methodLink RX5 108 yX5_isNode, Cond.static yX5_isNode, Cond.code yX5_isNode cX5_isNode 1 (some .boolean), Cond.methodLink RX5 26 yX5_in, Cond.static yX5_in, Cond.code yX5_in cX5_in 3 (some .boolean), Cond.methodLink RX5 100 yX5_fails, Cond.instanceMethod yX5_fails, Cond.selects RX5 yX5_fails yX5_fails, Cond.code yX5_fails cX5_fails 2 (some .int), Cond.methodLink RX5 162 yX5_join, Cond.instanceMethod yX5_join, Cond.selects RX5 yX5_join yX5_join, Cond.code yX5_join cX5_join 4 (some .int), Cond.methodLink RX5 30 yX5_areLinked, Cond.instanceMethod yX5_areLinked]
def wsX5_does_r2 : List Cond := [Cond.selects RX5 yX5_areLinked yX5_areLinked, Cond.code yX5_areLinked cX5_areLinked 3 (some .boolean), Cond.methodLink RX5 34 yX5_pair, Cond.static yX5_pair, Cond.code yX5_pair cX5_pair 2 (some .int), Cond.methodLink RX5 38 yX5_changes, Cond.instanceMethod yX5_changes, Cond.selects RX5 yX5_changes yX5_changes, Cond.code yX5_changes cX5_changes 3 none, Cond.methodLink RX5 112 yX5_greets, Cond.instanceMethod yX5_greets, Cond.selects RX5 yX5_greets yX5_greets, Cond.code yX5_greets cX5_greets 5 none, Cond.methodLink RX5 58 yX5_takesIn, Cond.instanceMethod yX5_takesIn, Cond.selects RX5 yX5_takesIn yX5_takesIn, Cond.code yX5_takesIn cX5_takesIn 9 (some .boolean), Cond.methodLink RX5 42 yX5_refutes, Cond.instanceMethod yX5_refutes, Cond.selects RX5 yX5_refutes yX5_refutes, Cond.code yX5_refutes cX5_refutes 4 (some .boolean), Cond.methodLink RX5 45 yX5_becomes, Cond.instanceMethod yX5_becomes, Cond.selects RX5 yX5_becomes yX5_becomes]
def wsX5_does_r3 : List Cond := [Cond.code yX5_becomes cX5_becomes 6 none, Cond.methodLink RX5 165 yX5_move, Cond.instanceMethod yX5_move, Cond.selects RX5 yX5_move yX5_move, Cond.code yX5_move cX5_move 4 (some .int), Cond.methodLink RX5 168 yX5_rounds, Cond.instanceMethod yX5_rounds, Cond.selects RX5 yX5_rounds yX5_rounds, Cond.code yX5_rounds cX5_rounds 3 (some .int), Cond.methodLink RX5 115 yX5_round1, Cond.instanceMethod yX5_round1, Cond.selects RX5 yX5_round1 yX5_round1, Cond.code yX5_round1 cX5_round1 2 none, Cond.methodLink RX5 97 yX5_turns, Cond.instanceMethod yX5_turns, Cond.selects RX5 yX5_turns yX5_turns, Cond.code yX5_turns cX5_turns 4 none, Cond.methodLink RX5 87 yX5_declares, Cond.instanceMethod yX5_declares, Cond.selects RX5 yX5_declares yX5_declares, Cond.code yX5_declares cX5_declares 4 none, Cond.methodLink RX5 77 yX5_canReach, Cond.instanceMethod yX5_canReach, Cond.selects RX5 yX5_canReach yX5_canReach]
def wsX5_does_r4 : List Cond := [Cond.code yX5_canReach cX5_canReach 3 (some .boolean), Cond.methodLink RX5 80 yX5_viewed, Cond.instanceMethod yX5_viewed, Cond.selects RX5 yX5_viewed yX5_viewed, Cond.code yX5_viewed cX5_viewed 6 (some .int), Cond.methodLink RX5 84 yX5_drawn, Cond.instanceMethod yX5_drawn, Cond.selects RX5 yX5_drawn yX5_drawn, Cond.code yX5_drawn cX5_drawn 4 (some .int), Cond.methodLink RX5 70 yX5_bits, Cond.static yX5_bits, Cond.code yX5_bits cX5_bits 3 (some .int), Cond.methodLink RX5 74 yX5_draws, Cond.instanceMethod yX5_draws, Cond.selects RX5 yX5_draws yX5_draws, Cond.code yX5_draws cX5_draws 4 (some .int), Cond.constantLong RX5 62 (1103515245), Cond.constantLong RX5 64 (12345), Cond.constantLong RX5 66 (2147483648), Cond.constantLong RX5 68 (256), Cond.methodLink RX5 91 yX5_sends, Cond.instanceMethod yX5_sends, Cond.selects RX5 yX5_sends yX5_sends, Cond.code yX5_sends cX5_sends 6 none]
def wsX5_does_r5 : List Cond := [Cond.fieldLink RX5 49 "GossipMembershipModel" "sentMany" "I", Cond.fieldLink RX5 19 "GossipMembershipModel" "sent" "[I", Cond.methodLink RX5 55 yX5_composes, Cond.instanceMethod yX5_composes, Cond.selects RX5 yX5_composes yX5_composes, Cond.code yX5_composes cX5_composes 7 none, Cond.methodLink RX5 52 yX5_mostCounted, Cond.instanceMethod yX5_mostCounted, Cond.selects RX5 yX5_mostCounted yX5_mostCounted, Cond.code yX5_mostCounted cX5_mostCounted 6 (some .int), Cond.methodLink RX5 94 yX5_isHelped, Cond.instanceMethod yX5_isHelped, Cond.selects RX5 yX5_isHelped yX5_isHelped, Cond.code yX5_isHelped cX5_isHelped 7 (some .boolean)]
def wsX5_does : List Cond := .code yX5_does cX5_does 5 none :: ((wsX5_does_r1 ++ (wsX5_does_r2 ++ (wsX5_does_r3 ++ (wsX5_does_r4 ++ wsX5_does_r5)))) ++ wsX50 ++ (vx_atM "java/lang/ArrayIndexOutOfBoundsException" ["java/lang/IndexOutOfBoundsException", "java/lang/RuntimeException", "java/lang/Exception"]).filter goodWord ++ (vx_atM "java/lang/ArithmeticException" ["java/lang/RuntimeException", "java/lang/Exception"]).filter goodWord)
def wsX5_command_r1 : List Cond := [Cond.fieldLink RX5 144 "GossipMembershipModel" "isRead" "Z", Cond.fieldLink RX5 141 "GossipMembershipModel" "spot" "I", Cond.methodLink RX5 148 yX5_here, Cond.instanceMethod yX5_here, Cond.selects RX5 yX5_here yX5_here, Cond.initialized RX5, Cond.code yX5_here cX5_here 1 (some .int), Cond.fieldLink RX5 138 "GossipMembershipModel" "length" "I", Cond.fieldLink RX5 16 "GossipMembershipModel" "text" "[I", Cond.methodLink RX5 151 yX5_digit, Cond.instanceMethod yX5_digit, Cond.selects RX5 yX5_digit yX5_digit, Cond.code yX5_digit cX5_digit 3 (some .int), Cond.methodLink RX5 26 yX5_in, Cond.static yX5_in, Cond.code yX5_in cX5_in 3 (some .boolean), Cond.methodLink RX5 155 yX5_does, Cond.instanceMethod yX5_does, Cond.selects RX5 yX5_does yX5_does, Cond.code yX5_does cX5_does 5 none, Cond.fieldLink RX5 22 "GossipMembershipModel" "thrown" "I", Cond.fieldLink RX5 171 "GossipMembershipModel" "failureKind" "I", Cond.methodLink RX5 159 yX5_crash, Cond.instanceMethod yX5_crash]
def wsX5_command_r2 : List Cond := [Cond.selects RX5 yX5_crash yX5_crash, Cond.code yX5_crash cX5_crash 4 (some .int), Cond.fieldLink RX5 7 "GossipMembershipModel" "s" "[I", Cond.methodLink RX5 108 yX5_isNode, Cond.static yX5_isNode, Cond.code yX5_isNode cX5_isNode 1 (some .boolean), Cond.methodLink RX5 100 yX5_fails, Cond.instanceMethod yX5_fails, Cond.selects RX5 yX5_fails yX5_fails, Cond.code yX5_fails cX5_fails 2 (some .int), Cond.methodLink RX5 162 yX5_join, Cond.instanceMethod yX5_join, Cond.selects RX5 yX5_join yX5_join, Cond.code yX5_join cX5_join 4 (some .int), Cond.methodLink RX5 30 yX5_areLinked, Cond.instanceMethod yX5_areLinked, Cond.selects RX5 yX5_areLinked yX5_areLinked, Cond.code yX5_areLinked cX5_areLinked 3 (some .boolean), Cond.methodLink RX5 34 yX5_pair, Cond.static yX5_pair, Cond.code yX5_pair cX5_pair 2 (some .int), Cond.methodLink RX5 38 yX5_changes, Cond.instanceMethod yX5_changes, Cond.selects RX5 yX5_changes yX5_changes]
def wsX5_command_r3 : List Cond := [Cond.code yX5_changes cX5_changes 3 none, Cond.methodLink RX5 112 yX5_greets, Cond.instanceMethod yX5_greets, Cond.selects RX5 yX5_greets yX5_greets, Cond.code yX5_greets cX5_greets 5 none, Cond.methodLink RX5 58 yX5_takesIn, Cond.instanceMethod yX5_takesIn, Cond.selects RX5 yX5_takesIn yX5_takesIn, Cond.code yX5_takesIn cX5_takesIn 9 (some .boolean), Cond.methodLink RX5 42 yX5_refutes, Cond.instanceMethod yX5_refutes, Cond.selects RX5 yX5_refutes yX5_refutes, Cond.code yX5_refutes cX5_refutes 4 (some .boolean), Cond.methodLink RX5 45 yX5_becomes, Cond.instanceMethod yX5_becomes, Cond.selects RX5 yX5_becomes yX5_becomes, Cond.code yX5_becomes cX5_becomes 6 none, Cond.methodLink RX5 165 yX5_move, Cond.instanceMethod yX5_move, Cond.selects RX5 yX5_move yX5_move, Cond.code yX5_move cX5_move 4 (some .int), Cond.methodLink RX5 168 yX5_rounds, Cond.instanceMethod yX5_rounds, Cond.selects RX5 yX5_rounds yX5_rounds]
def wsX5_command_r4 : List Cond := [Cond.code yX5_rounds cX5_rounds 3 (some .int), Cond.methodLink RX5 115 yX5_round1, Cond.instanceMethod yX5_round1, Cond.selects RX5 yX5_round1 yX5_round1, Cond.code yX5_round1 cX5_round1 2 none, Cond.methodLink RX5 97 yX5_turns, Cond.instanceMethod yX5_turns, Cond.selects RX5 yX5_turns yX5_turns, Cond.code yX5_turns cX5_turns 4 none, Cond.methodLink RX5 87 yX5_declares, Cond.instanceMethod yX5_declares, Cond.selects RX5 yX5_declares yX5_declares, Cond.code yX5_declares cX5_declares 4 none, Cond.methodLink RX5 77 yX5_canReach, Cond.instanceMethod yX5_canReach, Cond.selects RX5 yX5_canReach yX5_canReach, Cond.code yX5_canReach cX5_canReach 3 (some .boolean), Cond.methodLink RX5 80 yX5_viewed, Cond.instanceMethod yX5_viewed, Cond.selects RX5 yX5_viewed yX5_viewed, Cond.code yX5_viewed cX5_viewed 6 (some .int), Cond.methodLink RX5 84 yX5_drawn, Cond.instanceMethod yX5_drawn, Cond.selects RX5 yX5_drawn yX5_drawn]
def wsX5_command_r5 : List Cond := [Cond.code yX5_drawn cX5_drawn 4 (some .int), Cond.methodLink RX5 70 yX5_bits, Cond.static yX5_bits, Cond.code yX5_bits cX5_bits 3 (some .int), Cond.methodLink RX5 74 yX5_draws, Cond.instanceMethod yX5_draws, Cond.selects RX5 yX5_draws yX5_draws, Cond.code yX5_draws cX5_draws 4 (some .int), Cond.constantLong RX5 62 (1103515245), Cond.constantLong RX5 64 (12345), Cond.constantLong RX5 66 (2147483648), Cond.constantLong RX5 68 (256), Cond.methodLink RX5 91 yX5_sends, Cond.instanceMethod yX5_sends, Cond.selects RX5 yX5_sends yX5_sends, Cond.code yX5_sends cX5_sends 6 none, Cond.fieldLink RX5 49 "GossipMembershipModel" "sentMany" "I", Cond.fieldLink RX5 19 "GossipMembershipModel" "sent" "[I", Cond.methodLink RX5 55 yX5_composes, Cond.instanceMethod yX5_composes, Cond.selects RX5 yX5_composes yX5_composes, Cond.code yX5_composes cX5_composes 7 none, Cond.methodLink RX5 52 yX5_mostCounted, Cond.instanceMethod yX5_mostCounted]
def wsX5_command_r6 : List Cond := [Cond.selects RX5 yX5_mostCounted yX5_mostCounted, Cond.code yX5_mostCounted cX5_mostCounted 6 (some .int), Cond.methodLink RX5 94 yX5_isHelped, Cond.instanceMethod yX5_isHelped, Cond.selects RX5 yX5_isHelped yX5_isHelped, Cond.code yX5_isHelped cX5_isHelped 7 (some .boolean)]
def wsX5_command : List Cond := .code yX5_command cX5_command 5 none :: ((wsX5_command_r1 ++ (wsX5_command_r2 ++ (wsX5_command_r3 ++ (wsX5_command_r4 ++ (wsX5_command_r5 ++ wsX5_command_r6))))) ++ wsX50 ++ (vx_atM "java/lang/ArrayIndexOutOfBoundsException" ["java/lang/IndexOutOfBoundsException", "java/lang/RuntimeException", "java/lang/Exception"]).filter goodWord ++ (vx_atM "java/lang/ArithmeticException" ["java/lang/RuntimeException", "java/lang/Exception"]).filter goodWord)
def wsX5_script_r1 : List Cond := [Cond.fieldLink RX5 141 "GossipMembershipModel" "spot" "I", Cond.fieldLink RX5 144 "GossipMembershipModel" "isRead" "Z", Cond.fieldLink RX5 171 "GossipMembershipModel" "failureKind" "I", Cond.fieldLink RX5 138 "GossipMembershipModel" "length" "I", Cond.methodLink RX5 174 yX5_command, Cond.instanceMethod yX5_command, Cond.selects RX5 yX5_command yX5_command, Cond.initialized RX5, Cond.code yX5_command cX5_command 5 none, Cond.methodLink RX5 148 yX5_here, Cond.instanceMethod yX5_here, Cond.selects RX5 yX5_here yX5_here, Cond.code yX5_here cX5_here 1 (some .int), Cond.fieldLink RX5 16 "GossipMembershipModel" "text" "[I", Cond.methodLink RX5 151 yX5_digit, Cond.instanceMethod yX5_digit, Cond.selects RX5 yX5_digit yX5_digit, Cond.code yX5_digit cX5_digit 3 (some .int), Cond.methodLink RX5 26 yX5_in, Cond.static yX5_in, Cond.code yX5_in cX5_in 3 (some .boolean), Cond.methodLink RX5 155 yX5_does, Cond.instanceMethod yX5_does, Cond.selects RX5 yX5_does yX5_does]
def wsX5_script_r2 : List Cond := [Cond.code yX5_does cX5_does 5 none, Cond.fieldLink RX5 22 "GossipMembershipModel" "thrown" "I", Cond.methodLink RX5 159 yX5_crash, Cond.instanceMethod yX5_crash, Cond.selects RX5 yX5_crash yX5_crash, Cond.code yX5_crash cX5_crash 4 (some .int), Cond.fieldLink RX5 7 "GossipMembershipModel" "s" "[I", Cond.methodLink RX5 108 yX5_isNode, Cond.static yX5_isNode, Cond.code yX5_isNode cX5_isNode 1 (some .boolean), Cond.methodLink RX5 100 yX5_fails, Cond.instanceMethod yX5_fails, Cond.selects RX5 yX5_fails yX5_fails, Cond.code yX5_fails cX5_fails 2 (some .int), Cond.methodLink RX5 162 yX5_join, Cond.instanceMethod yX5_join, Cond.selects RX5 yX5_join yX5_join, Cond.code yX5_join cX5_join 4 (some .int), Cond.methodLink RX5 30 yX5_areLinked, Cond.instanceMethod yX5_areLinked, Cond.selects RX5 yX5_areLinked yX5_areLinked, Cond.code yX5_areLinked cX5_areLinked 3 (some .boolean), Cond.methodLink RX5 34 yX5_pair, Cond.static yX5_pair]
def wsX5_script_r3 : List Cond := [Cond.code yX5_pair cX5_pair 2 (some .int), Cond.methodLink RX5 38 yX5_changes, Cond.instanceMethod yX5_changes, Cond.selects RX5 yX5_changes yX5_changes, Cond.code yX5_changes cX5_changes 3 none, Cond.methodLink RX5 112 yX5_greets, Cond.instanceMethod yX5_greets, Cond.selects RX5 yX5_greets yX5_greets, Cond.code yX5_greets cX5_greets 5 none, Cond.methodLink RX5 58 yX5_takesIn, Cond.instanceMethod yX5_takesIn, Cond.selects RX5 yX5_takesIn yX5_takesIn, Cond.code yX5_takesIn cX5_takesIn 9 (some .boolean), Cond.methodLink RX5 42 yX5_refutes, Cond.instanceMethod yX5_refutes, Cond.selects RX5 yX5_refutes yX5_refutes, Cond.code yX5_refutes cX5_refutes 4 (some .boolean), Cond.methodLink RX5 45 yX5_becomes, Cond.instanceMethod yX5_becomes, Cond.selects RX5 yX5_becomes yX5_becomes, Cond.code yX5_becomes cX5_becomes 6 none, Cond.methodLink RX5 165 yX5_move, Cond.instanceMethod yX5_move, Cond.selects RX5 yX5_move yX5_move]
def wsX5_script_r4 : List Cond := [Cond.code yX5_move cX5_move 4 (some .int), Cond.methodLink RX5 168 yX5_rounds, Cond.instanceMethod yX5_rounds, Cond.selects RX5 yX5_rounds yX5_rounds, Cond.code yX5_rounds cX5_rounds 3 (some .int), Cond.methodLink RX5 115 yX5_round1, Cond.instanceMethod yX5_round1, Cond.selects RX5 yX5_round1 yX5_round1, Cond.code yX5_round1 cX5_round1 2 none, Cond.methodLink RX5 97 yX5_turns, Cond.instanceMethod yX5_turns, Cond.selects RX5 yX5_turns yX5_turns, Cond.code yX5_turns cX5_turns 4 none, Cond.methodLink RX5 87 yX5_declares, Cond.instanceMethod yX5_declares, Cond.selects RX5 yX5_declares yX5_declares, Cond.code yX5_declares cX5_declares 4 none, Cond.methodLink RX5 77 yX5_canReach, Cond.instanceMethod yX5_canReach, Cond.selects RX5 yX5_canReach yX5_canReach, Cond.code yX5_canReach cX5_canReach 3 (some .boolean), Cond.methodLink RX5 80 yX5_viewed, Cond.instanceMethod yX5_viewed, Cond.selects RX5 yX5_viewed yX5_viewed]
def wsX5_script_r5 : List Cond := [Cond.code yX5_viewed cX5_viewed 6 (some .int), Cond.methodLink RX5 84 yX5_drawn, Cond.instanceMethod yX5_drawn, Cond.selects RX5 yX5_drawn yX5_drawn, Cond.code yX5_drawn cX5_drawn 4 (some .int), Cond.methodLink RX5 70 yX5_bits, Cond.static yX5_bits, Cond.code yX5_bits cX5_bits 3 (some .int), Cond.methodLink RX5 74 yX5_draws, Cond.instanceMethod yX5_draws, Cond.selects RX5 yX5_draws yX5_draws, Cond.code yX5_draws cX5_draws 4 (some .int), Cond.constantLong RX5 62 (1103515245), Cond.constantLong RX5 64 (12345), Cond.constantLong RX5 66 (2147483648), Cond.constantLong RX5 68 (256), Cond.methodLink RX5 91 yX5_sends, Cond.instanceMethod yX5_sends, Cond.selects RX5 yX5_sends yX5_sends, Cond.code yX5_sends cX5_sends 6 none, Cond.fieldLink RX5 49 "GossipMembershipModel" "sentMany" "I", Cond.fieldLink RX5 19 "GossipMembershipModel" "sent" "[I", Cond.methodLink RX5 55 yX5_composes, Cond.instanceMethod yX5_composes]
def wsX5_script_r6 : List Cond := [Cond.selects RX5 yX5_composes yX5_composes, Cond.code yX5_composes cX5_composes 7 none, Cond.methodLink RX5 52 yX5_mostCounted, Cond.instanceMethod yX5_mostCounted, Cond.selects RX5 yX5_mostCounted yX5_mostCounted, Cond.code yX5_mostCounted cX5_mostCounted 6 (some .int), Cond.methodLink RX5 94 yX5_isHelped, Cond.instanceMethod yX5_isHelped, Cond.selects RX5 yX5_isHelped yX5_isHelped, Cond.code yX5_isHelped cX5_isHelped 7 (some .boolean)]
def wsX5_script : List Cond := .code yX5_script cX5_script 4 (some .int) :: ((wsX5_script_r1 ++ (wsX5_script_r2 ++ (wsX5_script_r3 ++ (wsX5_script_r4 ++ (wsX5_script_r5 ++ wsX5_script_r6))))) ++ wsX50 ++ (vx_atM "java/lang/ArrayIndexOutOfBoundsException" ["java/lang/IndexOutOfBoundsException", "java/lang/RuntimeException", "java/lang/Exception"]).filter goodWord ++ (vx_atM "java/lang/ArithmeticException" ["java/lang/RuntimeException", "java/lang/Exception"]).filter goodWord)
def wsX5_runText_r1 : List Cond := [Cond.fieldLink RX5 171 "GossipMembershipModel" "failureKind" "I", Cond.fieldLink RX5 178 "GossipMembershipModel" "failureAt" "I", Cond.fieldLink RX5 144 "GossipMembershipModel" "isRead" "Z", Cond.fieldLink RX5 141 "GossipMembershipModel" "spot" "I", Cond.fieldLink RX5 138 "GossipMembershipModel" "length" "I", Cond.fieldLink RX5 22 "GossipMembershipModel" "thrown" "I", Cond.methodLink RX5 181 yX5_script, Cond.instanceMethod yX5_script, Cond.selects RX5 yX5_script yX5_script, Cond.initialized RX5, Cond.code yX5_script cX5_script 4 (some .int), Cond.methodLink RX5 174 yX5_command, Cond.instanceMethod yX5_command, Cond.selects RX5 yX5_command yX5_command, Cond.code yX5_command cX5_command 5 none, Cond.methodLink RX5 148 yX5_here, Cond.instanceMethod yX5_here, Cond.selects RX5 yX5_here yX5_here, Cond.code yX5_here cX5_here 1 (some .int), Cond.fieldLink RX5 16 "GossipMembershipModel" "text" "[I", Cond.methodLink RX5 151 yX5_digit, Cond.instanceMethod yX5_digit, Cond.selects RX5 yX5_digit yX5_digit, Cond.code yX5_digit cX5_digit 3 (some .int)]
def wsX5_runText_r2 : List Cond := [Cond.methodLink RX5 26 yX5_in, Cond.static yX5_in, Cond.code yX5_in cX5_in 3 (some .boolean), Cond.methodLink RX5 155 yX5_does, Cond.instanceMethod yX5_does, Cond.selects RX5 yX5_does yX5_does, Cond.code yX5_does cX5_does 5 none, Cond.methodLink RX5 159 yX5_crash, Cond.instanceMethod yX5_crash, Cond.selects RX5 yX5_crash yX5_crash, Cond.code yX5_crash cX5_crash 4 (some .int), Cond.fieldLink RX5 7 "GossipMembershipModel" "s" "[I", Cond.methodLink RX5 108 yX5_isNode, Cond.static yX5_isNode, Cond.code yX5_isNode cX5_isNode 1 (some .boolean), Cond.methodLink RX5 100 yX5_fails, Cond.instanceMethod yX5_fails, Cond.selects RX5 yX5_fails yX5_fails, Cond.code yX5_fails cX5_fails 2 (some .int), Cond.methodLink RX5 162 yX5_join, Cond.instanceMethod yX5_join, Cond.selects RX5 yX5_join yX5_join, Cond.code yX5_join cX5_join 4 (some .int), Cond.methodLink RX5 30 yX5_areLinked]
def wsX5_runText_r3 : List Cond := [Cond.instanceMethod yX5_areLinked, Cond.selects RX5 yX5_areLinked yX5_areLinked, Cond.code yX5_areLinked cX5_areLinked 3 (some .boolean), Cond.methodLink RX5 34 yX5_pair, Cond.static yX5_pair, Cond.code yX5_pair cX5_pair 2 (some .int), Cond.methodLink RX5 38 yX5_changes, Cond.instanceMethod yX5_changes, Cond.selects RX5 yX5_changes yX5_changes, Cond.code yX5_changes cX5_changes 3 none, Cond.methodLink RX5 112 yX5_greets, Cond.instanceMethod yX5_greets, Cond.selects RX5 yX5_greets yX5_greets, Cond.code yX5_greets cX5_greets 5 none, Cond.methodLink RX5 58 yX5_takesIn, Cond.instanceMethod yX5_takesIn, Cond.selects RX5 yX5_takesIn yX5_takesIn, Cond.code yX5_takesIn cX5_takesIn 9 (some .boolean), Cond.methodLink RX5 42 yX5_refutes, Cond.instanceMethod yX5_refutes, Cond.selects RX5 yX5_refutes yX5_refutes, Cond.code yX5_refutes cX5_refutes 4 (some .boolean), Cond.methodLink RX5 45 yX5_becomes, Cond.instanceMethod yX5_becomes]
def wsX5_runText_r4 : List Cond := [Cond.selects RX5 yX5_becomes yX5_becomes, Cond.code yX5_becomes cX5_becomes 6 none, Cond.methodLink RX5 165 yX5_move, Cond.instanceMethod yX5_move, Cond.selects RX5 yX5_move yX5_move, Cond.code yX5_move cX5_move 4 (some .int), Cond.methodLink RX5 168 yX5_rounds, Cond.instanceMethod yX5_rounds, Cond.selects RX5 yX5_rounds yX5_rounds, Cond.code yX5_rounds cX5_rounds 3 (some .int), Cond.methodLink RX5 115 yX5_round1, Cond.instanceMethod yX5_round1, Cond.selects RX5 yX5_round1 yX5_round1, Cond.code yX5_round1 cX5_round1 2 none, Cond.methodLink RX5 97 yX5_turns, Cond.instanceMethod yX5_turns, Cond.selects RX5 yX5_turns yX5_turns, Cond.code yX5_turns cX5_turns 4 none, Cond.methodLink RX5 87 yX5_declares, Cond.instanceMethod yX5_declares, Cond.selects RX5 yX5_declares yX5_declares, Cond.code yX5_declares cX5_declares 4 none, Cond.methodLink RX5 77 yX5_canReach, Cond.instanceMethod yX5_canReach]
def wsX5_runText_r5 : List Cond := [Cond.selects RX5 yX5_canReach yX5_canReach, Cond.code yX5_canReach cX5_canReach 3 (some .boolean), Cond.methodLink RX5 80 yX5_viewed, Cond.instanceMethod yX5_viewed, Cond.selects RX5 yX5_viewed yX5_viewed, Cond.code yX5_viewed cX5_viewed 6 (some .int), Cond.methodLink RX5 84 yX5_drawn, Cond.instanceMethod yX5_drawn, Cond.selects RX5 yX5_drawn yX5_drawn, Cond.code yX5_drawn cX5_drawn 4 (some .int), Cond.methodLink RX5 70 yX5_bits, Cond.static yX5_bits, Cond.code yX5_bits cX5_bits 3 (some .int), Cond.methodLink RX5 74 yX5_draws, Cond.instanceMethod yX5_draws, Cond.selects RX5 yX5_draws yX5_draws, Cond.code yX5_draws cX5_draws 4 (some .int), Cond.constantLong RX5 62 (1103515245), Cond.constantLong RX5 64 (12345), Cond.constantLong RX5 66 (2147483648), Cond.constantLong RX5 68 (256), Cond.methodLink RX5 91 yX5_sends, Cond.instanceMethod yX5_sends, Cond.selects RX5 yX5_sends yX5_sends]
def wsX5_runText_r6 : List Cond := [Cond.code yX5_sends cX5_sends 6 none, Cond.fieldLink RX5 49 "GossipMembershipModel" "sentMany" "I", Cond.fieldLink RX5 19 "GossipMembershipModel" "sent" "[I", Cond.methodLink RX5 55 yX5_composes, Cond.instanceMethod yX5_composes, Cond.selects RX5 yX5_composes yX5_composes, Cond.code yX5_composes cX5_composes 7 none, Cond.methodLink RX5 52 yX5_mostCounted, Cond.instanceMethod yX5_mostCounted, Cond.selects RX5 yX5_mostCounted yX5_mostCounted, Cond.code yX5_mostCounted cX5_mostCounted 6 (some .int), Cond.methodLink RX5 94 yX5_isHelped, Cond.instanceMethod yX5_isHelped, Cond.selects RX5 yX5_isHelped yX5_isHelped, Cond.code yX5_isHelped cX5_isHelped 7 (some .boolean)]
def wsX5_runText : List Cond := .code yX5_runText cX5_runText 2 (some .int) :: ((wsX5_runText_r1 ++ (wsX5_runText_r2 ++ (wsX5_runText_r3 ++ (wsX5_runText_r4 ++ (wsX5_runText_r5 ++ wsX5_runText_r6))))) ++ wsX50 ++ (vx_atM "java/lang/ArrayIndexOutOfBoundsException" ["java/lang/IndexOutOfBoundsException", "java/lang/RuntimeException", "java/lang/Exception"]).filter goodWord ++ (vx_atM "java/lang/ArithmeticException" ["java/lang/RuntimeException", "java/lang/Exception"]).filter goodWord)
def wsX5_failure : List Cond := .code yX5_failure cX5_failure 2 (some .int) :: ([.fieldLink RX5 22 "GossipMembershipModel" "thrown" "I", .fieldLink RX5 171 "GossipMembershipModel" "failureKind" "I", .fieldLink RX5 178 "GossipMembershipModel" "failureAt" "I", .methodLink RX5 26 yX5_in, .static yX5_in, .initialized RX5, .code yX5_in cX5_in 3 (some .boolean), .methodLink RX5 100 yX5_fails, .instanceMethod yX5_fails, .selects RX5 yX5_fails yX5_fails, .code yX5_fails cX5_fails 2 (some .int)] ++ wsX50)
def wsX5_averageCounter : List Cond := .code yX5_averageCounter cX5_averageCounter 4 (some .double) :: ([.fieldLink RX5 22 "GossipMembershipModel" "thrown" "I", .fieldLink RX5 7 "GossipMembershipModel" "s" "[I", .constantDouble RX5 185 (4620693217682128896), .methodLink RX5 108 yX5_isNode, .static yX5_isNode, .initialized RX5, .code yX5_isNode cX5_isNode 1 (some .boolean), .methodLink RX5 26 yX5_in, .static yX5_in, .code yX5_in cX5_in 3 (some .boolean), .methodLink RX5 34 yX5_pair, .static yX5_pair, .code yX5_pair cX5_pair 2 (some .int)] ++ wsX50 ++ (vx_atM "java/lang/ArrayIndexOutOfBoundsException" ["java/lang/IndexOutOfBoundsException", "java/lang/RuntimeException", "java/lang/Exception"]).filter goodWord)
def wsX5_falseShare : List Cond := .code yX5_falseShare cX5_falseShare 1 (some .float) :: ([.fieldLink RX5 7 "GossipMembershipModel" "s" "[I", .fieldLink RX5 22 "GossipMembershipModel" "thrown" "I"] ++ wsX50 ++ (vx_atM "java/lang/ArrayIndexOutOfBoundsException" ["java/lang/IndexOutOfBoundsException", "java/lang/RuntimeException", "java/lang/Exception"]).filter goodWord)
def wsX5_save : List Cond := .code yX5_save cX5_save 2 none :: ([.fieldLink RX5 22 "GossipMembershipModel" "thrown" "I", .fieldLink RX5 7 "GossipMembershipModel" "s" "[I", .fieldLink RX5 13 "GossipMembershipModel" "saved" "[I", .fieldLink RX5 187 "GossipMembershipModel" "hasSaved" "Z"] ++ wsX50 ++ (vx_atM "java/lang/ArrayIndexOutOfBoundsException" ["java/lang/IndexOutOfBoundsException", "java/lang/RuntimeException", "java/lang/Exception"]).filter goodWord)
def wsX5_restore : List Cond := .code yX5_restore cX5_restore 2 none :: ([.fieldLink RX5 187 "GossipMembershipModel" "hasSaved" "Z", .fieldLink RX5 22 "GossipMembershipModel" "thrown" "I", .fieldLink RX5 7 "GossipMembershipModel" "s" "[I", .fieldLink RX5 13 "GossipMembershipModel" "saved" "[I"] ++ wsX50 ++ (vx_atM "java/lang/ArrayIndexOutOfBoundsException" ["java/lang/IndexOutOfBoundsException", "java/lang/RuntimeException", "java/lang/Exception"]).filter goodWord)
def wsJx00060_init_a7421 : List Cond := .code yJx00060_init_a7421 cJx00060_init_a7421 2 none :: ([])
def wsL_setPatience : List Cond := .codeWith yL_setPatience cL_setPatience 4 (some .int) [(0, 9, 12, 13)] :: ([.classLink RL 13 "java/lang/IllegalArgumentException", .methodLink RL 7 yX4_setPatience, .instanceMethod yX4_setPatience, .selects RX4 yX4_setPatience yX4_setPatience, .initialized RX4, .code yX4_setPatience cX4_setPatience 3 (some .int), .classLink RX4 30 "java/lang/IllegalArgumentException", .initialized "java/lang/IllegalArgumentException", .fieldLink RX4 10 "GossipMembership" "world" "LGossipMembership$World;", .fieldLink RX4 37 "GossipMembership$World" "knowledge" "LGossipMembership$Knowledge;", .fieldLink RX4 41 "GossipMembership$Knowledge" "patience" "I"] ++ wsX40 ++ wsX30 ++ wsX10 ++ (vx_atM "java/lang/ArrayIndexOutOfBoundsException" ["java/lang/IndexOutOfBoundsException", "java/lang/RuntimeException", "java/lang/Exception"]).filter goodWord ++ (vx_atS RX4 34 "java/lang/IllegalArgumentException" ["java/lang/RuntimeException", "java/lang/Exception"]).filter goodWord)
def wsL_setFanOut : List Cond := .codeWith yL_setFanOut cL_setFanOut 4 (some .int) [(0, 9, 12, 13)] :: ([.classLink RL 13 "java/lang/IllegalArgumentException", .methodLink RL 15 yX4_setFanOut, .instanceMethod yX4_setFanOut, .selects RX4 yX4_setFanOut yX4_setFanOut, .initialized RX4, .code yX4_setFanOut cX4_setFanOut 3 (some .int), .classLink RX4 30 "java/lang/IllegalArgumentException", .initialized "java/lang/IllegalArgumentException", .fieldLink RX4 10 "GossipMembership" "world" "LGossipMembership$World;", .fieldLink RX4 37 "GossipMembership$World" "knowledge" "LGossipMembership$Knowledge;", .fieldLink RX4 48 "GossipMembership$Knowledge" "fanOut" "I"] ++ wsX40 ++ wsX30 ++ wsX10 ++ (vx_atM "java/lang/ArrayIndexOutOfBoundsException" ["java/lang/IndexOutOfBoundsException", "java/lang/RuntimeException", "java/lang/Exception"]).filter goodWord ++ (vx_atS RX4 34 "java/lang/IllegalArgumentException" ["java/lang/RuntimeException", "java/lang/Exception"]).filter goodWord)
def wsL_setHelpers : List Cond := .codeWith yL_setHelpers cL_setHelpers 4 (some .int) [(0, 9, 12, 13)] :: ([.classLink RL 13 "java/lang/IllegalArgumentException", .methodLink RL 18 yX4_setHelpers, .instanceMethod yX4_setHelpers, .selects RX4 yX4_setHelpers yX4_setHelpers, .initialized RX4, .code yX4_setHelpers cX4_setHelpers 3 (some .int), .classLink RX4 30 "java/lang/IllegalArgumentException", .initialized "java/lang/IllegalArgumentException", .fieldLink RX4 10 "GossipMembership" "world" "LGossipMembership$World;", .fieldLink RX4 53 "GossipMembership$World" "helpers" "I"] ++ wsX40 ++ wsX30 ++ (vx_atM "java/lang/ArrayIndexOutOfBoundsException" ["java/lang/IndexOutOfBoundsException", "java/lang/RuntimeException", "java/lang/Exception"]).filter goodWord ++ (vx_atS RX4 34 "java/lang/IllegalArgumentException" ["java/lang/RuntimeException", "java/lang/Exception"]).filter goodWord)
def wsL_setSeed : List Cond := .codeWith yL_setSeed cL_setSeed 4 (some .int) [(0, 9, 12, 13)] :: ([.classLink RL 13 "java/lang/IllegalArgumentException", .methodLink RL 21 yX4_setSeed, .instanceMethod yX4_setSeed, .selects RX4 yX4_setSeed yX4_setSeed, .initialized RX4, .code yX4_setSeed cX4_setSeed 3 (some .int), .classLink RX4 30 "java/lang/IllegalArgumentException", .initialized "java/lang/IllegalArgumentException", .fieldLink RX4 10 "GossipMembership" "world" "LGossipMembership$World;", .fieldLink RX4 58 "GossipMembership$World" "drawSeed" "I"] ++ wsX40 ++ wsX30 ++ (vx_atM "java/lang/ArrayIndexOutOfBoundsException" ["java/lang/IndexOutOfBoundsException", "java/lang/RuntimeException", "java/lang/Exception"]).filter goodWord ++ (vx_atS RX4 34 "java/lang/IllegalArgumentException" ["java/lang/RuntimeException", "java/lang/Exception"]).filter goodWord)
def wsL_join_r1 : List Cond := [Cond.classLink RL 28 "java/lang/IndexOutOfBoundsException", Cond.classLink RL 30 "java/lang/IllegalStateException", Cond.classLink RL 13 "java/lang/IllegalArgumentException", Cond.methodLink RL 24 yX4_join, Cond.instanceMethod yX4_join, Cond.selects RX4 yX4_join yX4_join, Cond.initialized RX4, Cond.code yX4_join cX4_join 3 (some .int), Cond.classLink RX4 75 "java/lang/IllegalStateException", Cond.initialized "java/lang/IllegalStateException", Cond.classLink RX4 30 "java/lang/IllegalArgumentException", Cond.initialized "java/lang/IllegalArgumentException", Cond.fieldLink RX4 10 "GossipMembership" "world" "LGossipMembership$World;", Cond.fieldLink RX4 65 "GossipMembership$World" "network" "LGossipMembership$Network;", Cond.fieldLink RX4 69 "GossipMembership$Network" "up" "[Z", Cond.fieldLink RX4 37 "GossipMembership$World" "knowledge" "LGossipMembership$Knowledge;", Cond.fieldLink RX4 93 "GossipMembership$Knowledge" "ownIncarnation" "[I", Cond.methodLink RX4 61 yX4_requireNode, Cond.static yX4_requireNode, Cond.code yX4_requireNode cX4_requireNode 1 none, Cond.classLink RX4 239 "java/lang/IndexOutOfBoundsException", Cond.initialized "java/lang/IndexOutOfBoundsException", Cond.methodLink RX4 80 yX2_wouldConnect, Cond.instanceMethod yX2_wouldConnect]
def wsL_join_r2 : List Cond := [Cond.selects RX2 yX2_wouldConnect yX2_wouldConnect, Cond.initialized RX2, Cond.code yX2_wouldConnect cX2_wouldConnect 3 (some .boolean), Cond.fieldLink RX2 9 "GossipMembership$Network" "up" "[Z", Cond.fieldLink RX2 18 "GossipMembership$Network" "place" "[I", Cond.fieldLink RX2 22 "GossipMembership$Network" "cutLinks" "[Z", Cond.static yX4_pair, Cond.code yX4_pair cX4_pair 2 (some .int), Cond.methodLink RX4 86 yX3_admit, Cond.instanceMethod yX3_admit, Cond.selects RX3 yX3_admit yX3_admit, Cond.initialized RX3, Cond.code yX3_admit cX3_admit 3 none, Cond.fieldLink RX3 12 "GossipMembership$World" "network" "LGossipMembership$Network;", Cond.fieldLink RX3 32 "GossipMembership$Network" "up" "[Z", Cond.fieldLink RX3 36 "GossipMembership$Network" "everUp" "[Z", Cond.fieldLink RX3 21 "GossipMembership$World" "knowledge" "LGossipMembership$Knowledge;", Cond.fieldLink RX3 39 "GossipMembership$Knowledge" "ownIncarnation" "[I", Cond.methodLink RX3 43 yX1_forgetAll, Cond.instanceMethod yX1_forgetAll, Cond.selects RX1 yX1_forgetAll yX1_forgetAll, Cond.initialized RX1, Cond.code yX1_forgetAll cX1_forgetAll 3 none, Cond.fieldLink RX1 15 "GossipMembership$Knowledge" "state" "[I"]
def wsL_join_r3 : List Cond := [Cond.fieldLink RX1 18 "GossipMembership$Knowledge" "incarnations" "[I", Cond.fieldLink RX1 24 "GossipMembership$Knowledge" "counters" "[I", Cond.fieldLink RX1 31 "GossipMembership$Knowledge" "fanOut" "I", Cond.methodLink RX3 47 yX2_connects, Cond.instanceMethod yX2_connects, Cond.selects RX2 yX2_connects yX2_connects, Cond.code yX2_connects cX2_connects 3 (some .boolean), Cond.methodLink RX2 25 yX2_wouldConnect, Cond.methodLink RX3 51 yX3_introduce, Cond.instanceMethod yX3_introduce, Cond.selects RX3 yX3_introduce yX3_introduce, Cond.code yX3_introduce cX3_introduce 5 none, Cond.methodLink RX3 55 yX1_toldState, Cond.instanceMethod yX1_toldState, Cond.selects RX1 yX1_toldState yX1_toldState, Cond.code yX1_toldState cX1_toldState 3 (some .int), Cond.methodLink RX3 59 yX1_toldIncarnation, Cond.instanceMethod yX1_toldIncarnation, Cond.selects RX1 yX1_toldIncarnation yX1_toldIncarnation, Cond.code yX1_toldIncarnation cX1_toldIncarnation 3 (some .int), Cond.fieldLink RX1 9 "GossipMembership$Knowledge" "ownIncarnation" "[I", Cond.methodLink RX3 62 yX1_takeIn, Cond.instanceMethod yX1_takeIn, Cond.selects RX1 yX1_takeIn yX1_takeIn]
def wsL_join_r4 : List Cond := [Cond.code yX1_takeIn cX1_takeIn 6 (some .boolean), Cond.fieldLink RX1 44 "GossipMembership$Knowledge" "refuted" "I", Cond.methodLink RX1 47 yX1_outweighs, Cond.instanceMethod yX1_outweighs, Cond.selects RX1 yX1_outweighs yX1_outweighs, Cond.code yX1_outweighs cX1_outweighs 4 (some .boolean), Cond.methodLink RX1 51 yX1_replaceView, Cond.instanceMethod yX1_replaceView, Cond.selects RX1 yX1_replaceView yX1_replaceView, Cond.code yX1_replaceView cX1_replaceView 4 none, Cond.fieldLink RX1 21 "GossipMembership$Knowledge" "deadlines" "[I", Cond.fieldLink RX1 34 "GossipMembership$Knowledge" "presentRound" "I", Cond.fieldLink RX1 27 "GossipMembership$Knowledge" "patience" "I", Cond.methodLink RX1 55 yX1_endQuiet, Cond.instanceMethod yX1_endQuiet, Cond.selects RX1 yX1_endQuiet yX1_endQuiet, Cond.code yX1_endQuiet cX1_endQuiet 1 none, Cond.fieldLink RX1 37 "GossipMembership$Knowledge" "lastUnquietRound" "I", Cond.methodLink RX4 90 yX1_endQuiet]
def wsL_join : List Cond := .codeWith yL_join cL_join 5 (some .int) [(0, 10, 13, 28), (0, 10, 17, 30), (0, 10, 21, 13)] :: ((wsL_join_r1 ++ (wsL_join_r2 ++ (wsL_join_r3 ++ wsL_join_r4))) ++ wsX40 ++ wsX30 ++ wsX20 ++ wsX10 ++ (vx_atM "java/lang/ArrayIndexOutOfBoundsException" ["java/lang/IndexOutOfBoundsException", "java/lang/RuntimeException", "java/lang/Exception"]).filter goodWord ++ (vx_atS RX4 79 "java/lang/IllegalStateException" ["java/lang/RuntimeException", "java/lang/Exception"]).filter goodWord ++ (vx_atS RX4 34 "java/lang/IllegalArgumentException" ["java/lang/RuntimeException", "java/lang/Exception"]).filter goodWord ++ (vx_atS RX4 243 "java/lang/IndexOutOfBoundsException" ["java/lang/RuntimeException", "java/lang/Exception"]).filter goodWord)
def wsL_crash_r1 : List Cond := [Cond.classLink RL 28 "java/lang/IndexOutOfBoundsException", Cond.classLink RL 30 "java/lang/IllegalStateException", Cond.methodLink RL 32 yX4_crash, Cond.instanceMethod yX4_crash, Cond.selects RX4 yX4_crash yX4_crash, Cond.initialized RX4, Cond.code yX4_crash cX4_crash 2 (some .int), Cond.classLink RX4 75 "java/lang/IllegalStateException", Cond.initialized "java/lang/IllegalStateException", Cond.fieldLink RX4 10 "GossipMembership" "world" "LGossipMembership$World;", Cond.fieldLink RX4 65 "GossipMembership$World" "network" "LGossipMembership$Network;", Cond.fieldLink RX4 69 "GossipMembership$Network" "up" "[Z", Cond.fieldLink RX4 37 "GossipMembership$World" "knowledge" "LGossipMembership$Knowledge;", Cond.methodLink RX4 61 yX4_requireNode, Cond.static yX4_requireNode, Cond.code yX4_requireNode cX4_requireNode 1 none, Cond.classLink RX4 239 "java/lang/IndexOutOfBoundsException", Cond.initialized "java/lang/IndexOutOfBoundsException", Cond.methodLink RX4 90 yX1_endQuiet, Cond.instanceMethod yX1_endQuiet, Cond.selects RX1 yX1_endQuiet yX1_endQuiet, Cond.initialized RX1, Cond.code yX1_endQuiet cX1_endQuiet 1 none, Cond.fieldLink RX1 34 "GossipMembership$Knowledge" "presentRound" "I"]
def wsL_crash_r2 : List Cond := [Cond.fieldLink RX1 37 "GossipMembership$Knowledge" "lastUnquietRound" "I", Cond.methodLink RX4 99 yX2_countUp, Cond.instanceMethod yX2_countUp, Cond.selects RX2 yX2_countUp yX2_countUp, Cond.initialized RX2, Cond.code yX2_countUp cX2_countUp 3 (some .int), Cond.fieldLink RX2 9 "GossipMembership$Network" "up" "[Z"]
def wsL_crash : List Cond := .codeWith yL_crash cL_crash 4 (some .int) [(0, 9, 12, 28), (0, 9, 15, 30)] :: ((wsL_crash_r1 ++ wsL_crash_r2) ++ wsX40 ++ wsX30 ++ wsX20 ++ wsX10 ++ (vx_atM "java/lang/ArrayIndexOutOfBoundsException" ["java/lang/IndexOutOfBoundsException", "java/lang/RuntimeException", "java/lang/Exception"]).filter goodWord ++ (vx_atS RX4 79 "java/lang/IllegalStateException" ["java/lang/RuntimeException", "java/lang/Exception"]).filter goodWord ++ (vx_atS RX4 243 "java/lang/IndexOutOfBoundsException" ["java/lang/RuntimeException", "java/lang/Exception"]).filter goodWord)
def wsL_move_r1 : List Cond := [Cond.classLink RL 28 "java/lang/IndexOutOfBoundsException", Cond.classLink RL 13 "java/lang/IllegalArgumentException", Cond.methodLink RL 35 yX4_move, Cond.instanceMethod yX4_move, Cond.selects RX4 yX4_move yX4_move, Cond.initialized RX4, Cond.code yX4_move cX4_move 4 (some .int), Cond.classLink RX4 30 "java/lang/IllegalArgumentException", Cond.initialized "java/lang/IllegalArgumentException", Cond.fieldLink RX4 10 "GossipMembership" "world" "LGossipMembership$World;", Cond.fieldLink RX4 65 "GossipMembership$World" "network" "LGossipMembership$Network;", Cond.fieldLink RX4 105 "GossipMembership$Network" "place" "[I", Cond.fieldLink RX4 37 "GossipMembership$World" "knowledge" "LGossipMembership$Knowledge;", Cond.methodLink RX4 61 yX4_requireNode, Cond.static yX4_requireNode, Cond.code yX4_requireNode cX4_requireNode 1 none, Cond.classLink RX4 239 "java/lang/IndexOutOfBoundsException", Cond.initialized "java/lang/IndexOutOfBoundsException", Cond.methodLink RX4 90 yX1_endQuiet, Cond.instanceMethod yX1_endQuiet, Cond.selects RX1 yX1_endQuiet yX1_endQuiet, Cond.initialized RX1, Cond.code yX1_endQuiet cX1_endQuiet 1 none, Cond.fieldLink RX1 34 "GossipMembership$Knowledge" "presentRound" "I"]
def wsL_move_r2 : List Cond := [Cond.fieldLink RX1 37 "GossipMembership$Knowledge" "lastUnquietRound" "I"]
def wsL_move : List Cond := .codeWith yL_move cL_move 5 (some .int) [(0, 10, 13, 28), (0, 10, 17, 13)] :: ((wsL_move_r1 ++ wsL_move_r2) ++ wsX40 ++ wsX30 ++ wsX20 ++ wsX10 ++ (vx_atM "java/lang/ArrayIndexOutOfBoundsException" ["java/lang/IndexOutOfBoundsException", "java/lang/RuntimeException", "java/lang/Exception"]).filter goodWord ++ (vx_atS RX4 34 "java/lang/IllegalArgumentException" ["java/lang/RuntimeException", "java/lang/Exception"]).filter goodWord ++ (vx_atS RX4 243 "java/lang/IndexOutOfBoundsException" ["java/lang/RuntimeException", "java/lang/Exception"]).filter goodWord)
def wsL_cut_r1 : List Cond := [Cond.classLink RL 28 "java/lang/IndexOutOfBoundsException", Cond.classLink RL 13 "java/lang/IllegalArgumentException", Cond.methodLink RL 38 yX4_cut, Cond.instanceMethod yX4_cut, Cond.selects RX4 yX4_cut yX4_cut, Cond.initialized RX4, Cond.code yX4_cut cX4_cut 5 (some .boolean), Cond.fieldLink RX4 10 "GossipMembership" "world" "LGossipMembership$World;", Cond.fieldLink RX4 65 "GossipMembership$World" "network" "LGossipMembership$Network;", Cond.fieldLink RX4 111 "GossipMembership$Network" "cutLinks" "[Z", Cond.fieldLink RX4 37 "GossipMembership$World" "knowledge" "LGossipMembership$Knowledge;", Cond.methodLink RX4 108 yX4_requireTwoNodes, Cond.static yX4_requireTwoNodes, Cond.code yX4_requireTwoNodes cX4_requireTwoNodes 2 none, Cond.classLink RX4 30 "java/lang/IllegalArgumentException", Cond.initialized "java/lang/IllegalArgumentException", Cond.methodLink RX4 61 yX4_requireNode, Cond.static yX4_requireNode, Cond.code yX4_requireNode cX4_requireNode 1 none, Cond.classLink RX4 239 "java/lang/IndexOutOfBoundsException", Cond.initialized "java/lang/IndexOutOfBoundsException", Cond.methodLink RX4 114 yX4_pair, Cond.static yX4_pair, Cond.code yX4_pair cX4_pair 2 (some .int)]
def wsL_cut_r2 : List Cond := [Cond.methodLink RX4 118 yX2_setCut, Cond.instanceMethod yX2_setCut, Cond.selects RX2 yX2_setCut yX2_setCut, Cond.initialized RX2, Cond.code yX2_setCut cX2_setCut 4 none, Cond.fieldLink RX2 22 "GossipMembership$Network" "cutLinks" "[Z", Cond.methodLink RX4 90 yX1_endQuiet, Cond.instanceMethod yX1_endQuiet, Cond.selects RX1 yX1_endQuiet yX1_endQuiet, Cond.initialized RX1, Cond.code yX1_endQuiet cX1_endQuiet 1 none, Cond.fieldLink RX1 34 "GossipMembership$Knowledge" "presentRound" "I", Cond.fieldLink RX1 37 "GossipMembership$Knowledge" "lastUnquietRound" "I"]
def wsL_cut : List Cond := .codeWith yL_cut cL_cut 6 (some .int) [(0, 19, 22, 28), (0, 19, 26, 13)] :: ((wsL_cut_r1 ++ wsL_cut_r2) ++ wsX40 ++ wsX30 ++ wsX20 ++ wsX10 ++ (vx_atM "java/lang/ArrayIndexOutOfBoundsException" ["java/lang/IndexOutOfBoundsException", "java/lang/RuntimeException", "java/lang/Exception"]).filter goodWord ++ (vx_atS RX4 34 "java/lang/IllegalArgumentException" ["java/lang/RuntimeException", "java/lang/Exception"]).filter goodWord ++ (vx_atS RX4 243 "java/lang/IndexOutOfBoundsException" ["java/lang/RuntimeException", "java/lang/Exception"]).filter goodWord)
def wsL_rounds_r1 : List Cond := [Cond.classLink RL 13 "java/lang/IllegalArgumentException", Cond.methodLink RL 42 yX4_rounds, Cond.instanceMethod yX4_rounds, Cond.selects RX4 yX4_rounds yX4_rounds, Cond.initialized RX4, Cond.code yX4_rounds cX4_rounds 2 (some .int), Cond.classLink RX4 30 "java/lang/IllegalArgumentException", Cond.initialized "java/lang/IllegalArgumentException", Cond.fieldLink RX4 10 "GossipMembership" "world" "LGossipMembership$World;", Cond.fieldLink RX4 37 "GossipMembership$World" "knowledge" "LGossipMembership$Knowledge;", Cond.fieldLink RX4 127 "GossipMembership$Knowledge" "presentRound" "I", Cond.methodLink RX4 124 yX3_play, Cond.instanceMethod yX3_play, Cond.selects RX3 yX3_play yX3_play, Cond.initialized RX3, Cond.code yX3_play cX3_play 4 none, Cond.fieldLink RX3 21 "GossipMembership$World" "knowledge" "LGossipMembership$Knowledge;", Cond.fieldLink RX3 66 "GossipMembership$Knowledge" "presentRound" "I", Cond.fieldLink RX3 12 "GossipMembership$World" "network" "LGossipMembership$Network;", Cond.fieldLink RX3 32 "GossipMembership$Network" "up" "[Z", Cond.methodLink RX3 69 yX3_takeTurn, Cond.instanceMethod yX3_takeTurn, Cond.selects RX3 yX3_takeTurn yX3_takeTurn, Cond.code yX3_takeTurn cX3_takeTurn 3 none]
def wsL_rounds_r2 : List Cond := [Cond.methodLink RX3 72 yX3_declareOverdue, Cond.instanceMethod yX3_declareOverdue, Cond.selects RX3 yX3_declareOverdue yX3_declareOverdue, Cond.code yX3_declareOverdue cX3_declareOverdue 4 none, Cond.fieldLink RX3 88 "GossipMembership$Knowledge" "deadlines" "[I", Cond.fieldLink RX3 94 "GossipMembership$World" "declared" "I", Cond.fieldLink RX3 97 "GossipMembership$World" "declaredFalsely" "I", Cond.methodLink RX3 75 yX1_nodesInState, Cond.instanceMethod yX1_nodesInState, Cond.selects RX1 yX1_nodesInState yX1_nodesInState, Cond.initialized RX1, Cond.code yX1_nodesInState cX1_nodesInState 5 (some .int), Cond.fieldLink RX1 15 "GossipMembership$Knowledge" "state" "[I", Cond.static yX4_pair, Cond.code yX4_pair cX4_pair 2 (some .int), Cond.methodLink RX3 59 yX1_toldIncarnation, Cond.instanceMethod yX1_toldIncarnation, Cond.selects RX1 yX1_toldIncarnation yX1_toldIncarnation, Cond.code yX1_toldIncarnation cX1_toldIncarnation 3 (some .int), Cond.fieldLink RX1 9 "GossipMembership$Knowledge" "ownIncarnation" "[I", Cond.fieldLink RX1 18 "GossipMembership$Knowledge" "incarnations" "[I", Cond.methodLink RX3 62 yX1_takeIn, Cond.instanceMethod yX1_takeIn, Cond.selects RX1 yX1_takeIn yX1_takeIn]
def wsL_rounds_r3 : List Cond := [Cond.code yX1_takeIn cX1_takeIn 6 (some .boolean), Cond.fieldLink RX1 44 "GossipMembership$Knowledge" "refuted" "I", Cond.fieldLink RX1 24 "GossipMembership$Knowledge" "counters" "[I", Cond.fieldLink RX1 31 "GossipMembership$Knowledge" "fanOut" "I", Cond.methodLink RX1 47 yX1_outweighs, Cond.instanceMethod yX1_outweighs, Cond.selects RX1 yX1_outweighs yX1_outweighs, Cond.code yX1_outweighs cX1_outweighs 4 (some .boolean), Cond.methodLink RX1 51 yX1_replaceView, Cond.instanceMethod yX1_replaceView, Cond.selects RX1 yX1_replaceView yX1_replaceView, Cond.code yX1_replaceView cX1_replaceView 4 none, Cond.fieldLink RX1 21 "GossipMembership$Knowledge" "deadlines" "[I", Cond.fieldLink RX1 34 "GossipMembership$Knowledge" "presentRound" "I", Cond.fieldLink RX1 27 "GossipMembership$Knowledge" "patience" "I", Cond.methodLink RX1 55 yX1_endQuiet, Cond.instanceMethod yX1_endQuiet, Cond.selects RX1 yX1_endQuiet yX1_endQuiet, Cond.code yX1_endQuiet cX1_endQuiet 1 none, Cond.fieldLink RX1 37 "GossipMembership$Knowledge" "lastUnquietRound" "I", Cond.methodLink RX3 47 yX2_connects, Cond.instanceMethod yX2_connects, Cond.selects RX2 yX2_connects yX2_connects, Cond.initialized RX2]
def wsL_rounds_r4 : List Cond := [Cond.code yX2_connects cX2_connects 3 (some .boolean), Cond.fieldLink RX2 9 "GossipMembership$Network" "up" "[Z", Cond.methodLink RX2 25 yX2_wouldConnect, Cond.instanceMethod yX2_wouldConnect, Cond.selects RX2 yX2_wouldConnect yX2_wouldConnect, Cond.code yX2_wouldConnect cX2_wouldConnect 3 (some .boolean), Cond.fieldLink RX2 18 "GossipMembership$Network" "place" "[I", Cond.fieldLink RX2 22 "GossipMembership$Network" "cutLinks" "[Z", Cond.methodLink RX3 78 yX3_drawFrom, Cond.instanceMethod yX3_drawFrom, Cond.selects RX3 yX3_drawFrom yX3_drawFrom, Cond.code yX3_drawFrom cX3_drawFrom 5 (some .int), Cond.fieldLink RX3 29 "GossipMembership$World" "drawSeed" "I", Cond.constantLong RX3 105 (1103515245), Cond.constantLong RX3 107 (12345), Cond.constantLong RX3 109 (2147483648), Cond.methodLink RX3 100 yJ6_bitCount_0f7a4, Cond.static yJ6_bitCount_0f7a4, Cond.initialized RJ6, Cond.code yJ6_bitCount_0f7a4 cJ6_bitCount_0f7a4 1 (some .int), Cond.constant RJ6 265 (1431655765), Cond.constant RJ6 266 (858993459), Cond.constant RJ6 267 (252645135), Cond.methodLink RX3 82 yX3_send]
def wsL_rounds_r5 : List Cond := [Cond.instanceMethod yX3_send, Cond.selects RX3 yX3_send yX3_send, Cond.code yX3_send cX3_send 8 none, Cond.fieldLink RX3 114 "GossipMembership$Knowledge" "counters" "[I", Cond.fieldLink RX3 117 "GossipMembership$World" "messagesSent" "I", Cond.methodLink RX3 55 yX1_toldState, Cond.instanceMethod yX1_toldState, Cond.selects RX1 yX1_toldState yX1_toldState, Cond.code yX1_toldState cX1_toldState 3 (some .int), Cond.methodLink RX3 111 yX1_mostUrgent, Cond.instanceMethod yX1_mostUrgent, Cond.selects RX1 yX1_mostUrgent yX1_mostUrgent, Cond.code yX1_mostUrgent cX1_mostUrgent 7 (some .int), Cond.methodLink RX3 85 yX3_helpersReach, Cond.instanceMethod yX3_helpersReach, Cond.selects RX3 yX3_helpersReach yX3_helpersReach, Cond.code yX3_helpersReach cX3_helpersReach 7 (some .boolean), Cond.fieldLink RX3 25 "GossipMembership$World" "helpers" "I"]
def wsL_rounds : List Cond := .codeWith yL_rounds cL_rounds 4 (some .int) [(0, 9, 12, 13)] :: ((wsL_rounds_r1 ++ (wsL_rounds_r2 ++ (wsL_rounds_r3 ++ (wsL_rounds_r4 ++ wsL_rounds_r5)))) ++ wsX40 ++ wsX30 ++ wsX10 ++ wsX20 ++ (vx_atM "java/lang/ArrayIndexOutOfBoundsException" ["java/lang/IndexOutOfBoundsException", "java/lang/RuntimeException", "java/lang/Exception"]).filter goodWord ++ (vx_atS RX4 34 "java/lang/IllegalArgumentException" ["java/lang/RuntimeException", "java/lang/Exception"]).filter goodWord ++ (vx_atM "java/lang/ArithmeticException" ["java/lang/RuntimeException", "java/lang/Exception"]).filter goodWord)
def wsL_roundsUntilAgreement_r1 : List Cond := [Cond.classLink RL 13 "java/lang/IllegalArgumentException", Cond.classLink RL 48 "java/util/NoSuchElementException", Cond.methodLink RL 45 yX4_roundsUntilAgreement, Cond.instanceMethod yX4_roundsUntilAgreement, Cond.selects RX4 yX4_roundsUntilAgreement yX4_roundsUntilAgreement, Cond.initialized RX4, Cond.code yX4_roundsUntilAgreement cX4_roundsUntilAgreement 4 (some .int), Cond.classLink RX4 30 "java/lang/IllegalArgumentException", Cond.initialized "java/lang/IllegalArgumentException", Cond.classLink RX4 136 "java/util/NoSuchElementException", Cond.initialized "java/util/NoSuchElementException", Cond.fieldLink RX4 10 "GossipMembership" "world" "LGossipMembership$World;", Cond.methodLink RX4 132 yX3_allAgree, Cond.instanceMethod yX3_allAgree, Cond.selects RX3 yX3_allAgree yX3_allAgree, Cond.initialized RX3, Cond.code yX3_allAgree cX3_allAgree 3 (some .boolean), Cond.fieldLink RX3 12 "GossipMembership$World" "network" "LGossipMembership$Network;", Cond.methodLink RX3 47 yX2_connects, Cond.instanceMethod yX2_connects, Cond.selects RX2 yX2_connects yX2_connects, Cond.initialized RX2, Cond.code yX2_connects cX2_connects 3 (some .boolean), Cond.fieldLink RX2 9 "GossipMembership$Network" "up" "[Z"]
def wsL_roundsUntilAgreement_r2 : List Cond := [Cond.methodLink RX2 25 yX2_wouldConnect, Cond.instanceMethod yX2_wouldConnect, Cond.selects RX2 yX2_wouldConnect yX2_wouldConnect, Cond.code yX2_wouldConnect cX2_wouldConnect 3 (some .boolean), Cond.fieldLink RX2 18 "GossipMembership$Network" "place" "[I", Cond.fieldLink RX2 22 "GossipMembership$Network" "cutLinks" "[Z", Cond.static yX4_pair, Cond.code yX4_pair cX4_pair 2 (some .int), Cond.methodLink RX3 120 yX3_twoAgree, Cond.instanceMethod yX3_twoAgree, Cond.selects RX3 yX3_twoAgree yX3_twoAgree, Cond.code yX3_twoAgree cX3_twoAgree 3 (some .boolean), Cond.fieldLink RX3 21 "GossipMembership$World" "knowledge" "LGossipMembership$Knowledge;", Cond.methodLink RX3 123 yX1_isUpToDate, Cond.instanceMethod yX1_isUpToDate, Cond.selects RX1 yX1_isUpToDate yX1_isUpToDate, Cond.initialized RX1, Cond.code yX1_isUpToDate cX1_isUpToDate 3 (some .boolean), Cond.fieldLink RX1 15 "GossipMembership$Knowledge" "state" "[I", Cond.fieldLink RX1 18 "GossipMembership$Knowledge" "incarnations" "[I", Cond.fieldLink RX1 9 "GossipMembership$Knowledge" "ownIncarnation" "[I", Cond.methodLink RX3 126 yX1_countDifferences, Cond.instanceMethod yX1_countDifferences, Cond.selects RX1 yX1_countDifferences yX1_countDifferences]
def wsL_roundsUntilAgreement_r3 : List Cond := [Cond.code yX1_countDifferences cX1_countDifferences 5 (some .int), Cond.methodLink RX1 58 yX1_differ, Cond.instanceMethod yX1_differ, Cond.selects RX1 yX1_differ yX1_differ, Cond.code yX1_differ cX1_differ 3 (some .boolean), Cond.methodLink RX4 124 yX3_play, Cond.instanceMethod yX3_play, Cond.selects RX3 yX3_play yX3_play, Cond.code yX3_play cX3_play 4 none, Cond.fieldLink RX3 66 "GossipMembership$Knowledge" "presentRound" "I", Cond.fieldLink RX3 32 "GossipMembership$Network" "up" "[Z", Cond.methodLink RX3 69 yX3_takeTurn, Cond.instanceMethod yX3_takeTurn, Cond.selects RX3 yX3_takeTurn yX3_takeTurn, Cond.code yX3_takeTurn cX3_takeTurn 3 none, Cond.methodLink RX3 72 yX3_declareOverdue, Cond.instanceMethod yX3_declareOverdue, Cond.selects RX3 yX3_declareOverdue yX3_declareOverdue, Cond.code yX3_declareOverdue cX3_declareOverdue 4 none, Cond.fieldLink RX3 88 "GossipMembership$Knowledge" "deadlines" "[I", Cond.fieldLink RX3 94 "GossipMembership$World" "declared" "I", Cond.fieldLink RX3 97 "GossipMembership$World" "declaredFalsely" "I", Cond.methodLink RX3 75 yX1_nodesInState, Cond.instanceMethod yX1_nodesInState]
def wsL_roundsUntilAgreement_r4 : List Cond := [Cond.selects RX1 yX1_nodesInState yX1_nodesInState, Cond.code yX1_nodesInState cX1_nodesInState 5 (some .int), Cond.methodLink RX3 59 yX1_toldIncarnation, Cond.instanceMethod yX1_toldIncarnation, Cond.selects RX1 yX1_toldIncarnation yX1_toldIncarnation, Cond.code yX1_toldIncarnation cX1_toldIncarnation 3 (some .int), Cond.methodLink RX3 62 yX1_takeIn, Cond.instanceMethod yX1_takeIn, Cond.selects RX1 yX1_takeIn yX1_takeIn, Cond.code yX1_takeIn cX1_takeIn 6 (some .boolean), Cond.fieldLink RX1 44 "GossipMembership$Knowledge" "refuted" "I", Cond.fieldLink RX1 24 "GossipMembership$Knowledge" "counters" "[I", Cond.fieldLink RX1 31 "GossipMembership$Knowledge" "fanOut" "I", Cond.methodLink RX1 47 yX1_outweighs, Cond.instanceMethod yX1_outweighs, Cond.selects RX1 yX1_outweighs yX1_outweighs, Cond.code yX1_outweighs cX1_outweighs 4 (some .boolean), Cond.methodLink RX1 51 yX1_replaceView, Cond.instanceMethod yX1_replaceView, Cond.selects RX1 yX1_replaceView yX1_replaceView, Cond.code yX1_replaceView cX1_replaceView 4 none, Cond.fieldLink RX1 21 "GossipMembership$Knowledge" "deadlines" "[I", Cond.fieldLink RX1 34 "GossipMembership$Knowledge" "presentRound" "I", Cond.fieldLink RX1 27 "GossipMembership$Knowledge" "patience" "I"]
def wsL_roundsUntilAgreement_r5 : List Cond := [Cond.methodLink RX1 55 yX1_endQuiet, Cond.instanceMethod yX1_endQuiet, Cond.selects RX1 yX1_endQuiet yX1_endQuiet, Cond.code yX1_endQuiet cX1_endQuiet 1 none, Cond.fieldLink RX1 37 "GossipMembership$Knowledge" "lastUnquietRound" "I", Cond.methodLink RX3 78 yX3_drawFrom, Cond.instanceMethod yX3_drawFrom, Cond.selects RX3 yX3_drawFrom yX3_drawFrom, Cond.code yX3_drawFrom cX3_drawFrom 5 (some .int), Cond.fieldLink RX3 29 "GossipMembership$World" "drawSeed" "I", Cond.constantLong RX3 105 (1103515245), Cond.constantLong RX3 107 (12345), Cond.constantLong RX3 109 (2147483648), Cond.methodLink RX3 100 yJ6_bitCount_0f7a4, Cond.static yJ6_bitCount_0f7a4, Cond.initialized RJ6, Cond.code yJ6_bitCount_0f7a4 cJ6_bitCount_0f7a4 1 (some .int), Cond.constant RJ6 265 (1431655765), Cond.constant RJ6 266 (858993459), Cond.constant RJ6 267 (252645135), Cond.methodLink RX3 82 yX3_send, Cond.instanceMethod yX3_send, Cond.selects RX3 yX3_send yX3_send, Cond.code yX3_send cX3_send 8 none]
def wsL_roundsUntilAgreement_r6 : List Cond := [Cond.fieldLink RX3 114 "GossipMembership$Knowledge" "counters" "[I", Cond.fieldLink RX3 117 "GossipMembership$World" "messagesSent" "I", Cond.methodLink RX3 55 yX1_toldState, Cond.instanceMethod yX1_toldState, Cond.selects RX1 yX1_toldState yX1_toldState, Cond.code yX1_toldState cX1_toldState 3 (some .int), Cond.methodLink RX3 111 yX1_mostUrgent, Cond.instanceMethod yX1_mostUrgent, Cond.selects RX1 yX1_mostUrgent yX1_mostUrgent, Cond.code yX1_mostUrgent cX1_mostUrgent 7 (some .int), Cond.methodLink RX3 85 yX3_helpersReach, Cond.instanceMethod yX3_helpersReach, Cond.selects RX3 yX3_helpersReach yX3_helpersReach, Cond.code yX3_helpersReach cX3_helpersReach 7 (some .boolean), Cond.fieldLink RX3 25 "GossipMembership$World" "helpers" "I"]
def wsL_roundsUntilAgreement : List Cond := .codeWith yL_roundsUntilAgreement cL_roundsUntilAgreement 4 (some .int) [(0, 9, 12, 13), (0, 9, 15, 48)] :: ((wsL_roundsUntilAgreement_r1 ++ (wsL_roundsUntilAgreement_r2 ++ (wsL_roundsUntilAgreement_r3 ++ (wsL_roundsUntilAgreement_r4 ++ (wsL_roundsUntilAgreement_r5 ++ wsL_roundsUntilAgreement_r6))))) ++ wsX40 ++ wsX30 ++ wsX20 ++ wsX10 ++ (vx_atM "java/lang/ArrayIndexOutOfBoundsException" ["java/lang/IndexOutOfBoundsException", "java/lang/RuntimeException", "java/lang/Exception"]).filter goodWord ++ (vx_atS RX4 34 "java/lang/IllegalArgumentException" ["java/lang/RuntimeException", "java/lang/Exception"]).filter goodWord ++ (vx_atS RX4 140 "java/util/NoSuchElementException" ["java/lang/RuntimeException", "java/lang/Exception"]).filter goodWord ++ (vx_atM "java/lang/ArithmeticException" ["java/lang/RuntimeException", "java/lang/Exception"]).filter goodWord)
def wsL_isUp : List Cond := .codeWith yL_isUp cL_isUp 4 (some .int) [(0, 16, 19, 28)] :: ([.classLink RL 28 "java/lang/IndexOutOfBoundsException", .methodLink RL 50 yX4_isUp, .instanceMethod yX4_isUp, .selects RX4 yX4_isUp yX4_isUp, .initialized RX4, .code yX4_isUp cX4_isUp 2 (some .boolean), .fieldLink RX4 10 "GossipMembership" "world" "LGossipMembership$World;", .fieldLink RX4 65 "GossipMembership$World" "network" "LGossipMembership$Network;", .fieldLink RX4 69 "GossipMembership$Network" "up" "[Z", .methodLink RX4 61 yX4_requireNode, .static yX4_requireNode, .code yX4_requireNode cX4_requireNode 1 none, .classLink RX4 239 "java/lang/IndexOutOfBoundsException", .initialized "java/lang/IndexOutOfBoundsException"] ++ wsX40 ++ wsX30 ++ wsX20 ++ (vx_atM "java/lang/ArrayIndexOutOfBoundsException" ["java/lang/IndexOutOfBoundsException", "java/lang/RuntimeException", "java/lang/Exception"]).filter goodWord ++ (vx_atS RX4 243 "java/lang/IndexOutOfBoundsException" ["java/lang/RuntimeException", "java/lang/Exception"]).filter goodWord)
def wsL_partition : List Cond := .codeWith yL_partition cL_partition 4 (some .int) [(0, 9, 12, 28)] :: ([.classLink RL 28 "java/lang/IndexOutOfBoundsException", .methodLink RL 54 yX4_partition, .instanceMethod yX4_partition, .selects RX4 yX4_partition yX4_partition, .initialized RX4, .code yX4_partition cX4_partition 2 (some .int), .fieldLink RX4 10 "GossipMembership" "world" "LGossipMembership$World;", .fieldLink RX4 65 "GossipMembership$World" "network" "LGossipMembership$Network;", .fieldLink RX4 105 "GossipMembership$Network" "place" "[I", .methodLink RX4 61 yX4_requireNode, .static yX4_requireNode, .code yX4_requireNode cX4_requireNode 1 none, .classLink RX4 239 "java/lang/IndexOutOfBoundsException", .initialized "java/lang/IndexOutOfBoundsException"] ++ wsX40 ++ wsX30 ++ wsX20 ++ (vx_atM "java/lang/ArrayIndexOutOfBoundsException" ["java/lang/IndexOutOfBoundsException", "java/lang/RuntimeException", "java/lang/Exception"]).filter goodWord ++ (vx_atS RX4 243 "java/lang/IndexOutOfBoundsException" ["java/lang/RuntimeException", "java/lang/Exception"]).filter goodWord)
def wsL_incarnation : List Cond := .codeWith yL_incarnation cL_incarnation 4 (some .int) [(0, 9, 12, 28)] :: ([.classLink RL 28 "java/lang/IndexOutOfBoundsException", .methodLink RL 57 yX4_incarnation, .instanceMethod yX4_incarnation, .selects RX4 yX4_incarnation yX4_incarnation, .initialized RX4, .code yX4_incarnation cX4_incarnation 2 (some .int), .fieldLink RX4 10 "GossipMembership" "world" "LGossipMembership$World;", .fieldLink RX4 37 "GossipMembership$World" "knowledge" "LGossipMembership$Knowledge;", .fieldLink RX4 93 "GossipMembership$Knowledge" "ownIncarnation" "[I", .methodLink RX4 61 yX4_requireNode, .static yX4_requireNode, .code yX4_requireNode cX4_requireNode 1 none, .classLink RX4 239 "java/lang/IndexOutOfBoundsException", .initialized "java/lang/IndexOutOfBoundsException"] ++ wsX40 ++ wsX30 ++ wsX10 ++ (vx_atM "java/lang/ArrayIndexOutOfBoundsException" ["java/lang/IndexOutOfBoundsException", "java/lang/RuntimeException", "java/lang/Exception"]).filter goodWord ++ (vx_atS RX4 243 "java/lang/IndexOutOfBoundsException" ["java/lang/RuntimeException", "java/lang/Exception"]).filter goodWord)
def wsL_reaches_r1 : List Cond := [Cond.classLink RL 28 "java/lang/IndexOutOfBoundsException", Cond.methodLink RL 60 yX4_reaches, Cond.instanceMethod yX4_reaches, Cond.selects RX4 yX4_reaches yX4_reaches, Cond.initialized RX4, Cond.code yX4_reaches cX4_reaches 3 (some .boolean), Cond.fieldLink RX4 10 "GossipMembership" "world" "LGossipMembership$World;", Cond.fieldLink RX4 65 "GossipMembership$World" "network" "LGossipMembership$Network;", Cond.methodLink RX4 61 yX4_requireNode, Cond.static yX4_requireNode, Cond.code yX4_requireNode cX4_requireNode 1 none, Cond.classLink RX4 239 "java/lang/IndexOutOfBoundsException", Cond.initialized "java/lang/IndexOutOfBoundsException", Cond.methodLink RX4 141 yX2_connects, Cond.instanceMethod yX2_connects, Cond.selects RX2 yX2_connects yX2_connects, Cond.initialized RX2, Cond.code yX2_connects cX2_connects 3 (some .boolean), Cond.fieldLink RX2 9 "GossipMembership$Network" "up" "[Z", Cond.methodLink RX2 25 yX2_wouldConnect, Cond.instanceMethod yX2_wouldConnect, Cond.selects RX2 yX2_wouldConnect yX2_wouldConnect, Cond.code yX2_wouldConnect cX2_wouldConnect 3 (some .boolean), Cond.fieldLink RX2 18 "GossipMembership$Network" "place" "[I"]
def wsL_reaches_r2 : List Cond := [Cond.fieldLink RX2 22 "GossipMembership$Network" "cutLinks" "[Z", Cond.static yX4_pair, Cond.code yX4_pair cX4_pair 2 (some .int)]
def wsL_reaches : List Cond := .codeWith yL_reaches cL_reaches 5 (some .int) [(0, 17, 20, 28)] :: ((wsL_reaches_r1 ++ wsL_reaches_r2) ++ wsX40 ++ wsX30 ++ wsX20 ++ (vx_atM "java/lang/ArrayIndexOutOfBoundsException" ["java/lang/IndexOutOfBoundsException", "java/lang/RuntimeException", "java/lang/Exception"]).filter goodWord ++ (vx_atS RX4 243 "java/lang/IndexOutOfBoundsException" ["java/lang/RuntimeException", "java/lang/Exception"]).filter goodWord)
def wsL_view : List Cond := .codeWith yL_view cL_view 5 (some .int) [(0, 10, 13, 28), (0, 10, 17, 13)] :: ([.classLink RL 28 "java/lang/IndexOutOfBoundsException", .classLink RL 13 "java/lang/IllegalArgumentException", .methodLink RL 64 yX4_view, .instanceMethod yX4_view, .selects RX4 yX4_view yX4_view, .initialized RX4, .code yX4_view cX4_view 3 (some .int), .fieldLink RX4 10 "GossipMembership" "world" "LGossipMembership$World;", .fieldLink RX4 37 "GossipMembership$World" "knowledge" "LGossipMembership$Knowledge;", .fieldLink RX4 144 "GossipMembership$Knowledge" "state" "[I", .methodLink RX4 108 yX4_requireTwoNodes, .static yX4_requireTwoNodes, .code yX4_requireTwoNodes cX4_requireTwoNodes 2 none, .classLink RX4 30 "java/lang/IllegalArgumentException", .initialized "java/lang/IllegalArgumentException", .methodLink RX4 61 yX4_requireNode, .static yX4_requireNode, .code yX4_requireNode cX4_requireNode 1 none, .classLink RX4 239 "java/lang/IndexOutOfBoundsException", .initialized "java/lang/IndexOutOfBoundsException", .methodLink RX4 114 yX4_pair, .static yX4_pair, .code yX4_pair cX4_pair 2 (some .int)] ++ wsX40 ++ wsX30 ++ wsX10 ++ (vx_atM "java/lang/ArrayIndexOutOfBoundsException" ["java/lang/IndexOutOfBoundsException", "java/lang/RuntimeException", "java/lang/Exception"]).filter goodWord ++ (vx_atS RX4 34 "java/lang/IllegalArgumentException" ["java/lang/RuntimeException", "java/lang/Exception"]).filter goodWord ++ (vx_atS RX4 243 "java/lang/IndexOutOfBoundsException" ["java/lang/RuntimeException", "java/lang/Exception"]).filter goodWord)
def wsL_viewIncarnation : List Cond := .codeWith yL_viewIncarnation cL_viewIncarnation 5 (some .int) [(0, 10, 13, 28), (0, 10, 17, 13)] :: ([.classLink RL 28 "java/lang/IndexOutOfBoundsException", .classLink RL 13 "java/lang/IllegalArgumentException", .methodLink RL 67 yX4_viewIncarnation, .instanceMethod yX4_viewIncarnation, .selects RX4 yX4_viewIncarnation yX4_viewIncarnation, .initialized RX4, .code yX4_viewIncarnation cX4_viewIncarnation 3 (some .int), .fieldLink RX4 10 "GossipMembership" "world" "LGossipMembership$World;", .fieldLink RX4 37 "GossipMembership$World" "knowledge" "LGossipMembership$Knowledge;", .fieldLink RX4 147 "GossipMembership$Knowledge" "incarnations" "[I", .methodLink RX4 108 yX4_requireTwoNodes, .static yX4_requireTwoNodes, .code yX4_requireTwoNodes cX4_requireTwoNodes 2 none, .classLink RX4 30 "java/lang/IllegalArgumentException", .initialized "java/lang/IllegalArgumentException", .methodLink RX4 61 yX4_requireNode, .static yX4_requireNode, .code yX4_requireNode cX4_requireNode 1 none, .classLink RX4 239 "java/lang/IndexOutOfBoundsException", .initialized "java/lang/IndexOutOfBoundsException", .methodLink RX4 114 yX4_pair, .static yX4_pair, .code yX4_pair cX4_pair 2 (some .int)] ++ wsX40 ++ wsX30 ++ wsX10 ++ (vx_atM "java/lang/ArrayIndexOutOfBoundsException" ["java/lang/IndexOutOfBoundsException", "java/lang/RuntimeException", "java/lang/Exception"]).filter goodWord ++ (vx_atS RX4 34 "java/lang/IllegalArgumentException" ["java/lang/RuntimeException", "java/lang/Exception"]).filter goodWord ++ (vx_atS RX4 243 "java/lang/IndexOutOfBoundsException" ["java/lang/RuntimeException", "java/lang/Exception"]).filter goodWord)
def wsL_deadline_r1 : List Cond := [Cond.classLink RL 28 "java/lang/IndexOutOfBoundsException", Cond.classLink RL 13 "java/lang/IllegalArgumentException", Cond.classLink RL 48 "java/util/NoSuchElementException", Cond.methodLink RL 70 yX4_deadline, Cond.instanceMethod yX4_deadline, Cond.selects RX4 yX4_deadline yX4_deadline, Cond.initialized RX4, Cond.code yX4_deadline cX4_deadline 3 (some .int), Cond.classLink RX4 136 "java/util/NoSuchElementException", Cond.initialized "java/util/NoSuchElementException", Cond.fieldLink RX4 10 "GossipMembership" "world" "LGossipMembership$World;", Cond.fieldLink RX4 37 "GossipMembership$World" "knowledge" "LGossipMembership$Knowledge;", Cond.fieldLink RX4 144 "GossipMembership$Knowledge" "state" "[I", Cond.fieldLink RX4 152 "GossipMembership$Knowledge" "deadlines" "[I", Cond.methodLink RX4 108 yX4_requireTwoNodes, Cond.static yX4_requireTwoNodes, Cond.code yX4_requireTwoNodes cX4_requireTwoNodes 2 none, Cond.classLink RX4 30 "java/lang/IllegalArgumentException", Cond.initialized "java/lang/IllegalArgumentException", Cond.methodLink RX4 61 yX4_requireNode, Cond.static yX4_requireNode, Cond.code yX4_requireNode cX4_requireNode 1 none, Cond.classLink RX4 239 "java/lang/IndexOutOfBoundsException", Cond.initialized "java/lang/IndexOutOfBoundsException"]
def wsL_deadline_r2 : List Cond := [Cond.methodLink RX4 114 yX4_pair, Cond.static yX4_pair, Cond.code yX4_pair cX4_pair 2 (some .int)]
def wsL_deadline : List Cond := .codeWith yL_deadline cL_deadline 5 (some .int) [(0, 10, 13, 28), (0, 10, 17, 13), (0, 10, 21, 48)] :: ((wsL_deadline_r1 ++ wsL_deadline_r2) ++ wsX40 ++ wsX30 ++ wsX10 ++ (vx_atM "java/lang/ArrayIndexOutOfBoundsException" ["java/lang/IndexOutOfBoundsException", "java/lang/RuntimeException", "java/lang/Exception"]).filter goodWord ++ (vx_atS RX4 140 "java/util/NoSuchElementException" ["java/lang/RuntimeException", "java/lang/Exception"]).filter goodWord ++ (vx_atS RX4 34 "java/lang/IllegalArgumentException" ["java/lang/RuntimeException", "java/lang/Exception"]).filter goodWord ++ (vx_atS RX4 243 "java/lang/IndexOutOfBoundsException" ["java/lang/RuntimeException", "java/lang/Exception"]).filter goodWord)
def wsL_counter : List Cond := .codeWith yL_counter cL_counter 5 (some .int) [(0, 10, 13, 28)] :: ([.classLink RL 28 "java/lang/IndexOutOfBoundsException", .methodLink RL 73 yX4_counter, .instanceMethod yX4_counter, .selects RX4 yX4_counter yX4_counter, .initialized RX4, .code yX4_counter cX4_counter 3 (some .int), .fieldLink RX4 10 "GossipMembership" "world" "LGossipMembership$World;", .fieldLink RX4 37 "GossipMembership$World" "knowledge" "LGossipMembership$Knowledge;", .fieldLink RX4 155 "GossipMembership$Knowledge" "counters" "[I", .methodLink RX4 61 yX4_requireNode, .static yX4_requireNode, .code yX4_requireNode cX4_requireNode 1 none, .classLink RX4 239 "java/lang/IndexOutOfBoundsException", .initialized "java/lang/IndexOutOfBoundsException", .methodLink RX4 114 yX4_pair, .static yX4_pair, .code yX4_pair cX4_pair 2 (some .int)] ++ wsX40 ++ wsX30 ++ wsX10 ++ (vx_atM "java/lang/ArrayIndexOutOfBoundsException" ["java/lang/IndexOutOfBoundsException", "java/lang/RuntimeException", "java/lang/Exception"]).filter goodWord ++ (vx_atS RX4 243 "java/lang/IndexOutOfBoundsException" ["java/lang/RuntimeException", "java/lang/Exception"]).filter goodWord)
def wsL_tell_r1 : List Cond := [Cond.classLink RL 28 "java/lang/IndexOutOfBoundsException", Cond.classLink RL 30 "java/lang/IllegalStateException", Cond.classLink RL 13 "java/lang/IllegalArgumentException", Cond.methodLink RL 76 yX4_tell, Cond.instanceMethod yX4_tell, Cond.selects RX4 yX4_tell yX4_tell, Cond.initialized RX4, Cond.code yX4_tell cX4_tell 6 (some .boolean), Cond.classLink RX4 75 "java/lang/IllegalStateException", Cond.initialized "java/lang/IllegalStateException", Cond.classLink RX4 30 "java/lang/IllegalArgumentException", Cond.initialized "java/lang/IllegalArgumentException", Cond.fieldLink RX4 10 "GossipMembership" "world" "LGossipMembership$World;", Cond.fieldLink RX4 65 "GossipMembership$World" "network" "LGossipMembership$Network;", Cond.fieldLink RX4 69 "GossipMembership$Network" "up" "[Z", Cond.fieldLink RX4 37 "GossipMembership$World" "knowledge" "LGossipMembership$Knowledge;", Cond.methodLink RX4 61 yX4_requireNode, Cond.static yX4_requireNode, Cond.code yX4_requireNode cX4_requireNode 1 none, Cond.classLink RX4 239 "java/lang/IndexOutOfBoundsException", Cond.initialized "java/lang/IndexOutOfBoundsException", Cond.methodLink RX4 162 yX1_takeIn, Cond.instanceMethod yX1_takeIn, Cond.selects RX1 yX1_takeIn yX1_takeIn]
def wsL_tell_r2 : List Cond := [Cond.initialized RX1, Cond.code yX1_takeIn cX1_takeIn 6 (some .boolean), Cond.fieldLink RX1 9 "GossipMembership$Knowledge" "ownIncarnation" "[I", Cond.fieldLink RX1 44 "GossipMembership$Knowledge" "refuted" "I", Cond.fieldLink RX1 24 "GossipMembership$Knowledge" "counters" "[I", Cond.fieldLink RX1 31 "GossipMembership$Knowledge" "fanOut" "I", Cond.static yX4_pair, Cond.code yX4_pair cX4_pair 2 (some .int), Cond.methodLink RX1 47 yX1_outweighs, Cond.instanceMethod yX1_outweighs, Cond.selects RX1 yX1_outweighs yX1_outweighs, Cond.code yX1_outweighs cX1_outweighs 4 (some .boolean), Cond.fieldLink RX1 15 "GossipMembership$Knowledge" "state" "[I", Cond.fieldLink RX1 18 "GossipMembership$Knowledge" "incarnations" "[I", Cond.methodLink RX1 51 yX1_replaceView, Cond.instanceMethod yX1_replaceView, Cond.selects RX1 yX1_replaceView yX1_replaceView, Cond.code yX1_replaceView cX1_replaceView 4 none, Cond.fieldLink RX1 21 "GossipMembership$Knowledge" "deadlines" "[I", Cond.fieldLink RX1 34 "GossipMembership$Knowledge" "presentRound" "I", Cond.fieldLink RX1 27 "GossipMembership$Knowledge" "patience" "I", Cond.methodLink RX1 55 yX1_endQuiet, Cond.instanceMethod yX1_endQuiet, Cond.selects RX1 yX1_endQuiet yX1_endQuiet]
def wsL_tell_r3 : List Cond := [Cond.code yX1_endQuiet cX1_endQuiet 1 none, Cond.fieldLink RX1 37 "GossipMembership$Knowledge" "lastUnquietRound" "I", Cond.methodLink RX4 90 yX1_endQuiet]
def wsL_tell : List Cond := .codeWith yL_tell cL_tell 7 (some .int) [(0, 21, 24, 28), (0, 21, 28, 30), (0, 21, 32, 13)] :: ((wsL_tell_r1 ++ (wsL_tell_r2 ++ wsL_tell_r3)) ++ wsX40 ++ wsX30 ++ wsX20 ++ wsX10 ++ (vx_atM "java/lang/ArrayIndexOutOfBoundsException" ["java/lang/IndexOutOfBoundsException", "java/lang/RuntimeException", "java/lang/Exception"]).filter goodWord ++ (vx_atS RX4 79 "java/lang/IllegalStateException" ["java/lang/RuntimeException", "java/lang/Exception"]).filter goodWord ++ (vx_atS RX4 34 "java/lang/IllegalArgumentException" ["java/lang/RuntimeException", "java/lang/Exception"]).filter goodWord ++ (vx_atS RX4 243 "java/lang/IndexOutOfBoundsException" ["java/lang/RuntimeException", "java/lang/Exception"]).filter goodWord)
def wsL_alive : List Cond := .codeWith yL_alive cL_alive 4 (some .int) [(0, 9, 12, 28)] :: ([.classLink RL 28 "java/lang/IndexOutOfBoundsException", .methodLink RL 80 yX4_alive, .instanceMethod yX4_alive, .selects RX4 yX4_alive yX4_alive, .initialized RX4, .code yX4_alive cX4_alive 2 (some .int), .fieldLink RX4 10 "GossipMembership" "world" "LGossipMembership$World;", .fieldLink RX4 37 "GossipMembership$World" "knowledge" "LGossipMembership$Knowledge;", .methodLink RX4 61 yX4_requireNode, .static yX4_requireNode, .code yX4_requireNode cX4_requireNode 1 none, .classLink RX4 239 "java/lang/IndexOutOfBoundsException", .initialized "java/lang/IndexOutOfBoundsException", .methodLink RX4 166 yX1_nodesInState, .instanceMethod yX1_nodesInState, .selects RX1 yX1_nodesInState yX1_nodesInState, .initialized RX1, .code yX1_nodesInState cX1_nodesInState 5 (some .int), .fieldLink RX1 15 "GossipMembership$Knowledge" "state" "[I", .static yX4_pair, .code yX4_pair cX4_pair 2 (some .int)] ++ wsX40 ++ wsX30 ++ wsX10 ++ (vx_atM "java/lang/ArrayIndexOutOfBoundsException" ["java/lang/IndexOutOfBoundsException", "java/lang/RuntimeException", "java/lang/Exception"]).filter goodWord ++ (vx_atS RX4 243 "java/lang/IndexOutOfBoundsException" ["java/lang/RuntimeException", "java/lang/Exception"]).filter goodWord)
def wsL_appendCharacter : List Cond := .codeWith yL_appendCharacter cL_appendCharacter 4 (some .int) [(0, 9, 12, 13), (0, 9, 15, 30)] :: ([.classLink RL 13 "java/lang/IllegalArgumentException", .classLink RL 30 "java/lang/IllegalStateException", .methodLink RL 83 yX4_appendCharacter, .instanceMethod yX4_appendCharacter, .selects RX4 yX4_appendCharacter yX4_appendCharacter, .initialized RX4, .code yX4_appendCharacter cX4_appendCharacter 2 (some .int), .classLink RX4 30 "java/lang/IllegalArgumentException", .initialized "java/lang/IllegalArgumentException", .classLink RX4 75 "java/lang/IllegalStateException", .initialized "java/lang/IllegalStateException", .fieldLink RX4 22 "GossipMembership" "text" "LGossipMembership$CommandText;", .fieldLink RX4 189 "GossipMembership$CommandText" "length" "I", .fieldLink RX4 194 "GossipMembership$CommandText" "signs" "[C"] ++ wsX40 ++ wsX00 ++ (vx_atM "java/lang/ArrayIndexOutOfBoundsException" ["java/lang/IndexOutOfBoundsException", "java/lang/RuntimeException", "java/lang/Exception"]).filter goodWord ++ (vx_atS RX4 34 "java/lang/IllegalArgumentException" ["java/lang/RuntimeException", "java/lang/Exception"]).filter goodWord ++ (vx_atS RX4 79 "java/lang/IllegalStateException" ["java/lang/RuntimeException", "java/lang/Exception"]).filter goodWord)
def wsL_runText_r1 : List Cond := [Cond.classLink RL 13 "java/lang/IllegalArgumentException", Cond.classLink RL 30 "java/lang/IllegalStateException", Cond.methodLink RL 86 yX4_runText, Cond.instanceMethod yX4_runText, Cond.selects RX4 yX4_runText yX4_runText, Cond.initialized RX4, Cond.code yX4_runText cX4_runText 5 (some .int), Cond.classLink RX4 30 "java/lang/IllegalArgumentException", Cond.initialized "java/lang/IllegalArgumentException", Cond.classLink RX4 75 "java/lang/IllegalStateException", Cond.initialized "java/lang/IllegalStateException", Cond.fieldLink RX4 22 "GossipMembership" "text" "LGossipMembership$CommandText;", Cond.fieldLink RX4 189 "GossipMembership$CommandText" "length" "I", Cond.fieldLink RX4 26 "GossipMembership" "failureKind" "I", Cond.fieldLink RX4 208 "GossipMembership" "failureNumber" "I", Cond.methodLink RX4 198 yX0_findFault, Cond.instanceMethod yX0_findFault, Cond.selects RX0 yX0_findFault yX0_findFault, Cond.initialized RX0, Cond.code yX0_findFault cX0_findFault 3 (some .int), Cond.fieldLink RX0 15 "GossipMembership$CommandText" "length" "I", Cond.methodLink RX0 27 yX0_findFaultOfCommand, Cond.instanceMethod yX0_findFaultOfCommand, Cond.selects RX0 yX0_findFaultOfCommand yX0_findFaultOfCommand]
def wsL_runText_r2 : List Cond := [Cond.code yX0_findFaultOfCommand cX0_findFaultOfCommand 5 (some .int), Cond.methodLink RX0 19 yX0_signAt, Cond.instanceMethod yX0_signAt, Cond.selects RX0 yX0_signAt yX0_signAt, Cond.code yX0_signAt cX0_signAt 2 (some .char), Cond.fieldLink RX0 9 "GossipMembership$CommandText" "signs" "[C", Cond.methodLink RX0 23 yX0_digitsOf, Cond.static yX0_digitsOf, Cond.code yX0_digitsOf cX0_digitsOf 1 (some .int), Cond.methodLink RX0 34 yX0_isDigitFor, Cond.static yX0_isDigitFor, Cond.code yX0_isDigitFor cX0_isDigitFor 4 (some .boolean), Cond.methodLink RX0 31 yX0_lengthOfCommand, Cond.instanceMethod yX0_lengthOfCommand, Cond.selects RX0 yX0_lengthOfCommand yX0_lengthOfCommand, Cond.code yX0_lengthOfCommand cX0_lengthOfCommand 2 (some .int), Cond.methodLink RX4 201 yX4_carryOut, Cond.instanceMethod yX4_carryOut, Cond.selects RX4 yX4_carryOut yX4_carryOut, Cond.codeWith yX4_carryOut cX4_carryOut 4 (some .int) [(11, 118, 121, 75), (11, 118, 124, 30)], Cond.fieldLink RX4 10 "GossipMembership" "world" "LGossipMembership$World;", Cond.methodLink RX4 246 yX0_digitAt, Cond.instanceMethod yX0_digitAt, Cond.selects RX0 yX0_digitAt yX0_digitAt]
def wsL_runText_r3 : List Cond := [Cond.code yX0_digitAt cX0_digitAt 2 (some .int), Cond.methodLink RX4 249 yX0_signAt, Cond.methodLink RX4 253 yX4_crash, Cond.instanceMethod yX4_crash, Cond.selects RX4 yX4_crash yX4_crash, Cond.code yX4_crash cX4_crash 2 (some .int), Cond.fieldLink RX4 65 "GossipMembership$World" "network" "LGossipMembership$Network;", Cond.fieldLink RX4 69 "GossipMembership$Network" "up" "[Z", Cond.fieldLink RX4 37 "GossipMembership$World" "knowledge" "LGossipMembership$Knowledge;", Cond.methodLink RX4 61 yX4_requireNode, Cond.static yX4_requireNode, Cond.code yX4_requireNode cX4_requireNode 1 none, Cond.classLink RX4 239 "java/lang/IndexOutOfBoundsException", Cond.initialized "java/lang/IndexOutOfBoundsException", Cond.methodLink RX4 90 yX1_endQuiet, Cond.instanceMethod yX1_endQuiet, Cond.selects RX1 yX1_endQuiet yX1_endQuiet, Cond.initialized RX1, Cond.code yX1_endQuiet cX1_endQuiet 1 none, Cond.fieldLink RX1 34 "GossipMembership$Knowledge" "presentRound" "I", Cond.fieldLink RX1 37 "GossipMembership$Knowledge" "lastUnquietRound" "I", Cond.methodLink RX4 99 yX2_countUp, Cond.instanceMethod yX2_countUp, Cond.selects RX2 yX2_countUp yX2_countUp]
def wsL_runText_r4 : List Cond := [Cond.initialized RX2, Cond.code yX2_countUp cX2_countUp 3 (some .int), Cond.fieldLink RX2 9 "GossipMembership$Network" "up" "[Z", Cond.methodLink RX4 256 yX4_join, Cond.instanceMethod yX4_join, Cond.selects RX4 yX4_join yX4_join, Cond.code yX4_join cX4_join 3 (some .int), Cond.fieldLink RX4 93 "GossipMembership$Knowledge" "ownIncarnation" "[I", Cond.methodLink RX4 80 yX2_wouldConnect, Cond.instanceMethod yX2_wouldConnect, Cond.selects RX2 yX2_wouldConnect yX2_wouldConnect, Cond.code yX2_wouldConnect cX2_wouldConnect 3 (some .boolean), Cond.fieldLink RX2 18 "GossipMembership$Network" "place" "[I", Cond.fieldLink RX2 22 "GossipMembership$Network" "cutLinks" "[Z", Cond.static yX4_pair, Cond.code yX4_pair cX4_pair 2 (some .int), Cond.methodLink RX4 86 yX3_admit, Cond.instanceMethod yX3_admit, Cond.selects RX3 yX3_admit yX3_admit, Cond.initialized RX3, Cond.code yX3_admit cX3_admit 3 none, Cond.fieldLink RX3 12 "GossipMembership$World" "network" "LGossipMembership$Network;", Cond.fieldLink RX3 32 "GossipMembership$Network" "up" "[Z", Cond.fieldLink RX3 36 "GossipMembership$Network" "everUp" "[Z"]
def wsL_runText_r5 : List Cond := [Cond.fieldLink RX3 21 "GossipMembership$World" "knowledge" "LGossipMembership$Knowledge;", Cond.fieldLink RX3 39 "GossipMembership$Knowledge" "ownIncarnation" "[I", Cond.methodLink RX3 43 yX1_forgetAll, Cond.instanceMethod yX1_forgetAll, Cond.selects RX1 yX1_forgetAll yX1_forgetAll, Cond.code yX1_forgetAll cX1_forgetAll 3 none, Cond.fieldLink RX1 15 "GossipMembership$Knowledge" "state" "[I", Cond.fieldLink RX1 18 "GossipMembership$Knowledge" "incarnations" "[I", Cond.fieldLink RX1 24 "GossipMembership$Knowledge" "counters" "[I", Cond.fieldLink RX1 31 "GossipMembership$Knowledge" "fanOut" "I", Cond.methodLink RX3 47 yX2_connects, Cond.instanceMethod yX2_connects, Cond.selects RX2 yX2_connects yX2_connects, Cond.code yX2_connects cX2_connects 3 (some .boolean), Cond.methodLink RX2 25 yX2_wouldConnect, Cond.methodLink RX3 51 yX3_introduce, Cond.instanceMethod yX3_introduce, Cond.selects RX3 yX3_introduce yX3_introduce, Cond.code yX3_introduce cX3_introduce 5 none, Cond.methodLink RX3 55 yX1_toldState, Cond.instanceMethod yX1_toldState, Cond.selects RX1 yX1_toldState yX1_toldState, Cond.code yX1_toldState cX1_toldState 3 (some .int), Cond.methodLink RX3 59 yX1_toldIncarnation]
def wsL_runText_r6 : List Cond := [Cond.instanceMethod yX1_toldIncarnation, Cond.selects RX1 yX1_toldIncarnation yX1_toldIncarnation, Cond.code yX1_toldIncarnation cX1_toldIncarnation 3 (some .int), Cond.fieldLink RX1 9 "GossipMembership$Knowledge" "ownIncarnation" "[I", Cond.methodLink RX3 62 yX1_takeIn, Cond.instanceMethod yX1_takeIn, Cond.selects RX1 yX1_takeIn yX1_takeIn, Cond.code yX1_takeIn cX1_takeIn 6 (some .boolean), Cond.fieldLink RX1 44 "GossipMembership$Knowledge" "refuted" "I", Cond.methodLink RX1 47 yX1_outweighs, Cond.instanceMethod yX1_outweighs, Cond.selects RX1 yX1_outweighs yX1_outweighs, Cond.code yX1_outweighs cX1_outweighs 4 (some .boolean), Cond.methodLink RX1 51 yX1_replaceView, Cond.instanceMethod yX1_replaceView, Cond.selects RX1 yX1_replaceView yX1_replaceView, Cond.code yX1_replaceView cX1_replaceView 4 none, Cond.fieldLink RX1 21 "GossipMembership$Knowledge" "deadlines" "[I", Cond.fieldLink RX1 27 "GossipMembership$Knowledge" "patience" "I", Cond.methodLink RX1 55 yX1_endQuiet, Cond.methodLink RX4 259 yX4_move, Cond.instanceMethod yX4_move, Cond.selects RX4 yX4_move yX4_move, Cond.code yX4_move cX4_move 4 (some .int)]
def wsL_runText_r7 : List Cond := [Cond.fieldLink RX4 105 "GossipMembership$Network" "place" "[I", Cond.methodLink RX4 124 yX3_play, Cond.instanceMethod yX3_play, Cond.selects RX3 yX3_play yX3_play, Cond.code yX3_play cX3_play 4 none, Cond.fieldLink RX3 66 "GossipMembership$Knowledge" "presentRound" "I", Cond.methodLink RX3 69 yX3_takeTurn, Cond.instanceMethod yX3_takeTurn, Cond.selects RX3 yX3_takeTurn yX3_takeTurn, Cond.code yX3_takeTurn cX3_takeTurn 3 none, Cond.methodLink RX3 72 yX3_declareOverdue, Cond.instanceMethod yX3_declareOverdue, Cond.selects RX3 yX3_declareOverdue yX3_declareOverdue, Cond.code yX3_declareOverdue cX3_declareOverdue 4 none, Cond.fieldLink RX3 88 "GossipMembership$Knowledge" "deadlines" "[I", Cond.fieldLink RX3 94 "GossipMembership$World" "declared" "I", Cond.fieldLink RX3 97 "GossipMembership$World" "declaredFalsely" "I", Cond.methodLink RX3 75 yX1_nodesInState, Cond.instanceMethod yX1_nodesInState, Cond.selects RX1 yX1_nodesInState yX1_nodesInState, Cond.code yX1_nodesInState cX1_nodesInState 5 (some .int), Cond.methodLink RX3 78 yX3_drawFrom, Cond.instanceMethod yX3_drawFrom, Cond.selects RX3 yX3_drawFrom yX3_drawFrom]
def wsL_runText_r8 : List Cond := [Cond.code yX3_drawFrom cX3_drawFrom 5 (some .int), Cond.fieldLink RX3 29 "GossipMembership$World" "drawSeed" "I", Cond.constantLong RX3 105 (1103515245), Cond.constantLong RX3 107 (12345), Cond.constantLong RX3 109 (2147483648), Cond.methodLink RX3 100 yJ6_bitCount_0f7a4, Cond.static yJ6_bitCount_0f7a4, Cond.initialized RJ6, Cond.code yJ6_bitCount_0f7a4 cJ6_bitCount_0f7a4 1 (some .int), Cond.constant RJ6 265 (1431655765), Cond.constant RJ6 266 (858993459), Cond.constant RJ6 267 (252645135), Cond.methodLink RX3 82 yX3_send, Cond.instanceMethod yX3_send, Cond.selects RX3 yX3_send yX3_send, Cond.code yX3_send cX3_send 8 none, Cond.fieldLink RX3 114 "GossipMembership$Knowledge" "counters" "[I", Cond.fieldLink RX3 117 "GossipMembership$World" "messagesSent" "I", Cond.methodLink RX3 111 yX1_mostUrgent, Cond.instanceMethod yX1_mostUrgent, Cond.selects RX1 yX1_mostUrgent yX1_mostUrgent, Cond.code yX1_mostUrgent cX1_mostUrgent 7 (some .int), Cond.methodLink RX3 85 yX3_helpersReach, Cond.instanceMethod yX3_helpersReach]
def wsL_runText_r9 : List Cond := [Cond.selects RX3 yX3_helpersReach yX3_helpersReach, Cond.code yX3_helpersReach cX3_helpersReach 7 (some .boolean), Cond.fieldLink RX3 25 "GossipMembership$World" "helpers" "I", Cond.methodLink RX4 205 yX0_lengthOfCommand]
def wsL_runText : List Cond := .codeWith yL_runText cL_runText 3 (some .int) [(0, 8, 11, 13), (0, 8, 14, 30)] :: ((wsL_runText_r1 ++ (wsL_runText_r2 ++ (wsL_runText_r3 ++ (wsL_runText_r4 ++ (wsL_runText_r5 ++ (wsL_runText_r6 ++ (wsL_runText_r7 ++ (wsL_runText_r8 ++ wsL_runText_r9)))))))) ++ wsX40 ++ wsX00 ++ wsX30 ++ wsX20 ++ wsX10 ++ (vx_atM "java/lang/ArrayIndexOutOfBoundsException" ["java/lang/IndexOutOfBoundsException", "java/lang/RuntimeException", "java/lang/Exception"]).filter goodWord ++ (vx_atS RX4 34 "java/lang/IllegalArgumentException" ["java/lang/RuntimeException", "java/lang/Exception"]).filter goodWord ++ (vx_atS RX4 79 "java/lang/IllegalStateException" ["java/lang/RuntimeException", "java/lang/Exception"]).filter goodWord ++ (vx_atS RX4 243 "java/lang/IndexOutOfBoundsException" ["java/lang/RuntimeException", "java/lang/Exception"]).filter goodWord ++ (vx_atM "java/lang/ArithmeticException" ["java/lang/RuntimeException", "java/lang/Exception"]).filter goodWord)
def wsL_failure : List Cond := .codeWith yL_failure cL_failure 4 (some .int) [(0, 9, 12, 13), (0, 9, 15, 48)] :: ([.classLink RL 13 "java/lang/IllegalArgumentException", .classLink RL 48 "java/util/NoSuchElementException", .methodLink RL 90 yX4_failure, .instanceMethod yX4_failure, .selects RX4 yX4_failure yX4_failure, .initialized RX4, .code yX4_failure cX4_failure 2 (some .int), .classLink RX4 30 "java/lang/IllegalArgumentException", .initialized "java/lang/IllegalArgumentException", .classLink RX4 136 "java/util/NoSuchElementException", .initialized "java/util/NoSuchElementException", .fieldLink RX4 26 "GossipMembership" "failureKind" "I", .fieldLink RX4 208 "GossipMembership" "failureNumber" "I"] ++ wsX40 ++ (vx_atM "java/lang/ArrayIndexOutOfBoundsException" ["java/lang/IndexOutOfBoundsException", "java/lang/RuntimeException", "java/lang/Exception"]).filter goodWord ++ (vx_atS RX4 34 "java/lang/IllegalArgumentException" ["java/lang/RuntimeException", "java/lang/Exception"]).filter goodWord ++ (vx_atS RX4 140 "java/util/NoSuchElementException" ["java/lang/RuntimeException", "java/lang/Exception"]).filter goodWord)
def wsL_averageCounter : List Cond := .codeWith yL_averageCounter cL_averageCounter 4 (some .int) [(0, 8, 11, 28)] :: ([.classLink RL 28 "java/lang/IndexOutOfBoundsException", .methodLink RL 93 yX4_averageCounter, .instanceMethod yX4_averageCounter, .selects RX4 yX4_averageCounter yX4_averageCounter, .initialized RX4, .code yX4_averageCounter cX4_averageCounter 2 (some .double), .fieldLink RX4 10 "GossipMembership" "world" "LGossipMembership$World;", .fieldLink RX4 37 "GossipMembership$World" "knowledge" "LGossipMembership$Knowledge;", .constantDouble RX4 222 (4620693217682128896), .methodLink RX4 61 yX4_requireNode, .static yX4_requireNode, .code yX4_requireNode cX4_requireNode 1 none, .classLink RX4 239 "java/lang/IndexOutOfBoundsException", .initialized "java/lang/IndexOutOfBoundsException", .methodLink RX4 219 yX1_sumOfCounters, .instanceMethod yX1_sumOfCounters, .selects RX1 yX1_sumOfCounters yX1_sumOfCounters, .initialized RX1, .code yX1_sumOfCounters cX1_sumOfCounters 4 (some .int), .fieldLink RX1 24 "GossipMembership$Knowledge" "counters" "[I", .static yX4_pair, .code yX4_pair cX4_pair 2 (some .int)] ++ wsX40 ++ wsX30 ++ wsX10 ++ (vx_atM "java/lang/ArrayIndexOutOfBoundsException" ["java/lang/IndexOutOfBoundsException", "java/lang/RuntimeException", "java/lang/Exception"]).filter goodWord ++ (vx_atS RX4 243 "java/lang/IndexOutOfBoundsException" ["java/lang/RuntimeException", "java/lang/Exception"]).filter goodWord)
def wsL_falseShare : List Cond := .codeWith yL_falseShare cL_falseShare 3 (some .int) [(0, 8, 11, 101)] :: ([.classLink RL 101 "java/lang/ArithmeticException", .methodLink RL 97 yX4_falseShare, .instanceMethod yX4_falseShare, .selects RX4 yX4_falseShare yX4_falseShare, .initialized RX4, .code yX4_falseShare cX4_falseShare 1 (some .float), .classLink RX4 224 "java/lang/ArithmeticException", .initialized "java/lang/ArithmeticException", .fieldLink RX4 10 "GossipMembership" "world" "LGossipMembership$World;", .fieldLink RX4 172 "GossipMembership$World" "declared" "I", .fieldLink RX4 175 "GossipMembership$World" "declaredFalsely" "I"] ++ wsX40 ++ wsX30 ++ (vx_atM "java/lang/ArrayIndexOutOfBoundsException" ["java/lang/IndexOutOfBoundsException", "java/lang/RuntimeException", "java/lang/Exception"]).filter goodWord ++ (vx_atS RX4 228 "java/lang/ArithmeticException" ["java/lang/RuntimeException", "java/lang/Exception"]).filter goodWord)
def wsL_restore_r1 : List Cond := [Cond.classLink RL 30 "java/lang/IllegalStateException", Cond.methodLink RL 103 yX4_restore, Cond.instanceMethod yX4_restore, Cond.selects RX4 yX4_restore yX4_restore, Cond.initialized RX4, Cond.code yX4_restore cX4_restore 1 none, Cond.classLink RX4 75 "java/lang/IllegalStateException", Cond.initialized "java/lang/IllegalStateException", Cond.fieldLink RX4 233 "GossipMembership" "somethingSaved" "Z", Cond.fieldLink RX4 10 "GossipMembership" "world" "LGossipMembership$World;", Cond.fieldLink RX4 16 "GossipMembership" "savedWorld" "LGossipMembership$World;", Cond.methodLink RX4 229 yX3_copyFrom, Cond.instanceMethod yX3_copyFrom, Cond.selects RX3 yX3_copyFrom yX3_copyFrom, Cond.initialized RX3, Cond.code yX3_copyFrom cX3_copyFrom 2 none, Cond.fieldLink RX3 12 "GossipMembership$World" "network" "LGossipMembership$Network;", Cond.fieldLink RX3 21 "GossipMembership$World" "knowledge" "LGossipMembership$Knowledge;", Cond.fieldLink RX3 25 "GossipMembership$World" "helpers" "I", Cond.fieldLink RX3 29 "GossipMembership$World" "drawSeed" "I", Cond.fieldLink RX3 94 "GossipMembership$World" "declared" "I", Cond.fieldLink RX3 97 "GossipMembership$World" "declaredFalsely" "I", Cond.fieldLink RX3 117 "GossipMembership$World" "messagesSent" "I", Cond.methodLink RX3 129 yX2_copyFrom]
def wsL_restore_r2 : List Cond := [Cond.instanceMethod yX2_copyFrom, Cond.selects RX2 yX2_copyFrom yX2_copyFrom, Cond.initialized RX2, Cond.code yX2_copyFrom cX2_copyFrom 3 none, Cond.fieldLink RX2 9 "GossipMembership$Network" "up" "[Z", Cond.fieldLink RX2 15 "GossipMembership$Network" "everUp" "[Z", Cond.fieldLink RX2 18 "GossipMembership$Network" "place" "[I", Cond.fieldLink RX2 22 "GossipMembership$Network" "cutLinks" "[Z", Cond.methodLink RX3 133 yX1_copyFrom, Cond.instanceMethod yX1_copyFrom, Cond.selects RX1 yX1_copyFrom yX1_copyFrom, Cond.initialized RX1, Cond.code yX1_copyFrom cX1_copyFrom 2 none, Cond.fieldLink RX1 9 "GossipMembership$Knowledge" "ownIncarnation" "[I", Cond.methodLink RX1 62 arraycopyName, Cond.native arraycopyName, Cond.static arraycopyName, Cond.initialized "java/lang/System", Cond.fieldLink RX1 15 "GossipMembership$Knowledge" "state" "[I", Cond.fieldLink RX1 18 "GossipMembership$Knowledge" "incarnations" "[I", Cond.fieldLink RX1 21 "GossipMembership$Knowledge" "deadlines" "[I", Cond.fieldLink RX1 24 "GossipMembership$Knowledge" "counters" "[I", Cond.fieldLink RX1 27 "GossipMembership$Knowledge" "patience" "I", Cond.fieldLink RX1 31 "GossipMembership$Knowledge" "fanOut" "I"]
def wsL_restore_r3 : List Cond := [Cond.fieldLink RX1 34 "GossipMembership$Knowledge" "presentRound" "I", Cond.fieldLink RX1 37 "GossipMembership$Knowledge" "lastUnquietRound" "I", Cond.fieldLink RX1 44 "GossipMembership$Knowledge" "refuted" "I"]
def wsL_restore : List Cond := .codeWith yL_restore cL_restore 2 (some .int) [(0, 4, 7, 30)] :: ((wsL_restore_r1 ++ (wsL_restore_r2 ++ wsL_restore_r3)) ++ wsX40 ++ wsX30 ++ wsX20 ++ wsX10 ++ (vx_atS RX4 79 "java/lang/IllegalStateException" ["java/lang/RuntimeException", "java/lang/Exception"]).filter goodWord ++ (vx_atM "java/lang/ArrayIndexOutOfBoundsException" ["java/lang/IndexOutOfBoundsException", "java/lang/RuntimeException", "java/lang/Exception"]).filter goodWord)
def wsL_law0_r1 : List Cond := [Cond.classLink RL 8 RX4, Cond.instantiable RX4 6, Cond.initialized RX4, Cond.classLink RL 107 RX5, Cond.instantiable RX5 12, Cond.initialized RX5, Cond.arrayClass .long, Cond.arrayClass .double, Cond.methodLink RL 106 yX4_init, Cond.instanceMethod yX4_init, Cond.code yX4_init cX4_init 1 none, Cond.methodLink RX4 1 objectInit, Cond.instanceMethod objectInit, Cond.code objectInit ⟨#[0xb1]⟩ 1 none, Cond.classLink RX4 7 RX3, Cond.instantiable RX3 7, Cond.initialized RX3, Cond.fieldLink RX4 10 "GossipMembership" "world" "LGossipMembership$World;", Cond.fieldLink RX4 16 "GossipMembership" "savedWorld" "LGossipMembership$World;", Cond.classLink RX4 19 RX0, Cond.instantiable RX0 2, Cond.initialized RX0, Cond.fieldLink RX4 22 "GossipMembership" "text" "LGossipMembership$CommandText;", Cond.fieldLink RX4 26 "GossipMembership" "failureKind" "I"]
def wsL_law0_r2 : List Cond := [Cond.instanceMethod yX3_init, Cond.code yX3_init cX3_init 1 none, Cond.methodLink RX3 3 objectInit, Cond.classLink RX3 9 RX2, Cond.instantiable RX2 4, Cond.initialized RX2, Cond.fieldLink RX3 12 "GossipMembership$World" "network" "LGossipMembership$Network;", Cond.classLink RX3 18 RX1, Cond.instantiable RX1 10, Cond.initialized RX1, Cond.fieldLink RX3 21 "GossipMembership$World" "knowledge" "LGossipMembership$Knowledge;", Cond.fieldLink RX3 25 "GossipMembership$World" "helpers" "I", Cond.fieldLink RX3 29 "GossipMembership$World" "drawSeed" "I", Cond.instanceMethod yX2_init, Cond.code yX2_init cX2_init 1 none, Cond.methodLink RX2 3 objectInit, Cond.arrayClass .boolean, Cond.fieldLink RX2 9 "GossipMembership$Network" "up" "[Z", Cond.fieldLink RX2 15 "GossipMembership$Network" "everUp" "[Z", Cond.arrayClass .int, Cond.fieldLink RX2 18 "GossipMembership$Network" "place" "[I", Cond.fieldLink RX2 22 "GossipMembership$Network" "cutLinks" "[Z", Cond.instanceMethod yX1_init, Cond.code yX1_init cX1_init 1 none]
def wsL_law0_r3 : List Cond := [Cond.methodLink RX1 3 objectInit, Cond.fieldLink RX1 9 "GossipMembership$Knowledge" "ownIncarnation" "[I", Cond.fieldLink RX1 15 "GossipMembership$Knowledge" "state" "[I", Cond.fieldLink RX1 18 "GossipMembership$Knowledge" "incarnations" "[I", Cond.fieldLink RX1 21 "GossipMembership$Knowledge" "deadlines" "[I", Cond.fieldLink RX1 24 "GossipMembership$Knowledge" "counters" "[I", Cond.fieldLink RX1 27 "GossipMembership$Knowledge" "patience" "I", Cond.fieldLink RX1 31 "GossipMembership$Knowledge" "fanOut" "I", Cond.instanceMethod yX0_init, Cond.code yX0_init cX0_init 1 none, Cond.methodLink RX0 3 objectInit, Cond.arrayClass .char, Cond.fieldLink RX0 9 "GossipMembership$CommandText" "signs" "[C", Cond.methodLink RL 109 yX5_init, Cond.instanceMethod yX5_init, Cond.code yX5_init cX5_init 1 none, Cond.methodLink RX5 1 objectInit, Cond.fieldLink RX5 7 "GossipMembershipModel" "s" "[I", Cond.fieldLink RX5 13 "GossipMembershipModel" "saved" "[I", Cond.fieldLink RX5 16 "GossipMembershipModel" "text" "[I", Cond.fieldLink RX5 19 "GossipMembershipModel" "sent" "[I", Cond.methodLink RL 110 yL_setPatience, Cond.static yL_setPatience, Cond.initialized RL]
def wsL_law0_r4 : List Cond := [Cond.codeWith yL_setPatience cL_setPatience 4 (some .int) [(0, 9, 12, 13)], Cond.classLink RL 13 "java/lang/IllegalArgumentException", Cond.methodLink RL 7 yX4_setPatience, Cond.instanceMethod yX4_setPatience, Cond.selects RX4 yX4_setPatience yX4_setPatience, Cond.code yX4_setPatience cX4_setPatience 3 (some .int), Cond.classLink RX4 30 "java/lang/IllegalArgumentException", Cond.initialized "java/lang/IllegalArgumentException", Cond.fieldLink RX4 37 "GossipMembership$World" "knowledge" "LGossipMembership$Knowledge;", Cond.fieldLink RX4 41 "GossipMembership$Knowledge" "patience" "I", Cond.methodLink RL 115 yX5_setPatience, Cond.instanceMethod yX5_setPatience, Cond.selects RX5 yX5_setPatience yX5_setPatience, Cond.code yX5_setPatience cX5_setPatience 2 (some .int), Cond.methodLink RX5 103 yX5_sets, Cond.instanceMethod yX5_sets, Cond.selects RX5 yX5_sets yX5_sets, Cond.code yX5_sets cX5_sets 6 (some .int), Cond.fieldLink RX5 22 "GossipMembershipModel" "thrown" "I", Cond.methodLink RX5 26 yX5_in, Cond.static yX5_in, Cond.code yX5_in cX5_in 3 (some .boolean), Cond.methodLink RX5 100 yX5_fails, Cond.instanceMethod yX5_fails]
def wsL_law0_r5 : List Cond := [Cond.selects RX5 yX5_fails yX5_fails, Cond.code yX5_fails cX5_fails 2 (some .int), Cond.methodLink RL 116 yX5_thrown, Cond.instanceMethod yX5_thrown, Cond.selects RX5 yX5_thrown yX5_thrown, Cond.code yX5_thrown cX5_thrown 1 (some .int), Cond.methodLink RL 119 yL_setFanOut, Cond.static yL_setFanOut, Cond.codeWith yL_setFanOut cL_setFanOut 4 (some .int) [(0, 9, 12, 13)], Cond.methodLink RL 15 yX4_setFanOut, Cond.instanceMethod yX4_setFanOut, Cond.selects RX4 yX4_setFanOut yX4_setFanOut, Cond.code yX4_setFanOut cX4_setFanOut 3 (some .int), Cond.fieldLink RX4 48 "GossipMembership$Knowledge" "fanOut" "I", Cond.methodLink RL 121 yX5_setFanOut, Cond.instanceMethod yX5_setFanOut, Cond.selects RX5 yX5_setFanOut yX5_setFanOut, Cond.code yX5_setFanOut cX5_setFanOut 2 (some .int), Cond.methodLink RL 122 yL_setHelpers, Cond.static yL_setHelpers, Cond.codeWith yL_setHelpers cL_setHelpers 4 (some .int) [(0, 9, 12, 13)], Cond.methodLink RL 18 yX4_setHelpers, Cond.instanceMethod yX4_setHelpers, Cond.selects RX4 yX4_setHelpers yX4_setHelpers]
def wsL_law0_r6 : List Cond := [Cond.code yX4_setHelpers cX4_setHelpers 3 (some .int), Cond.fieldLink RX4 53 "GossipMembership$World" "helpers" "I", Cond.methodLink RL 124 yX5_setHelpers, Cond.instanceMethod yX5_setHelpers, Cond.selects RX5 yX5_setHelpers yX5_setHelpers, Cond.code yX5_setHelpers cX5_setHelpers 2 (some .int), Cond.methodLink RL 125 yL_setSeed, Cond.static yL_setSeed, Cond.codeWith yL_setSeed cL_setSeed 4 (some .int) [(0, 9, 12, 13)], Cond.methodLink RL 21 yX4_setSeed, Cond.instanceMethod yX4_setSeed, Cond.selects RX4 yX4_setSeed yX4_setSeed, Cond.code yX4_setSeed cX4_setSeed 3 (some .int), Cond.fieldLink RX4 58 "GossipMembership$World" "drawSeed" "I", Cond.methodLink RL 127 yX5_setSeed, Cond.instanceMethod yX5_setSeed, Cond.selects RX5 yX5_setSeed yX5_setSeed, Cond.code yX5_setSeed cX5_setSeed 2 (some .int), Cond.constant RX5 107 (2147483647), Cond.methodLink RL 128 yX4_seed, Cond.instanceMethod yX4_seed, Cond.selects RX4 yX4_seed yX4_seed, Cond.code yX4_seed cX4_seed 1 (some .int), Cond.methodLink RL 131 yX5_seed]
def wsL_law0_r7 : List Cond := [Cond.instanceMethod yX5_seed, Cond.selects RX5 yX5_seed yX5_seed, Cond.code yX5_seed cX5_seed 1 (some .int), Cond.methodLink RL 132 yL_join, Cond.static yL_join, Cond.codeWith yL_join cL_join 5 (some .int) [(0, 10, 13, 28), (0, 10, 17, 30), (0, 10, 21, 13)], Cond.classLink RL 28 "java/lang/IndexOutOfBoundsException", Cond.classLink RL 30 "java/lang/IllegalStateException", Cond.methodLink RL 24 yX4_join, Cond.instanceMethod yX4_join, Cond.selects RX4 yX4_join yX4_join, Cond.code yX4_join cX4_join 3 (some .int), Cond.classLink RX4 75 "java/lang/IllegalStateException", Cond.initialized "java/lang/IllegalStateException", Cond.fieldLink RX4 65 "GossipMembership$World" "network" "LGossipMembership$Network;", Cond.fieldLink RX4 69 "GossipMembership$Network" "up" "[Z", Cond.fieldLink RX4 93 "GossipMembership$Knowledge" "ownIncarnation" "[I", Cond.methodLink RX4 61 yX4_requireNode, Cond.static yX4_requireNode, Cond.code yX4_requireNode cX4_requireNode 1 none, Cond.classLink RX4 239 "java/lang/IndexOutOfBoundsException", Cond.initialized "java/lang/IndexOutOfBoundsException", Cond.methodLink RX4 80 yX2_wouldConnect, Cond.instanceMethod yX2_wouldConnect]
def wsL_law0_r8 : List Cond := [Cond.selects RX2 yX2_wouldConnect yX2_wouldConnect, Cond.code yX2_wouldConnect cX2_wouldConnect 3 (some .boolean), Cond.static yX4_pair, Cond.code yX4_pair cX4_pair 2 (some .int), Cond.methodLink RX4 86 yX3_admit, Cond.instanceMethod yX3_admit, Cond.selects RX3 yX3_admit yX3_admit, Cond.code yX3_admit cX3_admit 3 none, Cond.fieldLink RX3 32 "GossipMembership$Network" "up" "[Z", Cond.fieldLink RX3 36 "GossipMembership$Network" "everUp" "[Z", Cond.fieldLink RX3 39 "GossipMembership$Knowledge" "ownIncarnation" "[I", Cond.methodLink RX3 43 yX1_forgetAll, Cond.instanceMethod yX1_forgetAll, Cond.selects RX1 yX1_forgetAll yX1_forgetAll, Cond.code yX1_forgetAll cX1_forgetAll 3 none, Cond.methodLink RX3 47 yX2_connects, Cond.instanceMethod yX2_connects, Cond.selects RX2 yX2_connects yX2_connects, Cond.code yX2_connects cX2_connects 3 (some .boolean), Cond.methodLink RX2 25 yX2_wouldConnect, Cond.methodLink RX3 51 yX3_introduce, Cond.instanceMethod yX3_introduce, Cond.selects RX3 yX3_introduce yX3_introduce, Cond.code yX3_introduce cX3_introduce 5 none]
def wsL_law0_r9 : List Cond := [Cond.methodLink RX3 55 yX1_toldState, Cond.instanceMethod yX1_toldState, Cond.selects RX1 yX1_toldState yX1_toldState, Cond.code yX1_toldState cX1_toldState 3 (some .int), Cond.methodLink RX3 59 yX1_toldIncarnation, Cond.instanceMethod yX1_toldIncarnation, Cond.selects RX1 yX1_toldIncarnation yX1_toldIncarnation, Cond.code yX1_toldIncarnation cX1_toldIncarnation 3 (some .int), Cond.methodLink RX3 62 yX1_takeIn, Cond.instanceMethod yX1_takeIn, Cond.selects RX1 yX1_takeIn yX1_takeIn, Cond.code yX1_takeIn cX1_takeIn 6 (some .boolean), Cond.fieldLink RX1 44 "GossipMembership$Knowledge" "refuted" "I", Cond.methodLink RX1 47 yX1_outweighs, Cond.instanceMethod yX1_outweighs, Cond.selects RX1 yX1_outweighs yX1_outweighs, Cond.code yX1_outweighs cX1_outweighs 4 (some .boolean), Cond.methodLink RX1 51 yX1_replaceView, Cond.instanceMethod yX1_replaceView, Cond.selects RX1 yX1_replaceView yX1_replaceView, Cond.code yX1_replaceView cX1_replaceView 4 none, Cond.fieldLink RX1 34 "GossipMembership$Knowledge" "presentRound" "I", Cond.methodLink RX1 55 yX1_endQuiet, Cond.instanceMethod yX1_endQuiet]
def wsL_law0_r10 : List Cond := [Cond.selects RX1 yX1_endQuiet yX1_endQuiet, Cond.code yX1_endQuiet cX1_endQuiet 1 none, Cond.fieldLink RX1 37 "GossipMembership$Knowledge" "lastUnquietRound" "I", Cond.methodLink RX4 90 yX1_endQuiet, Cond.methodLink RL 135 yX5_join, Cond.instanceMethod yX5_join, Cond.selects RX5 yX5_join yX5_join, Cond.code yX5_join cX5_join 4 (some .int), Cond.methodLink RX5 108 yX5_isNode, Cond.static yX5_isNode, Cond.code yX5_isNode cX5_isNode 1 (some .boolean), Cond.methodLink RX5 30 yX5_areLinked, Cond.instanceMethod yX5_areLinked, Cond.selects RX5 yX5_areLinked yX5_areLinked, Cond.code yX5_areLinked cX5_areLinked 3 (some .boolean), Cond.methodLink RX5 34 yX5_pair, Cond.static yX5_pair, Cond.code yX5_pair cX5_pair 2 (some .int), Cond.methodLink RX5 38 yX5_changes, Cond.instanceMethod yX5_changes, Cond.selects RX5 yX5_changes yX5_changes, Cond.code yX5_changes cX5_changes 3 none, Cond.methodLink RX5 112 yX5_greets, Cond.instanceMethod yX5_greets]
def wsL_law0_r11 : List Cond := [Cond.selects RX5 yX5_greets yX5_greets, Cond.code yX5_greets cX5_greets 5 none, Cond.methodLink RX5 58 yX5_takesIn, Cond.instanceMethod yX5_takesIn, Cond.selects RX5 yX5_takesIn yX5_takesIn, Cond.code yX5_takesIn cX5_takesIn 9 (some .boolean), Cond.methodLink RX5 42 yX5_refutes, Cond.instanceMethod yX5_refutes, Cond.selects RX5 yX5_refutes yX5_refutes, Cond.code yX5_refutes cX5_refutes 4 (some .boolean), Cond.methodLink RX5 45 yX5_becomes, Cond.instanceMethod yX5_becomes, Cond.selects RX5 yX5_becomes yX5_becomes, Cond.code yX5_becomes cX5_becomes 6 none, Cond.methodLink RL 136 yL_crash, Cond.static yL_crash, Cond.codeWith yL_crash cL_crash 4 (some .int) [(0, 9, 12, 28), (0, 9, 15, 30)], Cond.methodLink RL 32 yX4_crash, Cond.instanceMethod yX4_crash, Cond.selects RX4 yX4_crash yX4_crash, Cond.code yX4_crash cX4_crash 2 (some .int), Cond.methodLink RX4 99 yX2_countUp, Cond.instanceMethod yX2_countUp, Cond.selects RX2 yX2_countUp yX2_countUp]
def wsL_law0_r12 : List Cond := [Cond.code yX2_countUp cX2_countUp 3 (some .int), Cond.methodLink RL 138 yX5_crash, Cond.instanceMethod yX5_crash, Cond.selects RX5 yX5_crash yX5_crash, Cond.code yX5_crash cX5_crash 4 (some .int), Cond.methodLink RL 139 yL_move, Cond.static yL_move, Cond.codeWith yL_move cL_move 5 (some .int) [(0, 10, 13, 28), (0, 10, 17, 13)], Cond.methodLink RL 35 yX4_move, Cond.instanceMethod yX4_move, Cond.selects RX4 yX4_move yX4_move, Cond.code yX4_move cX4_move 4 (some .int), Cond.fieldLink RX4 105 "GossipMembership$Network" "place" "[I", Cond.methodLink RL 141 yX5_move, Cond.instanceMethod yX5_move, Cond.selects RX5 yX5_move yX5_move, Cond.code yX5_move cX5_move 4 (some .int), Cond.methodLink RL 142 yL_cut, Cond.static yL_cut, Cond.codeWith yL_cut cL_cut 6 (some .int) [(0, 19, 22, 28), (0, 19, 26, 13)], Cond.methodLink RL 38 yX4_cut, Cond.instanceMethod yX4_cut, Cond.selects RX4 yX4_cut yX4_cut, Cond.code yX4_cut cX4_cut 5 (some .boolean)]
def wsL_law0_r13 : List Cond := [Cond.fieldLink RX4 111 "GossipMembership$Network" "cutLinks" "[Z", Cond.methodLink RX4 108 yX4_requireTwoNodes, Cond.static yX4_requireTwoNodes, Cond.code yX4_requireTwoNodes cX4_requireTwoNodes 2 none, Cond.methodLink RX4 114 yX4_pair, Cond.methodLink RX4 118 yX2_setCut, Cond.instanceMethod yX2_setCut, Cond.selects RX2 yX2_setCut yX2_setCut, Cond.code yX2_setCut cX2_setCut 4 none, Cond.methodLink RL 145 yX5_cut, Cond.instanceMethod yX5_cut, Cond.selects RX5 yX5_cut yX5_cut, Cond.code yX5_cut cX5_cut 5 (some .boolean), Cond.methodLink RL 146 yL_rounds, Cond.static yL_rounds, Cond.codeWith yL_rounds cL_rounds 4 (some .int) [(0, 9, 12, 13)], Cond.methodLink RL 42 yX4_rounds, Cond.instanceMethod yX4_rounds, Cond.selects RX4 yX4_rounds yX4_rounds, Cond.code yX4_rounds cX4_rounds 2 (some .int), Cond.fieldLink RX4 127 "GossipMembership$Knowledge" "presentRound" "I", Cond.methodLink RX4 124 yX3_play, Cond.instanceMethod yX3_play, Cond.selects RX3 yX3_play yX3_play]
def wsL_law0_r14 : List Cond := [Cond.code yX3_play cX3_play 4 none, Cond.fieldLink RX3 66 "GossipMembership$Knowledge" "presentRound" "I", Cond.methodLink RX3 69 yX3_takeTurn, Cond.instanceMethod yX3_takeTurn, Cond.selects RX3 yX3_takeTurn yX3_takeTurn, Cond.code yX3_takeTurn cX3_takeTurn 3 none, Cond.methodLink RX3 72 yX3_declareOverdue, Cond.instanceMethod yX3_declareOverdue, Cond.selects RX3 yX3_declareOverdue yX3_declareOverdue, Cond.code yX3_declareOverdue cX3_declareOverdue 4 none, Cond.fieldLink RX3 88 "GossipMembership$Knowledge" "deadlines" "[I", Cond.fieldLink RX3 94 "GossipMembership$World" "declared" "I", Cond.fieldLink RX3 97 "GossipMembership$World" "declaredFalsely" "I", Cond.methodLink RX3 75 yX1_nodesInState, Cond.instanceMethod yX1_nodesInState, Cond.selects RX1 yX1_nodesInState yX1_nodesInState, Cond.code yX1_nodesInState cX1_nodesInState 5 (some .int), Cond.methodLink RX3 78 yX3_drawFrom, Cond.instanceMethod yX3_drawFrom, Cond.selects RX3 yX3_drawFrom yX3_drawFrom, Cond.code yX3_drawFrom cX3_drawFrom 5 (some .int), Cond.constantLong RX3 105 (1103515245), Cond.constantLong RX3 107 (12345), Cond.constantLong RX3 109 (2147483648)]
def wsL_law0_r15 : List Cond := [Cond.methodLink RX3 100 yJ6_bitCount_0f7a4, Cond.static yJ6_bitCount_0f7a4, Cond.initialized RJ6, Cond.code yJ6_bitCount_0f7a4 cJ6_bitCount_0f7a4 1 (some .int), Cond.constant RJ6 265 (1431655765), Cond.constant RJ6 266 (858993459), Cond.constant RJ6 267 (252645135), Cond.methodLink RX3 82 yX3_send, Cond.instanceMethod yX3_send, Cond.selects RX3 yX3_send yX3_send, Cond.code yX3_send cX3_send 8 none, Cond.fieldLink RX3 114 "GossipMembership$Knowledge" "counters" "[I", Cond.fieldLink RX3 117 "GossipMembership$World" "messagesSent" "I", Cond.methodLink RX3 111 yX1_mostUrgent, Cond.instanceMethod yX1_mostUrgent, Cond.selects RX1 yX1_mostUrgent yX1_mostUrgent, Cond.code yX1_mostUrgent cX1_mostUrgent 7 (some .int), Cond.methodLink RX3 85 yX3_helpersReach, Cond.instanceMethod yX3_helpersReach, Cond.selects RX3 yX3_helpersReach yX3_helpersReach, Cond.code yX3_helpersReach cX3_helpersReach 7 (some .boolean), Cond.methodLink RL 148 yX5_rounds, Cond.instanceMethod yX5_rounds, Cond.selects RX5 yX5_rounds yX5_rounds]
def wsL_law0_r16 : List Cond := [Cond.code yX5_rounds cX5_rounds 3 (some .int), Cond.methodLink RX5 115 yX5_round1, Cond.instanceMethod yX5_round1, Cond.selects RX5 yX5_round1 yX5_round1, Cond.code yX5_round1 cX5_round1 2 none, Cond.methodLink RX5 97 yX5_turns, Cond.instanceMethod yX5_turns, Cond.selects RX5 yX5_turns yX5_turns, Cond.code yX5_turns cX5_turns 4 none, Cond.methodLink RX5 87 yX5_declares, Cond.instanceMethod yX5_declares, Cond.selects RX5 yX5_declares yX5_declares, Cond.code yX5_declares cX5_declares 4 none, Cond.methodLink RX5 77 yX5_canReach, Cond.instanceMethod yX5_canReach, Cond.selects RX5 yX5_canReach yX5_canReach, Cond.code yX5_canReach cX5_canReach 3 (some .boolean), Cond.methodLink RX5 80 yX5_viewed, Cond.instanceMethod yX5_viewed, Cond.selects RX5 yX5_viewed yX5_viewed, Cond.code yX5_viewed cX5_viewed 6 (some .int), Cond.methodLink RX5 84 yX5_drawn, Cond.instanceMethod yX5_drawn, Cond.selects RX5 yX5_drawn yX5_drawn]
def wsL_law0_r17 : List Cond := [Cond.code yX5_drawn cX5_drawn 4 (some .int), Cond.methodLink RX5 70 yX5_bits, Cond.static yX5_bits, Cond.code yX5_bits cX5_bits 3 (some .int), Cond.methodLink RX5 74 yX5_draws, Cond.instanceMethod yX5_draws, Cond.selects RX5 yX5_draws yX5_draws, Cond.code yX5_draws cX5_draws 4 (some .int), Cond.constantLong RX5 62 (1103515245), Cond.constantLong RX5 64 (12345), Cond.constantLong RX5 66 (2147483648), Cond.constantLong RX5 68 (256), Cond.methodLink RX5 91 yX5_sends, Cond.instanceMethod yX5_sends, Cond.selects RX5 yX5_sends yX5_sends, Cond.code yX5_sends cX5_sends 6 none, Cond.fieldLink RX5 49 "GossipMembershipModel" "sentMany" "I", Cond.methodLink RX5 55 yX5_composes, Cond.instanceMethod yX5_composes, Cond.selects RX5 yX5_composes yX5_composes, Cond.code yX5_composes cX5_composes 7 none, Cond.methodLink RX5 52 yX5_mostCounted, Cond.instanceMethod yX5_mostCounted, Cond.selects RX5 yX5_mostCounted yX5_mostCounted]
def wsL_law0_r18 : List Cond := [Cond.code yX5_mostCounted cX5_mostCounted 6 (some .int), Cond.methodLink RX5 94 yX5_isHelped, Cond.instanceMethod yX5_isHelped, Cond.selects RX5 yX5_isHelped yX5_isHelped, Cond.code yX5_isHelped cX5_isHelped 7 (some .boolean), Cond.methodLink RL 149 yL_roundsUntilAgreement, Cond.static yL_roundsUntilAgreement, Cond.codeWith yL_roundsUntilAgreement cL_roundsUntilAgreement 4 (some .int) [(0, 9, 12, 13), (0, 9, 15, 48)], Cond.classLink RL 48 "java/util/NoSuchElementException", Cond.methodLink RL 45 yX4_roundsUntilAgreement, Cond.instanceMethod yX4_roundsUntilAgreement, Cond.selects RX4 yX4_roundsUntilAgreement yX4_roundsUntilAgreement, Cond.code yX4_roundsUntilAgreement cX4_roundsUntilAgreement 4 (some .int), Cond.classLink RX4 136 "java/util/NoSuchElementException", Cond.initialized "java/util/NoSuchElementException", Cond.methodLink RX4 132 yX3_allAgree, Cond.instanceMethod yX3_allAgree, Cond.selects RX3 yX3_allAgree yX3_allAgree, Cond.code yX3_allAgree cX3_allAgree 3 (some .boolean), Cond.methodLink RX3 120 yX3_twoAgree, Cond.instanceMethod yX3_twoAgree, Cond.selects RX3 yX3_twoAgree yX3_twoAgree, Cond.code yX3_twoAgree cX3_twoAgree 3 (some .boolean), Cond.methodLink RX3 123 yX1_isUpToDate]
def wsL_law0_r19 : List Cond := [Cond.instanceMethod yX1_isUpToDate, Cond.selects RX1 yX1_isUpToDate yX1_isUpToDate, Cond.code yX1_isUpToDate cX1_isUpToDate 3 (some .boolean), Cond.methodLink RX3 126 yX1_countDifferences, Cond.instanceMethod yX1_countDifferences, Cond.selects RX1 yX1_countDifferences yX1_countDifferences, Cond.code yX1_countDifferences cX1_countDifferences 5 (some .int), Cond.methodLink RX1 58 yX1_differ, Cond.instanceMethod yX1_differ, Cond.selects RX1 yX1_differ yX1_differ, Cond.code yX1_differ cX1_differ 3 (some .boolean), Cond.methodLink RL 151 yX5_roundsUntilAgreement, Cond.instanceMethod yX5_roundsUntilAgreement, Cond.selects RX5 yX5_roundsUntilAgreement yX5_roundsUntilAgreement, Cond.code yX5_roundsUntilAgreement cX5_roundsUntilAgreement 3 (some .int), Cond.methodLink RX5 118 yX5_doAgree, Cond.instanceMethod yX5_doAgree, Cond.selects RX5 yX5_doAgree yX5_doAgree, Cond.code yX5_doAgree cX5_doAgree 4 (some .boolean), Cond.methodLink RX5 128 yX5_allDifferences, Cond.instanceMethod yX5_allDifferences, Cond.selects RX5 yX5_allDifferences yX5_allDifferences, Cond.code yX5_allDifferences cX5_allDifferences 4 (some .int), Cond.methodLink RX5 125 yX5_differences]
def wsL_law0_r20 : List Cond := [Cond.instanceMethod yX5_differences, Cond.selects RX5 yX5_differences yX5_differences, Cond.code yX5_differences cX5_differences 6 (some .int), Cond.methodLink RX5 132 yX5_knows, Cond.instanceMethod yX5_knows, Cond.selects RX5 yX5_knows yX5_knows, Cond.code yX5_knows cX5_knows 3 (some .boolean), Cond.methodLink RL 152 yX4_round, Cond.instanceMethod yX4_round, Cond.selects RX4 yX4_round yX4_round, Cond.code yX4_round cX4_round 1 (some .int), Cond.methodLink RL 155 yX5_round, Cond.instanceMethod yX5_round, Cond.selects RX5 yX5_round yX5_round, Cond.code yX5_round cX5_round 1 (some .int), Cond.methodLink RL 156 yL_isUp, Cond.static yL_isUp, Cond.codeWith yL_isUp cL_isUp 4 (some .int) [(0, 16, 19, 28)], Cond.methodLink RL 50 yX4_isUp, Cond.instanceMethod yX4_isUp, Cond.selects RX4 yX4_isUp yX4_isUp, Cond.code yX4_isUp cX4_isUp 2 (some .boolean), Cond.methodLink RL 158 yX5_isUp, Cond.instanceMethod yX5_isUp]
def wsL_law0_r21 : List Cond := [Cond.selects RX5 yX5_isUp yX5_isUp, Cond.code yX5_isUp cX5_isUp 2 (some .boolean), Cond.methodLink RL 159 yL_partition, Cond.static yL_partition, Cond.codeWith yL_partition cL_partition 4 (some .int) [(0, 9, 12, 28)], Cond.methodLink RL 54 yX4_partition, Cond.instanceMethod yX4_partition, Cond.selects RX4 yX4_partition yX4_partition, Cond.code yX4_partition cX4_partition 2 (some .int), Cond.methodLink RL 161 yX5_partition, Cond.instanceMethod yX5_partition, Cond.selects RX5 yX5_partition yX5_partition, Cond.code yX5_partition cX5_partition 2 (some .int), Cond.methodLink RL 162 yL_incarnation, Cond.static yL_incarnation, Cond.codeWith yL_incarnation cL_incarnation 4 (some .int) [(0, 9, 12, 28)], Cond.methodLink RL 57 yX4_incarnation, Cond.instanceMethod yX4_incarnation, Cond.selects RX4 yX4_incarnation yX4_incarnation, Cond.code yX4_incarnation cX4_incarnation 2 (some .int), Cond.methodLink RL 164 yX5_incarnation, Cond.instanceMethod yX5_incarnation, Cond.selects RX5 yX5_incarnation yX5_incarnation, Cond.code yX5_incarnation cX5_incarnation 2 (some .int)]
def wsL_law0_r22 : List Cond := [Cond.methodLink RL 165 yL_reaches, Cond.static yL_reaches, Cond.codeWith yL_reaches cL_reaches 5 (some .int) [(0, 17, 20, 28)], Cond.methodLink RL 60 yX4_reaches, Cond.instanceMethod yX4_reaches, Cond.selects RX4 yX4_reaches yX4_reaches, Cond.code yX4_reaches cX4_reaches 3 (some .boolean), Cond.methodLink RX4 141 yX2_connects, Cond.methodLink RL 167 yX5_reaches, Cond.instanceMethod yX5_reaches, Cond.selects RX5 yX5_reaches yX5_reaches, Cond.code yX5_reaches cX5_reaches 3 (some .boolean), Cond.methodLink RL 168 yL_view, Cond.static yL_view, Cond.codeWith yL_view cL_view 5 (some .int) [(0, 10, 13, 28), (0, 10, 17, 13)], Cond.methodLink RL 64 yX4_view, Cond.instanceMethod yX4_view, Cond.selects RX4 yX4_view yX4_view, Cond.code yX4_view cX4_view 3 (some .int), Cond.fieldLink RX4 144 "GossipMembership$Knowledge" "state" "[I", Cond.methodLink RL 170 yX5_view, Cond.instanceMethod yX5_view, Cond.selects RX5 yX5_view yX5_view, Cond.code yX5_view cX5_view 3 (some .int)]
def wsL_law0_r23 : List Cond := [Cond.methodLink RX5 122 yX5_viewRefusal, Cond.instanceMethod yX5_viewRefusal, Cond.selects RX5 yX5_viewRefusal yX5_viewRefusal, Cond.code yX5_viewRefusal cX5_viewRefusal 3 (some .int), Cond.methodLink RL 171 yL_viewIncarnation, Cond.static yL_viewIncarnation, Cond.codeWith yL_viewIncarnation cL_viewIncarnation 5 (some .int) [(0, 10, 13, 28), (0, 10, 17, 13)], Cond.methodLink RL 67 yX4_viewIncarnation, Cond.instanceMethod yX4_viewIncarnation, Cond.selects RX4 yX4_viewIncarnation yX4_viewIncarnation, Cond.code yX4_viewIncarnation cX4_viewIncarnation 3 (some .int), Cond.fieldLink RX4 147 "GossipMembership$Knowledge" "incarnations" "[I", Cond.methodLink RL 173 yX5_viewIncarnation, Cond.instanceMethod yX5_viewIncarnation, Cond.selects RX5 yX5_viewIncarnation yX5_viewIncarnation, Cond.code yX5_viewIncarnation cX5_viewIncarnation 3 (some .int), Cond.methodLink RL 174 yL_deadline, Cond.static yL_deadline, Cond.codeWith yL_deadline cL_deadline 5 (some .int) [(0, 10, 13, 28), (0, 10, 17, 13), (0, 10, 21, 48)], Cond.methodLink RL 70 yX4_deadline, Cond.instanceMethod yX4_deadline, Cond.selects RX4 yX4_deadline yX4_deadline, Cond.code yX4_deadline cX4_deadline 3 (some .int), Cond.fieldLink RX4 152 "GossipMembership$Knowledge" "deadlines" "[I"]
def wsL_law0_r24 : List Cond := [Cond.methodLink RL 176 yX5_deadline, Cond.instanceMethod yX5_deadline, Cond.selects RX5 yX5_deadline yX5_deadline, Cond.code yX5_deadline cX5_deadline 3 (some .int), Cond.methodLink RL 177 yL_counter, Cond.static yL_counter, Cond.codeWith yL_counter cL_counter 5 (some .int) [(0, 10, 13, 28)], Cond.methodLink RL 73 yX4_counter, Cond.instanceMethod yX4_counter, Cond.selects RX4 yX4_counter yX4_counter, Cond.code yX4_counter cX4_counter 3 (some .int), Cond.fieldLink RX4 155 "GossipMembership$Knowledge" "counters" "[I", Cond.methodLink RL 179 yX5_counter, Cond.instanceMethod yX5_counter, Cond.selects RX5 yX5_counter yX5_counter, Cond.code yX5_counter cX5_counter 3 (some .int), Cond.methodLink RL 180 yL_tell, Cond.static yL_tell, Cond.codeWith yL_tell cL_tell 7 (some .int) [(0, 21, 24, 28), (0, 21, 28, 30), (0, 21, 32, 13)], Cond.methodLink RL 76 yX4_tell, Cond.instanceMethod yX4_tell, Cond.selects RX4 yX4_tell yX4_tell, Cond.code yX4_tell cX4_tell 6 (some .boolean), Cond.methodLink RX4 162 yX1_takeIn]
def wsL_law0_r25 : List Cond := [Cond.methodLink RL 183 yX5_tell, Cond.instanceMethod yX5_tell, Cond.selects RX5 yX5_tell yX5_tell, Cond.code yX5_tell cX5_tell 5 (some .boolean), Cond.methodLink RL 184 yL_alive, Cond.static yL_alive, Cond.codeWith yL_alive cL_alive 4 (some .int) [(0, 9, 12, 28)], Cond.methodLink RL 80 yX4_alive, Cond.instanceMethod yX4_alive, Cond.selects RX4 yX4_alive yX4_alive, Cond.code yX4_alive cX4_alive 2 (some .int), Cond.methodLink RX4 166 yX1_nodesInState, Cond.methodLink RL 186 yX5_alive, Cond.instanceMethod yX5_alive, Cond.selects RX5 yX5_alive yX5_alive, Cond.code yX5_alive cX5_alive 2 (some .int), Cond.methodLink RL 187 yX4_agree, Cond.instanceMethod yX4_agree, Cond.selects RX4 yX4_agree yX4_agree, Cond.code yX4_agree cX4_agree 1 (some .boolean), Cond.methodLink RL 191 yX5_agree, Cond.instanceMethod yX5_agree, Cond.selects RX5 yX5_agree yX5_agree, Cond.code yX5_agree cX5_agree 1 (some .boolean)]
def wsL_law0_r26 : List Cond := [Cond.methodLink RL 192 yX4_disagreements, Cond.instanceMethod yX4_disagreements, Cond.selects RX4 yX4_disagreements yX4_disagreements, Cond.code yX4_disagreements cX4_disagreements 1 (some .int), Cond.methodLink RX4 169 yX3_countDisagreements, Cond.instanceMethod yX3_countDisagreements, Cond.selects RX3 yX3_countDisagreements yX3_countDisagreements, Cond.code yX3_countDisagreements cX3_countDisagreements 4 (some .int), Cond.methodLink RL 195 yX5_disagreements, Cond.instanceMethod yX5_disagreements, Cond.selects RX5 yX5_disagreements yX5_disagreements, Cond.code yX5_disagreements cX5_disagreements 1 (some .int), Cond.methodLink RL 196 yX4_declarations, Cond.instanceMethod yX4_declarations, Cond.selects RX4 yX4_declarations yX4_declarations, Cond.code yX4_declarations cX4_declarations 1 (some .int), Cond.fieldLink RX4 172 "GossipMembership$World" "declared" "I", Cond.methodLink RL 199 yX5_declarations, Cond.instanceMethod yX5_declarations, Cond.selects RX5 yX5_declarations yX5_declarations, Cond.code yX5_declarations cX5_declarations 1 (some .int), Cond.methodLink RX5 135 yX5_plain, Cond.instanceMethod yX5_plain, Cond.selects RX5 yX5_plain yX5_plain]
def wsL_law0_r27 : List Cond := [Cond.code yX5_plain cX5_plain 2 (some .int), Cond.methodLink RL 200 yX4_falseDeclarations, Cond.instanceMethod yX4_falseDeclarations, Cond.selects RX4 yX4_falseDeclarations yX4_falseDeclarations, Cond.code yX4_falseDeclarations cX4_falseDeclarations 1 (some .int), Cond.fieldLink RX4 175 "GossipMembership$World" "declaredFalsely" "I", Cond.methodLink RL 203 yX5_falseDeclarations, Cond.instanceMethod yX5_falseDeclarations, Cond.selects RX5 yX5_falseDeclarations yX5_falseDeclarations, Cond.code yX5_falseDeclarations cX5_falseDeclarations 1 (some .int), Cond.methodLink RL 204 yX4_refutations, Cond.instanceMethod yX4_refutations, Cond.selects RX4 yX4_refutations yX4_refutations, Cond.code yX4_refutations cX4_refutations 1 (some .int), Cond.fieldLink RX4 178 "GossipMembership$Knowledge" "refuted" "I", Cond.methodLink RL 207 yX5_refutations, Cond.instanceMethod yX5_refutations, Cond.selects RX5 yX5_refutations yX5_refutations, Cond.code yX5_refutations cX5_refutations 1 (some .int), Cond.methodLink RL 208 yX4_messages, Cond.instanceMethod yX4_messages, Cond.selects RX4 yX4_messages yX4_messages, Cond.code yX4_messages cX4_messages 1 (some .int), Cond.fieldLink RX4 181 "GossipMembership$World" "messagesSent" "I"]
def wsL_law0_r28 : List Cond := [Cond.methodLink RL 211 yX5_messages, Cond.instanceMethod yX5_messages, Cond.selects RX5 yX5_messages yX5_messages, Cond.code yX5_messages cX5_messages 1 (some .int), Cond.methodLink RL 212 yX4_quietRounds, Cond.instanceMethod yX4_quietRounds, Cond.selects RX4 yX4_quietRounds yX4_quietRounds, Cond.code yX4_quietRounds cX4_quietRounds 1 (some .int), Cond.fieldLink RX4 184 "GossipMembership$Knowledge" "lastUnquietRound" "I", Cond.methodLink RL 215 yX5_quietRounds, Cond.instanceMethod yX5_quietRounds, Cond.selects RX5 yX5_quietRounds yX5_quietRounds, Cond.code yX5_quietRounds cX5_quietRounds 1 (some .int), Cond.methodLink RL 216 yL_appendCharacter, Cond.static yL_appendCharacter, Cond.codeWith yL_appendCharacter cL_appendCharacter 4 (some .int) [(0, 9, 12, 13), (0, 9, 15, 30)], Cond.methodLink RL 83 yX4_appendCharacter, Cond.instanceMethod yX4_appendCharacter, Cond.selects RX4 yX4_appendCharacter yX4_appendCharacter, Cond.code yX4_appendCharacter cX4_appendCharacter 2 (some .int), Cond.fieldLink RX4 189 "GossipMembership$CommandText" "length" "I", Cond.fieldLink RX4 194 "GossipMembership$CommandText" "signs" "[C", Cond.methodLink RL 218 yX5_appendCharacter, Cond.instanceMethod yX5_appendCharacter]
def wsL_law0_r29 : List Cond := [Cond.selects RX5 yX5_appendCharacter yX5_appendCharacter, Cond.code yX5_appendCharacter cX5_appendCharacter 2 (some .int), Cond.fieldLink RX5 138 "GossipMembershipModel" "length" "I", Cond.methodLink RL 219 yL_runText, Cond.static yL_runText, Cond.codeWith yL_runText cL_runText 3 (some .int) [(0, 8, 11, 13), (0, 8, 14, 30)], Cond.methodLink RL 86 yX4_runText, Cond.instanceMethod yX4_runText, Cond.selects RX4 yX4_runText yX4_runText, Cond.code yX4_runText cX4_runText 5 (some .int), Cond.fieldLink RX4 208 "GossipMembership" "failureNumber" "I", Cond.methodLink RX4 198 yX0_findFault, Cond.instanceMethod yX0_findFault, Cond.selects RX0 yX0_findFault yX0_findFault, Cond.code yX0_findFault cX0_findFault 3 (some .int), Cond.fieldLink RX0 15 "GossipMembership$CommandText" "length" "I", Cond.methodLink RX0 27 yX0_findFaultOfCommand, Cond.instanceMethod yX0_findFaultOfCommand, Cond.selects RX0 yX0_findFaultOfCommand yX0_findFaultOfCommand, Cond.code yX0_findFaultOfCommand cX0_findFaultOfCommand 5 (some .int), Cond.methodLink RX0 19 yX0_signAt, Cond.instanceMethod yX0_signAt, Cond.selects RX0 yX0_signAt yX0_signAt, Cond.code yX0_signAt cX0_signAt 2 (some .char)]
def wsL_law0_r30 : List Cond := [Cond.methodLink RX0 23 yX0_digitsOf, Cond.static yX0_digitsOf, Cond.code yX0_digitsOf cX0_digitsOf 1 (some .int), Cond.methodLink RX0 34 yX0_isDigitFor, Cond.static yX0_isDigitFor, Cond.code yX0_isDigitFor cX0_isDigitFor 4 (some .boolean), Cond.methodLink RX0 31 yX0_lengthOfCommand, Cond.instanceMethod yX0_lengthOfCommand, Cond.selects RX0 yX0_lengthOfCommand yX0_lengthOfCommand, Cond.code yX0_lengthOfCommand cX0_lengthOfCommand 2 (some .int), Cond.methodLink RX4 201 yX4_carryOut, Cond.instanceMethod yX4_carryOut, Cond.selects RX4 yX4_carryOut yX4_carryOut, Cond.codeWith yX4_carryOut cX4_carryOut 4 (some .int) [(11, 118, 121, 75), (11, 118, 124, 30)], Cond.methodLink RX4 246 yX0_digitAt, Cond.instanceMethod yX0_digitAt, Cond.selects RX0 yX0_digitAt yX0_digitAt, Cond.code yX0_digitAt cX0_digitAt 2 (some .int), Cond.methodLink RX4 249 yX0_signAt, Cond.methodLink RX4 253 yX4_crash, Cond.methodLink RX4 256 yX4_join, Cond.methodLink RX4 259 yX4_move, Cond.methodLink RX4 205 yX0_lengthOfCommand, Cond.methodLink RL 222 yX5_runText]
def wsL_law0_r31 : List Cond := [Cond.instanceMethod yX5_runText, Cond.selects RX5 yX5_runText yX5_runText, Cond.code yX5_runText cX5_runText 2 (some .int), Cond.fieldLink RX5 171 "GossipMembershipModel" "failureKind" "I", Cond.fieldLink RX5 178 "GossipMembershipModel" "failureAt" "I", Cond.fieldLink RX5 144 "GossipMembershipModel" "isRead" "Z", Cond.fieldLink RX5 141 "GossipMembershipModel" "spot" "I", Cond.methodLink RX5 181 yX5_script, Cond.instanceMethod yX5_script, Cond.selects RX5 yX5_script yX5_script, Cond.code yX5_script cX5_script 4 (some .int), Cond.methodLink RX5 174 yX5_command, Cond.instanceMethod yX5_command, Cond.selects RX5 yX5_command yX5_command, Cond.code yX5_command cX5_command 5 none, Cond.methodLink RX5 148 yX5_here, Cond.instanceMethod yX5_here, Cond.selects RX5 yX5_here yX5_here, Cond.code yX5_here cX5_here 1 (some .int), Cond.methodLink RX5 151 yX5_digit, Cond.instanceMethod yX5_digit, Cond.selects RX5 yX5_digit yX5_digit, Cond.code yX5_digit cX5_digit 3 (some .int), Cond.methodLink RX5 155 yX5_does]
def wsL_law0_r32 : List Cond := [Cond.instanceMethod yX5_does, Cond.selects RX5 yX5_does yX5_does, Cond.code yX5_does cX5_does 5 none, Cond.methodLink RX5 159 yX5_crash, Cond.methodLink RX5 162 yX5_join, Cond.methodLink RX5 165 yX5_move, Cond.methodLink RX5 168 yX5_rounds, Cond.methodLink RL 223 yL_failure, Cond.static yL_failure, Cond.codeWith yL_failure cL_failure 4 (some .int) [(0, 9, 12, 13), (0, 9, 15, 48)], Cond.methodLink RL 90 yX4_failure, Cond.instanceMethod yX4_failure, Cond.selects RX4 yX4_failure yX4_failure, Cond.code yX4_failure cX4_failure 2 (some .int), Cond.methodLink RL 225 yX5_failure, Cond.instanceMethod yX5_failure, Cond.selects RX5 yX5_failure yX5_failure, Cond.code yX5_failure cX5_failure 2 (some .int), Cond.methodLink RL 226 yL_averageCounter, Cond.static yL_averageCounter, Cond.codeWith yL_averageCounter cL_averageCounter 4 (some .int) [(0, 8, 11, 28)], Cond.methodLink RL 93 yX4_averageCounter, Cond.instanceMethod yX4_averageCounter, Cond.selects RX4 yX4_averageCounter yX4_averageCounter]
def wsL_law0_r33 : List Cond := [Cond.code yX4_averageCounter cX4_averageCounter 2 (some .double), Cond.constantDouble RX4 222 (4620693217682128896), Cond.methodLink RX4 219 yX1_sumOfCounters, Cond.instanceMethod yX1_sumOfCounters, Cond.selects RX1 yX1_sumOfCounters yX1_sumOfCounters, Cond.code yX1_sumOfCounters cX1_sumOfCounters 4 (some .int), Cond.methodLink RL 229 yX5_averageCounter, Cond.instanceMethod yX5_averageCounter, Cond.selects RX5 yX5_averageCounter yX5_averageCounter, Cond.code yX5_averageCounter cX5_averageCounter 4 (some .double), Cond.constantDouble RX5 185 (4620693217682128896), Cond.methodLink RL 230 yL_falseShare, Cond.static yL_falseShare, Cond.codeWith yL_falseShare cL_falseShare 3 (some .int) [(0, 8, 11, 101)], Cond.classLink RL 101 "java/lang/ArithmeticException", Cond.methodLink RL 97 yX4_falseShare, Cond.instanceMethod yX4_falseShare, Cond.selects RX4 yX4_falseShare yX4_falseShare, Cond.code yX4_falseShare cX4_falseShare 1 (some .float), Cond.classLink RX4 224 "java/lang/ArithmeticException", Cond.initialized "java/lang/ArithmeticException", Cond.methodLink RL 233 yX5_falseShare, Cond.instanceMethod yX5_falseShare, Cond.selects RX5 yX5_falseShare yX5_falseShare]
def wsL_law0_r34 : List Cond := [Cond.code yX5_falseShare cX5_falseShare 1 (some .float), Cond.methodLink RL 234 yX4_save, Cond.instanceMethod yX4_save, Cond.selects RX4 yX4_save yX4_save, Cond.code yX4_save cX4_save 1 none, Cond.fieldLink RX4 233 "GossipMembership" "somethingSaved" "Z", Cond.methodLink RX4 229 yX3_copyFrom, Cond.instanceMethod yX3_copyFrom, Cond.selects RX3 yX3_copyFrom yX3_copyFrom, Cond.code yX3_copyFrom cX3_copyFrom 2 none, Cond.methodLink RX3 129 yX2_copyFrom, Cond.instanceMethod yX2_copyFrom, Cond.selects RX2 yX2_copyFrom yX2_copyFrom, Cond.code yX2_copyFrom cX2_copyFrom 3 none, Cond.methodLink RX3 133 yX1_copyFrom, Cond.instanceMethod yX1_copyFrom, Cond.selects RX1 yX1_copyFrom yX1_copyFrom, Cond.code yX1_copyFrom cX1_copyFrom 2 none, Cond.methodLink RX1 62 arraycopyName, Cond.native arraycopyName, Cond.static arraycopyName, Cond.initialized "java/lang/System", Cond.methodLink RL 237 yX5_save, Cond.instanceMethod yX5_save]
def wsL_law0_r35 : List Cond := [Cond.selects RX5 yX5_save yX5_save, Cond.code yX5_save cX5_save 2 none, Cond.fieldLink RX5 187 "GossipMembershipModel" "hasSaved" "Z", Cond.methodLink RL 238 yL_restore, Cond.static yL_restore, Cond.codeWith yL_restore cL_restore 2 (some .int) [(0, 4, 7, 30)], Cond.methodLink RL 103 yX4_restore, Cond.instanceMethod yX4_restore, Cond.selects RX4 yX4_restore yX4_restore, Cond.code yX4_restore cX4_restore 1 none, Cond.methodLink RL 241 yX5_restore, Cond.instanceMethod yX5_restore, Cond.selects RX5 yX5_restore yX5_restore, Cond.code yX5_restore cX5_restore 2 none]
def wsL_law0 : List Cond := (wsL_law0_r1 ++ (wsL_law0_r2 ++ (wsL_law0_r3 ++ (wsL_law0_r4 ++ (wsL_law0_r5 ++ (wsL_law0_r6 ++ (wsL_law0_r7 ++ (wsL_law0_r8 ++ (wsL_law0_r9 ++ (wsL_law0_r10 ++ (wsL_law0_r11 ++ (wsL_law0_r12 ++ (wsL_law0_r13 ++ (wsL_law0_r14 ++ (wsL_law0_r15 ++ (wsL_law0_r16 ++ (wsL_law0_r17 ++ (wsL_law0_r18 ++ (wsL_law0_r19 ++ (wsL_law0_r20 ++ (wsL_law0_r21 ++ (wsL_law0_r22 ++ (wsL_law0_r23 ++ (wsL_law0_r24 ++ (wsL_law0_r25 ++ (wsL_law0_r26 ++ (wsL_law0_r27 ++ (wsL_law0_r28 ++ (wsL_law0_r29 ++ (wsL_law0_r30 ++ (wsL_law0_r31 ++ (wsL_law0_r32 ++ (wsL_law0_r33 ++ (wsL_law0_r34 ++ wsL_law0_r35)))))))))))))))))))))))))))))))))) ++ wsX40 ++ wsX50 ++ wsX30 ++ wsX00 ++ wsX20 ++ wsX10 ++ ([] : List Cond)
def wsL_law : List Cond := wsL_law0 ++ (vx_atM "java/lang/ArrayIndexOutOfBoundsException" ["java/lang/IndexOutOfBoundsException", "java/lang/RuntimeException", "java/lang/Exception"]).filter goodWord ++ (vx_atS RX4 34 "java/lang/IllegalArgumentException" ["java/lang/RuntimeException", "java/lang/Exception"]).filter goodWord ++ (vx_atS RX4 79 "java/lang/IllegalStateException" ["java/lang/RuntimeException", "java/lang/Exception"]).filter goodWord ++ (vx_atS RX4 243 "java/lang/IndexOutOfBoundsException" ["java/lang/RuntimeException", "java/lang/Exception"]).filter goodWord ++ (vx_atM "java/lang/ArithmeticException" ["java/lang/RuntimeException", "java/lang/Exception"]).filter goodWord ++ (vx_atS RX4 140 "java/util/NoSuchElementException" ["java/lang/RuntimeException", "java/lang/Exception"]).filter goodWord ++ (vx_atS RX4 228 "java/lang/ArithmeticException" ["java/lang/RuntimeException", "java/lang/Exception"]).filter goodWord
end
section
theorem dX0_init_0 : decode cX0_init 0 = .ok (.aload_n 0, 1) := by decide +kernel
theorem dX0_init_1 : decode cX0_init 1 = .ok (.invokespecial 3, 3) := by decide +kernel
theorem dX0_init_4 : decode cX0_init 4 = .ok (.aload_n 0, 1) := by decide +kernel
theorem dX0_init_5 : decode cX0_init 5 = .ok (.bipush 40, 2) := by decide +kernel
theorem dX0_init_7 : decode cX0_init 7 = .ok (.newarray .char, 2) := by decide +kernel
theorem dX0_init_9 : decode cX0_init 9 = .ok (.putfield 9, 3) := by decide +kernel
theorem dX0_init_12 : decode cX0_init 12 = .ok (.return_, 1) := by decide +kernel
theorem dX0_signAt_0 : decode cX0_signAt 0 = .ok (.iload_n 1, 1) := by decide +kernel
theorem dX0_signAt_1 : decode cX0_signAt 1 = .ok (.ifCond .lt 20, 3) := by decide +kernel
theorem dX0_signAt_4 : decode cX0_signAt 4 = .ok (.iload_n 1, 1) := by decide +kernel
theorem dX0_signAt_5 : decode cX0_signAt 5 = .ok (.aload_n 0, 1) := by decide +kernel
theorem dX0_signAt_6 : decode cX0_signAt 6 = .ok (.getfield 15, 3) := by decide +kernel
theorem dX0_signAt_9 : decode cX0_signAt 9 = .ok (.if_icmp .ge 12, 3) := by decide +kernel
theorem dX0_signAt_12 : decode cX0_signAt 12 = .ok (.aload_n 0, 1) := by decide +kernel
theorem dX0_signAt_13 : decode cX0_signAt 13 = .ok (.getfield 9, 3) := by decide +kernel
theorem dX0_signAt_16 : decode cX0_signAt 16 = .ok (.iload_n 1, 1) := by decide +kernel
theorem dX0_signAt_17 : decode cX0_signAt 17 = .ok (.caload, 1) := by decide +kernel
theorem dX0_signAt_18 : decode cX0_signAt 18 = .ok (.goto 4, 3) := by decide +kernel
theorem dX0_signAt_21 : decode cX0_signAt 21 = .ok (.iconst 0, 1) := by decide +kernel
theorem dX0_signAt_22 : decode cX0_signAt 22 = .ok (.ireturn, 1) := by decide +kernel
set_option maxRecDepth 20000 in
theorem ggX0_digitAt_X0_signAt : GoodIn wsX0_digitAt wsX0_signAt := goodIn_ca (goodIn_r _ [5, 6, 7, 8, 9] (by decide +kernel) (by decide +kernel)) (goodIn_sub (fun _ h => List.mem_cons_of_mem _ (List.mem_append_right _ h)) (by decide +kernel))
set_option maxRecDepth 20000 in
theorem gX0_digitAt_X0_signAt : GoodIn wsX0_digitAt (wsV RX0 19 RX0 yX0_signAt wsX0_signAt) := goodIn_app (goodIn_of _ (by decide +kernel)) ggX0_digitAt_X0_signAt
theorem dX0_digitAt_0 : decode cX0_digitAt 0 = .ok (.aload_n 0, 1) := by decide +kernel
theorem dX0_digitAt_1 : decode cX0_digitAt 1 = .ok (.iload_n 1, 1) := by decide +kernel
theorem dX0_digitAt_2 : decode cX0_digitAt 2 = .ok (.invokevirtual 19, 3) := by decide +kernel
theorem dX0_digitAt_5 : decode cX0_digitAt 5 = .ok (.bipush 48, 2) := by decide +kernel
theorem dX0_digitAt_7 : decode cX0_digitAt 7 = .ok (.isub, 1) := by decide +kernel
theorem dX0_digitAt_8 : decode cX0_digitAt 8 = .ok (.ireturn, 1) := by decide +kernel
set_option maxRecDepth 20000 in
theorem ggX0_lengthOfCommand_X0_signAt : GoodIn wsX0_lengthOfCommand wsX0_signAt := goodIn_ca (goodIn_r _ [5, 6, 7, 11, 12] (by decide +kernel) (by decide +kernel)) (goodIn_sub (fun _ h => List.mem_cons_of_mem _ (List.mem_append_right _ h)) (by decide +kernel))
set_option maxRecDepth 20000 in
theorem gX0_lengthOfCommand_X0_signAt : GoodIn wsX0_lengthOfCommand (wsV RX0 19 RX0 yX0_signAt wsX0_signAt) := goodIn_app (goodIn_of _ (by decide +kernel)) ggX0_lengthOfCommand_X0_signAt
set_option maxRecDepth 20000 in
theorem ggX0_lengthOfCommand_X0_digitsOf : GoodIn wsX0_lengthOfCommand wsX0_digitsOf := goodIn_r _ [10] (by decide +kernel) (by decide +kernel)
set_option maxRecDepth 20000 in
theorem gX0_lengthOfCommand_X0_digitsOf : GoodIn wsX0_lengthOfCommand (va_wsS RX0 23 yX0_digitsOf wsX0_digitsOf) := goodIn_app (goodIn_of _ (by decide +kernel)) ggX0_lengthOfCommand_X0_digitsOf
theorem dX0_lengthOfCommand_0 : decode cX0_lengthOfCommand 0 = .ok (.iconst 1, 1) := by decide +kernel
theorem dX0_lengthOfCommand_1 : decode cX0_lengthOfCommand 1 = .ok (.aload_n 0, 1) := by decide +kernel
theorem dX0_lengthOfCommand_2 : decode cX0_lengthOfCommand 2 = .ok (.iload_n 1, 1) := by decide +kernel
theorem dX0_lengthOfCommand_3 : decode cX0_lengthOfCommand 3 = .ok (.invokevirtual 19, 3) := by decide +kernel
theorem dX0_lengthOfCommand_6 : decode cX0_lengthOfCommand 6 = .ok (.invokestatic 23, 3) := by decide +kernel
theorem dX0_lengthOfCommand_9 : decode cX0_lengthOfCommand 9 = .ok (.iadd, 1) := by decide +kernel
theorem dX0_lengthOfCommand_10 : decode cX0_lengthOfCommand 10 = .ok (.ireturn, 1) := by decide +kernel
set_option maxRecDepth 20000 in
theorem ggX0_findFault_X0_findFaultOfCommand : GoodIn wsX0_findFault wsX0_findFaultOfCommand := goodIn_ca (goodIn_r _ [6, 7, 8, 9, 5, 10, 1, 11, 12, 13, 14, 15, 16, 17, 22, 23] (by decide +kernel) (by decide +kernel)) (goodIn_sub (fun _ h => List.mem_cons_of_mem _ (List.mem_append_right _ h)) (by decide +kernel))
set_option maxRecDepth 20000 in
theorem gX0_findFault_X0_findFaultOfCommand : GoodIn wsX0_findFault (wsV RX0 27 RX0 yX0_findFaultOfCommand wsX0_findFaultOfCommand) := goodIn_app (goodIn_of _ (by decide +kernel)) ggX0_findFault_X0_findFaultOfCommand
set_option maxRecDepth 20000 in
theorem ggX0_findFault_X0_lengthOfCommand : GoodIn wsX0_findFault wsX0_lengthOfCommand := goodIn_ca (goodIn_r _ [21, 7, 8, 9, 5, 10, 1, 11, 12, 13, 14, 22, 23] (by decide +kernel) (by decide +kernel)) (goodIn_sub (fun _ h => List.mem_cons_of_mem _ (List.mem_append_right _ h)) (by decide +kernel))
set_option maxRecDepth 20000 in
theorem gX0_findFault_X0_lengthOfCommand : GoodIn wsX0_findFault (wsV RX0 31 RX0 yX0_lengthOfCommand wsX0_lengthOfCommand) := goodIn_app (goodIn_of _ (by decide +kernel)) ggX0_findFault_X0_lengthOfCommand
set_option maxRecDepth 20000 in
theorem ggX0_findFault_X0_signAt : GoodIn wsX0_findFault wsX0_signAt := goodIn_ca (goodIn_r _ [10, 1, 11, 22, 23] (by decide +kernel) (by decide +kernel)) (goodIn_sub (fun _ h => List.mem_cons_of_mem _ (List.mem_append_right _ h)) (by decide +kernel))
set_option maxRecDepth 20000 in
theorem gX0_findFault_X0_signAt : GoodIn wsX0_findFault (wsV RX0 19 RX0 yX0_signAt wsX0_signAt) := goodIn_app (goodIn_of _ (by decide +kernel)) ggX0_findFault_X0_signAt
theorem dX0_findFault_0 : decode cX0_findFault 0 = .ok (.iconst 0, 1) := by decide +kernel
theorem dX0_findFault_1 : decode cX0_findFault 1 = .ok (.istore_n 1, 1) := by decide +kernel
theorem dX0_findFault_2 : decode cX0_findFault 2 = .ok (.iload_n 1, 1) := by decide +kernel
theorem dX0_findFault_3 : decode cX0_findFault 3 = .ok (.aload_n 0, 1) := by decide +kernel
theorem dX0_findFault_4 : decode cX0_findFault 4 = .ok (.getfield 15, 3) := by decide +kernel
theorem dX0_findFault_7 : decode cX0_findFault 7 = .ok (.if_icmp .ge 52, 3) := by decide +kernel
theorem dX0_findFault_10 : decode cX0_findFault 10 = .ok (.aload_n 0, 1) := by decide +kernel
theorem dX0_findFault_11 : decode cX0_findFault 11 = .ok (.iload_n 1, 1) := by decide +kernel
theorem dX0_findFault_12 : decode cX0_findFault 12 = .ok (.invokevirtual 27, 3) := by decide +kernel
theorem dX0_findFault_15 : decode cX0_findFault 15 = .ok (.istore_n 2, 1) := by decide +kernel
theorem dX0_findFault_16 : decode cX0_findFault 16 = .ok (.iload_n 2, 1) := by decide +kernel
theorem dX0_findFault_17 : decode cX0_findFault 17 = .ok (.iconst (-1), 1) := by decide +kernel
theorem dX0_findFault_18 : decode cX0_findFault 18 = .ok (.if_icmp .eq 5, 3) := by decide +kernel
theorem dX0_findFault_21 : decode cX0_findFault 21 = .ok (.iload_n 2, 1) := by decide +kernel
theorem dX0_findFault_22 : decode cX0_findFault 22 = .ok (.ireturn, 1) := by decide +kernel
theorem dX0_findFault_23 : decode cX0_findFault 23 = .ok (.iload_n 1, 1) := by decide +kernel
theorem dX0_findFault_24 : decode cX0_findFault 24 = .ok (.aload_n 0, 1) := by decide +kernel
theorem dX0_findFault_25 : decode cX0_findFault 25 = .ok (.iload_n 1, 1) := by decide +kernel
theorem dX0_findFault_26 : decode cX0_findFault 26 = .ok (.invokevirtual 31, 3) := by decide +kernel
theorem dX0_findFault_29 : decode cX0_findFault 29 = .ok (.iadd, 1) := by decide +kernel
theorem dX0_findFault_30 : decode cX0_findFault 30 = .ok (.istore_n 1, 1) := by decide +kernel
theorem dX0_findFault_31 : decode cX0_findFault 31 = .ok (.iload_n 1, 1) := by decide +kernel
theorem dX0_findFault_32 : decode cX0_findFault 32 = .ok (.aload_n 0, 1) := by decide +kernel
theorem dX0_findFault_33 : decode cX0_findFault 33 = .ok (.getfield 15, 3) := by decide +kernel
theorem dX0_findFault_36 : decode cX0_findFault 36 = .ok (.if_icmp .lt 5, 3) := by decide +kernel
theorem dX0_findFault_39 : decode cX0_findFault 39 = .ok (.iconst (-1), 1) := by decide +kernel
theorem dX0_findFault_40 : decode cX0_findFault 40 = .ok (.ireturn, 1) := by decide +kernel
theorem dX0_findFault_41 : decode cX0_findFault 41 = .ok (.aload_n 0, 1) := by decide +kernel
theorem dX0_findFault_42 : decode cX0_findFault 42 = .ok (.iload_n 1, 1) := by decide +kernel
theorem dX0_findFault_43 : decode cX0_findFault 43 = .ok (.invokevirtual 19, 3) := by decide +kernel
theorem dX0_findFault_46 : decode cX0_findFault 46 = .ok (.bipush 59, 2) := by decide +kernel
theorem dX0_findFault_48 : decode cX0_findFault 48 = .ok (.if_icmp .eq 5, 3) := by decide +kernel
theorem dX0_findFault_51 : decode cX0_findFault 51 = .ok (.iload_n 1, 1) := by decide +kernel
theorem dX0_findFault_52 : decode cX0_findFault 52 = .ok (.ireturn, 1) := by decide +kernel
theorem dX0_findFault_53 : decode cX0_findFault 53 = .ok (.iinc 1 1, 3) := by decide +kernel
theorem dX0_findFault_56 : decode cX0_findFault 56 = .ok (.goto (-54), 3) := by decide +kernel
theorem dX0_findFault_59 : decode cX0_findFault 59 = .ok (.aload_n 0, 1) := by decide +kernel
theorem dX0_findFault_60 : decode cX0_findFault 60 = .ok (.getfield 15, 3) := by decide +kernel
theorem dX0_findFault_63 : decode cX0_findFault 63 = .ok (.ireturn, 1) := by decide +kernel
set_option maxRecDepth 20000 in
theorem ggX0_findFaultOfCommand_X0_signAt : GoodIn wsX0_findFaultOfCommand wsX0_signAt := goodIn_ca (goodIn_r _ [5, 6, 7, 14, 15] (by decide +kernel) (by decide +kernel)) (goodIn_sub (fun _ h => List.mem_cons_of_mem _ (List.mem_append_right _ h)) (by decide +kernel))
set_option maxRecDepth 20000 in
theorem gX0_findFaultOfCommand_X0_signAt : GoodIn wsX0_findFaultOfCommand (wsV RX0 19 RX0 yX0_signAt wsX0_signAt) := goodIn_app (goodIn_of _ (by decide +kernel)) ggX0_findFaultOfCommand_X0_signAt
set_option maxRecDepth 20000 in
theorem ggX0_findFaultOfCommand_X0_digitsOf : GoodIn wsX0_findFaultOfCommand wsX0_digitsOf := goodIn_r _ [10] (by decide +kernel) (by decide +kernel)
set_option maxRecDepth 20000 in
theorem gX0_findFaultOfCommand_X0_digitsOf : GoodIn wsX0_findFaultOfCommand (va_wsS RX0 23 yX0_digitsOf wsX0_digitsOf) := goodIn_app (goodIn_of _ (by decide +kernel)) ggX0_findFaultOfCommand_X0_digitsOf
set_option maxRecDepth 20000 in
theorem ggX0_findFaultOfCommand_X0_isDigitFor : GoodIn wsX0_findFaultOfCommand wsX0_isDigitFor := goodIn_r _ [13] (by decide +kernel) (by decide +kernel)
set_option maxRecDepth 20000 in
theorem gX0_findFaultOfCommand_X0_isDigitFor : GoodIn wsX0_findFaultOfCommand (va_wsS RX0 34 yX0_isDigitFor wsX0_isDigitFor) := goodIn_app (goodIn_of _ (by decide +kernel)) ggX0_findFaultOfCommand_X0_isDigitFor
theorem dX0_findFaultOfCommand_0 : decode cX0_findFaultOfCommand 0 = .ok (.aload_n 0, 1) := by decide +kernel
theorem dX0_findFaultOfCommand_1 : decode cX0_findFaultOfCommand 1 = .ok (.iload_n 1, 1) := by decide +kernel
theorem dX0_findFaultOfCommand_2 : decode cX0_findFaultOfCommand 2 = .ok (.invokevirtual 19, 3) := by decide +kernel
theorem dX0_findFaultOfCommand_5 : decode cX0_findFaultOfCommand 5 = .ok (.istore_n 2, 1) := by decide +kernel
theorem dX0_findFaultOfCommand_6 : decode cX0_findFaultOfCommand 6 = .ok (.iload_n 2, 1) := by decide +kernel
theorem dX0_findFaultOfCommand_7 : decode cX0_findFaultOfCommand 7 = .ok (.invokestatic 23, 3) := by decide +kernel
theorem dX0_findFaultOfCommand_10 : decode cX0_findFaultOfCommand 10 = .ok (.istore_n 3, 1) := by decide +kernel
theorem dX0_findFaultOfCommand_11 : decode cX0_findFaultOfCommand 11 = .ok (.iload_n 3, 1) := by decide +kernel
theorem dX0_findFaultOfCommand_12 : decode cX0_findFaultOfCommand 12 = .ok (.ifCond .ne 5, 3) := by decide +kernel
theorem dX0_findFaultOfCommand_15 : decode cX0_findFaultOfCommand 15 = .ok (.iload_n 1, 1) := by decide +kernel
theorem dX0_findFaultOfCommand_16 : decode cX0_findFaultOfCommand 16 = .ok (.ireturn, 1) := by decide +kernel
theorem dX0_findFaultOfCommand_17 : decode cX0_findFaultOfCommand 17 = .ok (.iconst 1, 1) := by decide +kernel
theorem dX0_findFaultOfCommand_18 : decode cX0_findFaultOfCommand 18 = .ok (.istore 4, 2) := by decide +kernel
theorem dX0_findFaultOfCommand_20 : decode cX0_findFaultOfCommand 20 = .ok (.iload 4, 2) := by decide +kernel
theorem dX0_findFaultOfCommand_22 : decode cX0_findFaultOfCommand 22 = .ok (.iload_n 3, 1) := by decide +kernel
theorem dX0_findFaultOfCommand_23 : decode cX0_findFaultOfCommand 23 = .ok (.if_icmp .gt 31, 3) := by decide +kernel
theorem dX0_findFaultOfCommand_26 : decode cX0_findFaultOfCommand 26 = .ok (.iload_n 2, 1) := by decide +kernel
theorem dX0_findFaultOfCommand_27 : decode cX0_findFaultOfCommand 27 = .ok (.iload 4, 2) := by decide +kernel
theorem dX0_findFaultOfCommand_29 : decode cX0_findFaultOfCommand 29 = .ok (.aload_n 0, 1) := by decide +kernel
theorem dX0_findFaultOfCommand_30 : decode cX0_findFaultOfCommand 30 = .ok (.iload_n 1, 1) := by decide +kernel
theorem dX0_findFaultOfCommand_31 : decode cX0_findFaultOfCommand 31 = .ok (.iload 4, 2) := by decide +kernel
theorem dX0_findFaultOfCommand_33 : decode cX0_findFaultOfCommand 33 = .ok (.iadd, 1) := by decide +kernel
theorem dX0_findFaultOfCommand_34 : decode cX0_findFaultOfCommand 34 = .ok (.invokevirtual 19, 3) := by decide +kernel
theorem dX0_findFaultOfCommand_37 : decode cX0_findFaultOfCommand 37 = .ok (.invokestatic 34, 3) := by decide +kernel
theorem dX0_findFaultOfCommand_40 : decode cX0_findFaultOfCommand 40 = .ok (.ifCond .ne 8, 3) := by decide +kernel
theorem dX0_findFaultOfCommand_43 : decode cX0_findFaultOfCommand 43 = .ok (.iload_n 1, 1) := by decide +kernel
theorem dX0_findFaultOfCommand_44 : decode cX0_findFaultOfCommand 44 = .ok (.iload 4, 2) := by decide +kernel
theorem dX0_findFaultOfCommand_46 : decode cX0_findFaultOfCommand 46 = .ok (.iadd, 1) := by decide +kernel
theorem dX0_findFaultOfCommand_47 : decode cX0_findFaultOfCommand 47 = .ok (.ireturn, 1) := by decide +kernel
theorem dX0_findFaultOfCommand_48 : decode cX0_findFaultOfCommand 48 = .ok (.iinc 4 1, 3) := by decide +kernel
theorem dX0_findFaultOfCommand_51 : decode cX0_findFaultOfCommand 51 = .ok (.goto (-31), 3) := by decide +kernel
theorem dX0_findFaultOfCommand_54 : decode cX0_findFaultOfCommand 54 = .ok (.iconst (-1), 1) := by decide +kernel
theorem dX0_findFaultOfCommand_55 : decode cX0_findFaultOfCommand 55 = .ok (.ireturn, 1) := by decide +kernel
theorem dX0_digitsOf_0 : decode cX0_digitsOf 0 = .ok (.iload_n 0, 1) := by decide +kernel
theorem dX0_digitsOf_1 : decode cX0_digitsOf 1 = .ok (.lookupswitch 47 #[(99, 43), (106, 45), (112, 45), (114, 43)], 43) := by decide +kernel
theorem dX0_digitsOf_44 : decode cX0_digitsOf 44 = .ok (.iconst 1, 1) := by decide +kernel
theorem dX0_digitsOf_45 : decode cX0_digitsOf 45 = .ok (.ireturn, 1) := by decide +kernel
theorem dX0_digitsOf_46 : decode cX0_digitsOf 46 = .ok (.iconst 2, 1) := by decide +kernel
theorem dX0_digitsOf_47 : decode cX0_digitsOf 47 = .ok (.ireturn, 1) := by decide +kernel
theorem dX0_digitsOf_48 : decode cX0_digitsOf 48 = .ok (.iconst 0, 1) := by decide +kernel
theorem dX0_digitsOf_49 : decode cX0_digitsOf 49 = .ok (.ireturn, 1) := by decide +kernel
theorem dX0_isDigitFor_0 : decode cX0_isDigitFor 0 = .ok (.iload_n 0, 1) := by decide +kernel
theorem dX0_isDigitFor_1 : decode cX0_isDigitFor 1 = .ok (.bipush 114, 2) := by decide +kernel
theorem dX0_isDigitFor_3 : decode cX0_isDigitFor 3 = .ok (.if_icmp .ne 21, 3) := by decide +kernel
theorem dX0_isDigitFor_6 : decode cX0_isDigitFor 6 = .ok (.iload_n 2, 1) := by decide +kernel
theorem dX0_isDigitFor_7 : decode cX0_isDigitFor 7 = .ok (.bipush 49, 2) := by decide +kernel
theorem dX0_isDigitFor_9 : decode cX0_isDigitFor 9 = .ok (.if_icmp .lt 13, 3) := by decide +kernel
theorem dX0_isDigitFor_12 : decode cX0_isDigitFor 12 = .ok (.iload_n 2, 1) := by decide +kernel
theorem dX0_isDigitFor_13 : decode cX0_isDigitFor 13 = .ok (.bipush 57, 2) := by decide +kernel
theorem dX0_isDigitFor_15 : decode cX0_isDigitFor 15 = .ok (.if_icmp .gt 7, 3) := by decide +kernel
theorem dX0_isDigitFor_18 : decode cX0_isDigitFor 18 = .ok (.iconst 1, 1) := by decide +kernel
theorem dX0_isDigitFor_19 : decode cX0_isDigitFor 19 = .ok (.goto 4, 3) := by decide +kernel
theorem dX0_isDigitFor_22 : decode cX0_isDigitFor 22 = .ok (.iconst 0, 1) := by decide +kernel
theorem dX0_isDigitFor_23 : decode cX0_isDigitFor 23 = .ok (.ireturn, 1) := by decide +kernel
theorem dX0_isDigitFor_24 : decode cX0_isDigitFor 24 = .ok (.iload_n 0, 1) := by decide +kernel
theorem dX0_isDigitFor_25 : decode cX0_isDigitFor 25 = .ok (.bipush 112, 2) := by decide +kernel
theorem dX0_isDigitFor_27 : decode cX0_isDigitFor 27 = .ok (.if_icmp .ne 13, 3) := by decide +kernel
theorem dX0_isDigitFor_30 : decode cX0_isDigitFor 30 = .ok (.iload_n 1, 1) := by decide +kernel
theorem dX0_isDigitFor_31 : decode cX0_isDigitFor 31 = .ok (.iconst 2, 1) := by decide +kernel
theorem dX0_isDigitFor_32 : decode cX0_isDigitFor 32 = .ok (.if_icmp .ne 8, 3) := by decide +kernel
theorem dX0_isDigitFor_35 : decode cX0_isDigitFor 35 = .ok (.bipush 51, 2) := by decide +kernel
theorem dX0_isDigitFor_37 : decode cX0_isDigitFor 37 = .ok (.goto 5, 3) := by decide +kernel
theorem dX0_isDigitFor_40 : decode cX0_isDigitFor 40 = .ok (.bipush 55, 2) := by decide +kernel
theorem dX0_isDigitFor_42 : decode cX0_isDigitFor 42 = .ok (.istore_n 3, 1) := by decide +kernel
theorem dX0_isDigitFor_43 : decode cX0_isDigitFor 43 = .ok (.iload_n 2, 1) := by decide +kernel
theorem dX0_isDigitFor_44 : decode cX0_isDigitFor 44 = .ok (.bipush 48, 2) := by decide +kernel
theorem dX0_isDigitFor_46 : decode cX0_isDigitFor 46 = .ok (.if_icmp .lt 12, 3) := by decide +kernel
theorem dX0_isDigitFor_49 : decode cX0_isDigitFor 49 = .ok (.iload_n 2, 1) := by decide +kernel
theorem dX0_isDigitFor_50 : decode cX0_isDigitFor 50 = .ok (.iload_n 3, 1) := by decide +kernel
theorem dX0_isDigitFor_51 : decode cX0_isDigitFor 51 = .ok (.if_icmp .gt 7, 3) := by decide +kernel
theorem dX0_isDigitFor_54 : decode cX0_isDigitFor 54 = .ok (.iconst 1, 1) := by decide +kernel
theorem dX0_isDigitFor_55 : decode cX0_isDigitFor 55 = .ok (.goto 4, 3) := by decide +kernel
theorem dX0_isDigitFor_58 : decode cX0_isDigitFor 58 = .ok (.iconst 0, 1) := by decide +kernel
theorem dX0_isDigitFor_59 : decode cX0_isDigitFor 59 = .ok (.ireturn, 1) := by decide +kernel
theorem dX1_init_0 : decode cX1_init 0 = .ok (.aload_n 0, 1) := by decide +kernel
theorem dX1_init_1 : decode cX1_init 1 = .ok (.invokespecial 3, 3) := by decide +kernel
theorem dX1_init_4 : decode cX1_init 4 = .ok (.aload_n 0, 1) := by decide +kernel
theorem dX1_init_5 : decode cX1_init 5 = .ok (.bipush 8, 2) := by decide +kernel
theorem dX1_init_7 : decode cX1_init 7 = .ok (.newarray .int, 2) := by decide +kernel
theorem dX1_init_9 : decode cX1_init 9 = .ok (.putfield 9, 3) := by decide +kernel
theorem dX1_init_12 : decode cX1_init 12 = .ok (.aload_n 0, 1) := by decide +kernel
theorem dX1_init_13 : decode cX1_init 13 = .ok (.bipush 64, 2) := by decide +kernel
theorem dX1_init_15 : decode cX1_init 15 = .ok (.newarray .int, 2) := by decide +kernel
theorem dX1_init_17 : decode cX1_init 17 = .ok (.putfield 15, 3) := by decide +kernel
theorem dX1_init_20 : decode cX1_init 20 = .ok (.aload_n 0, 1) := by decide +kernel
theorem dX1_init_21 : decode cX1_init 21 = .ok (.bipush 64, 2) := by decide +kernel
theorem dX1_init_23 : decode cX1_init 23 = .ok (.newarray .int, 2) := by decide +kernel
theorem dX1_init_25 : decode cX1_init 25 = .ok (.putfield 18, 3) := by decide +kernel
theorem dX1_init_28 : decode cX1_init 28 = .ok (.aload_n 0, 1) := by decide +kernel
theorem dX1_init_29 : decode cX1_init 29 = .ok (.bipush 64, 2) := by decide +kernel
theorem dX1_init_31 : decode cX1_init 31 = .ok (.newarray .int, 2) := by decide +kernel
theorem dX1_init_33 : decode cX1_init 33 = .ok (.putfield 21, 3) := by decide +kernel
theorem dX1_init_36 : decode cX1_init 36 = .ok (.aload_n 0, 1) := by decide +kernel
theorem dX1_init_37 : decode cX1_init 37 = .ok (.bipush 64, 2) := by decide +kernel
theorem dX1_init_39 : decode cX1_init 39 = .ok (.newarray .int, 2) := by decide +kernel
theorem dX1_init_41 : decode cX1_init 41 = .ok (.putfield 24, 3) := by decide +kernel
theorem dX1_init_44 : decode cX1_init 44 = .ok (.aload_n 0, 1) := by decide +kernel
theorem dX1_init_45 : decode cX1_init 45 = .ok (.iconst 3, 1) := by decide +kernel
theorem dX1_init_46 : decode cX1_init 46 = .ok (.putfield 27, 3) := by decide +kernel
theorem dX1_init_49 : decode cX1_init 49 = .ok (.aload_n 0, 1) := by decide +kernel
theorem dX1_init_50 : decode cX1_init 50 = .ok (.iconst 3, 1) := by decide +kernel
theorem dX1_init_51 : decode cX1_init 51 = .ok (.putfield 31, 3) := by decide +kernel
theorem dX1_init_54 : decode cX1_init 54 = .ok (.return_, 1) := by decide +kernel
theorem dX1_endQuiet_0 : decode cX1_endQuiet 0 = .ok (.aload_n 0, 1) := by decide +kernel
theorem dX1_endQuiet_1 : decode cX1_endQuiet 1 = .ok (.aload_n 0, 1) := by decide +kernel
theorem dX1_endQuiet_2 : decode cX1_endQuiet 2 = .ok (.getfield 34, 3) := by decide +kernel
theorem dX1_endQuiet_5 : decode cX1_endQuiet 5 = .ok (.putfield 37, 3) := by decide +kernel
theorem dX1_endQuiet_8 : decode cX1_endQuiet 8 = .ok (.return_, 1) := by decide +kernel
set_option maxRecDepth 20000 in
theorem ggX1_forgetAll_X4_pair : GoodIn wsX1_forgetAll wsX4_pair := goodIn_r _ [7] (by decide +kernel) (by decide +kernel)
set_option maxRecDepth 20000 in
theorem gX1_forgetAll_X4_pair_n40 : GoodIn wsX1_forgetAll (wsX4_pair) := ggX1_forgetAll_X4_pair
theorem dX1_forgetAll_0 : decode cX1_forgetAll 0 = .ok (.iconst 0, 1) := by decide +kernel
theorem dX1_forgetAll_1 : decode cX1_forgetAll 1 = .ok (.istore_n 2, 1) := by decide +kernel
theorem dX1_forgetAll_2 : decode cX1_forgetAll 2 = .ok (.iload_n 2, 1) := by decide +kernel
theorem dX1_forgetAll_3 : decode cX1_forgetAll 3 = .ok (.bipush 8, 2) := by decide +kernel
theorem dX1_forgetAll_5 : decode cX1_forgetAll 5 = .ok (.if_icmp .ge 42, 3) := by decide +kernel
theorem dX1_forgetAll_8 : decode cX1_forgetAll 8 = .ok (.aload_n 0, 1) := by decide +kernel
theorem dX1_forgetAll_9 : decode cX1_forgetAll 9 = .ok (.getfield 15, 3) := by decide +kernel
theorem dX1_forgetAll_12 : decode cX1_forgetAll 12 = .ok (.iload_n 1, 1) := by decide +kernel
theorem dX1_forgetAll_13 : decode cX1_forgetAll 13 = .ok (.iload_n 2, 1) := by decide +kernel
theorem dX1_forgetAll_14 : decode cX1_forgetAll 14 = .ok (.invokestatic 40, 3) := by decide +kernel
theorem dX1_forgetAll_17 : decode cX1_forgetAll 17 = .ok (.iconst 0, 1) := by decide +kernel
theorem dX1_forgetAll_18 : decode cX1_forgetAll 18 = .ok (.iastore, 1) := by decide +kernel
theorem dX1_forgetAll_19 : decode cX1_forgetAll 19 = .ok (.aload_n 0, 1) := by decide +kernel
theorem dX1_forgetAll_20 : decode cX1_forgetAll 20 = .ok (.getfield 18, 3) := by decide +kernel
theorem dX1_forgetAll_23 : decode cX1_forgetAll 23 = .ok (.iload_n 1, 1) := by decide +kernel
theorem dX1_forgetAll_24 : decode cX1_forgetAll 24 = .ok (.iload_n 2, 1) := by decide +kernel
theorem dX1_forgetAll_25 : decode cX1_forgetAll 25 = .ok (.invokestatic 40, 3) := by decide +kernel
theorem dX1_forgetAll_28 : decode cX1_forgetAll 28 = .ok (.iconst 0, 1) := by decide +kernel
theorem dX1_forgetAll_29 : decode cX1_forgetAll 29 = .ok (.iastore, 1) := by decide +kernel
theorem dX1_forgetAll_30 : decode cX1_forgetAll 30 = .ok (.aload_n 0, 1) := by decide +kernel
theorem dX1_forgetAll_31 : decode cX1_forgetAll 31 = .ok (.getfield 24, 3) := by decide +kernel
theorem dX1_forgetAll_34 : decode cX1_forgetAll 34 = .ok (.iload_n 1, 1) := by decide +kernel
theorem dX1_forgetAll_35 : decode cX1_forgetAll 35 = .ok (.iload_n 2, 1) := by decide +kernel
theorem dX1_forgetAll_36 : decode cX1_forgetAll 36 = .ok (.invokestatic 40, 3) := by decide +kernel
theorem dX1_forgetAll_39 : decode cX1_forgetAll 39 = .ok (.iconst 0, 1) := by decide +kernel
theorem dX1_forgetAll_40 : decode cX1_forgetAll 40 = .ok (.iastore, 1) := by decide +kernel
theorem dX1_forgetAll_41 : decode cX1_forgetAll 41 = .ok (.iinc 2 1, 3) := by decide +kernel
theorem dX1_forgetAll_44 : decode cX1_forgetAll 44 = .ok (.goto (-42), 3) := by decide +kernel
theorem dX1_forgetAll_47 : decode cX1_forgetAll 47 = .ok (.aload_n 0, 1) := by decide +kernel
theorem dX1_forgetAll_48 : decode cX1_forgetAll 48 = .ok (.getfield 24, 3) := by decide +kernel
theorem dX1_forgetAll_51 : decode cX1_forgetAll 51 = .ok (.iload_n 1, 1) := by decide +kernel
theorem dX1_forgetAll_52 : decode cX1_forgetAll 52 = .ok (.iload_n 1, 1) := by decide +kernel
theorem dX1_forgetAll_53 : decode cX1_forgetAll 53 = .ok (.invokestatic 40, 3) := by decide +kernel
theorem dX1_forgetAll_56 : decode cX1_forgetAll 56 = .ok (.aload_n 0, 1) := by decide +kernel
theorem dX1_forgetAll_57 : decode cX1_forgetAll 57 = .ok (.getfield 31, 3) := by decide +kernel
theorem dX1_forgetAll_60 : decode cX1_forgetAll 60 = .ok (.iastore, 1) := by decide +kernel
theorem dX1_forgetAll_61 : decode cX1_forgetAll 61 = .ok (.return_, 1) := by decide +kernel
set_option maxRecDepth 20000 in
theorem ggX1_takeIn_X4_pair : GoodIn wsX1_takeIn wsX4_pair := goodIn_r _ [7] (by decide +kernel) (by decide +kernel)
set_option maxRecDepth 20000 in
theorem gX1_takeIn_X4_pair_n40 : GoodIn wsX1_takeIn (wsX4_pair) := ggX1_takeIn_X4_pair
set_option maxRecDepth 20000 in
theorem ggX1_takeIn_X1_outweighs : GoodIn wsX1_takeIn wsX1_outweighs := goodIn_ca (goodIn_r _ [12, 13, 14, 27, 28, 29, 30, 31, 32, 33, 34, 35, 36] (by decide +kernel) (by decide +kernel)) (goodIn_sub (fun _ h => List.mem_cons_of_mem _ (List.mem_append_right _ h)) (by decide +kernel))
set_option maxRecDepth 20000 in
theorem gX1_takeIn_X1_outweighs : GoodIn wsX1_takeIn (wsV RX1 47 RX1 yX1_outweighs wsX1_outweighs) := goodIn_app (goodIn_of _ (by decide +kernel)) ggX1_takeIn_X1_outweighs
set_option maxRecDepth 20000 in
theorem ggX1_takeIn_X1_replaceView : GoodIn wsX1_takeIn wsX1_replaceView := goodIn_ca (goodIn_r _ [18, 13, 14, 19, 20, 21, 27, 28, 29, 30, 31, 32, 33, 34, 35, 36] (by decide +kernel) (by decide +kernel)) (goodIn_sub (fun _ h => List.mem_cons_of_mem _ (List.mem_append_right _ h)) (by decide +kernel))
set_option maxRecDepth 20000 in
theorem gX1_takeIn_X1_replaceView : GoodIn wsX1_takeIn (wsV RX1 51 RX1 yX1_replaceView wsX1_replaceView) := goodIn_app (goodIn_of _ (by decide +kernel)) ggX1_takeIn_X1_replaceView
set_option maxRecDepth 20000 in
theorem ggX1_takeIn_X1_endQuiet : GoodIn wsX1_takeIn wsX1_endQuiet := goodIn_r _ [25, 20, 26, 27, 28, 29, 30, 31, 32, 33, 34, 35, 36] (by decide +kernel) (by decide +kernel)
set_option maxRecDepth 20000 in
theorem gX1_takeIn_X1_endQuiet : GoodIn wsX1_takeIn (wsV RX1 55 RX1 yX1_endQuiet wsX1_endQuiet) := goodIn_app (goodIn_of _ (by decide +kernel)) ggX1_takeIn_X1_endQuiet
theorem dX1_takeIn_0 : decode cX1_takeIn 0 = .ok (.iload_n 1, 1) := by decide +kernel
theorem dX1_takeIn_1 : decode cX1_takeIn 1 = .ok (.iload_n 2, 1) := by decide +kernel
theorem dX1_takeIn_2 : decode cX1_takeIn 2 = .ok (.invokestatic 40, 3) := by decide +kernel
theorem dX1_takeIn_5 : decode cX1_takeIn 5 = .ok (.istore 5, 2) := by decide +kernel
theorem dX1_takeIn_7 : decode cX1_takeIn 7 = .ok (.iload_n 2, 1) := by decide +kernel
theorem dX1_takeIn_8 : decode cX1_takeIn 8 = .ok (.iload_n 1, 1) := by decide +kernel
theorem dX1_takeIn_9 : decode cX1_takeIn 9 = .ok (.if_icmp .ne 44, 3) := by decide +kernel
theorem dX1_takeIn_12 : decode cX1_takeIn 12 = .ok (.iload_n 3, 1) := by decide +kernel
theorem dX1_takeIn_13 : decode cX1_takeIn 13 = .ok (.iconst 1, 1) := by decide +kernel
theorem dX1_takeIn_14 : decode cX1_takeIn 14 = .ok (.if_icmp .eq 14, 3) := by decide +kernel
theorem dX1_takeIn_17 : decode cX1_takeIn 17 = .ok (.iload 4, 2) := by decide +kernel
theorem dX1_takeIn_19 : decode cX1_takeIn 19 = .ok (.aload_n 0, 1) := by decide +kernel
theorem dX1_takeIn_20 : decode cX1_takeIn 20 = .ok (.getfield 9, 3) := by decide +kernel
theorem dX1_takeIn_23 : decode cX1_takeIn 23 = .ok (.iload_n 1, 1) := by decide +kernel
theorem dX1_takeIn_24 : decode cX1_takeIn 24 = .ok (.iaload, 1) := by decide +kernel
theorem dX1_takeIn_25 : decode cX1_takeIn 25 = .ok (.if_icmp .ge 5, 3) := by decide +kernel
theorem dX1_takeIn_28 : decode cX1_takeIn 28 = .ok (.iconst 0, 1) := by decide +kernel
theorem dX1_takeIn_29 : decode cX1_takeIn 29 = .ok (.ireturn, 1) := by decide +kernel
theorem dX1_takeIn_30 : decode cX1_takeIn 30 = .ok (.aload_n 0, 1) := by decide +kernel
theorem dX1_takeIn_31 : decode cX1_takeIn 31 = .ok (.getfield 9, 3) := by decide +kernel
theorem dX1_takeIn_34 : decode cX1_takeIn 34 = .ok (.iload_n 1, 1) := by decide +kernel
theorem dX1_takeIn_35 : decode cX1_takeIn 35 = .ok (.iload 4, 2) := by decide +kernel
theorem dX1_takeIn_37 : decode cX1_takeIn 37 = .ok (.iconst 1, 1) := by decide +kernel
theorem dX1_takeIn_38 : decode cX1_takeIn 38 = .ok (.iadd, 1) := by decide +kernel
theorem dX1_takeIn_39 : decode cX1_takeIn 39 = .ok (.iastore, 1) := by decide +kernel
theorem dX1_takeIn_40 : decode cX1_takeIn 40 = .ok (.aload_n 0, 1) := by decide +kernel
theorem dX1_takeIn_41 : decode cX1_takeIn 41 = .ok (.dup, 1) := by decide +kernel
theorem dX1_takeIn_42 : decode cX1_takeIn 42 = .ok (.getfield 44, 3) := by decide +kernel
theorem dX1_takeIn_45 : decode cX1_takeIn 45 = .ok (.iconst 1, 1) := by decide +kernel
theorem dX1_takeIn_46 : decode cX1_takeIn 46 = .ok (.iadd, 1) := by decide +kernel
theorem dX1_takeIn_47 : decode cX1_takeIn 47 = .ok (.putfield 44, 3) := by decide +kernel
theorem dX1_takeIn_50 : decode cX1_takeIn 50 = .ok (.goto 26, 3) := by decide +kernel
theorem dX1_takeIn_53 : decode cX1_takeIn 53 = .ok (.aload_n 0, 1) := by decide +kernel
theorem dX1_takeIn_54 : decode cX1_takeIn 54 = .ok (.iload 5, 2) := by decide +kernel
theorem dX1_takeIn_56 : decode cX1_takeIn 56 = .ok (.iload_n 3, 1) := by decide +kernel
theorem dX1_takeIn_57 : decode cX1_takeIn 57 = .ok (.iload 4, 2) := by decide +kernel
theorem dX1_takeIn_59 : decode cX1_takeIn 59 = .ok (.invokevirtual 47, 3) := by decide +kernel
theorem dX1_takeIn_62 : decode cX1_takeIn 62 = .ok (.ifCond .ne 5, 3) := by decide +kernel
theorem dX1_takeIn_65 : decode cX1_takeIn 65 = .ok (.iconst 0, 1) := by decide +kernel
theorem dX1_takeIn_66 : decode cX1_takeIn 66 = .ok (.ireturn, 1) := by decide +kernel
theorem dX1_takeIn_67 : decode cX1_takeIn 67 = .ok (.aload_n 0, 1) := by decide +kernel
theorem dX1_takeIn_68 : decode cX1_takeIn 68 = .ok (.iload 5, 2) := by decide +kernel
theorem dX1_takeIn_70 : decode cX1_takeIn 70 = .ok (.iload_n 3, 1) := by decide +kernel
theorem dX1_takeIn_71 : decode cX1_takeIn 71 = .ok (.iload 4, 2) := by decide +kernel
theorem dX1_takeIn_73 : decode cX1_takeIn 73 = .ok (.invokevirtual 51, 3) := by decide +kernel
theorem dX1_takeIn_76 : decode cX1_takeIn 76 = .ok (.aload_n 0, 1) := by decide +kernel
theorem dX1_takeIn_77 : decode cX1_takeIn 77 = .ok (.getfield 24, 3) := by decide +kernel
theorem dX1_takeIn_80 : decode cX1_takeIn 80 = .ok (.iload 5, 2) := by decide +kernel
theorem dX1_takeIn_82 : decode cX1_takeIn 82 = .ok (.aload_n 0, 1) := by decide +kernel
theorem dX1_takeIn_83 : decode cX1_takeIn 83 = .ok (.getfield 31, 3) := by decide +kernel
theorem dX1_takeIn_86 : decode cX1_takeIn 86 = .ok (.iastore, 1) := by decide +kernel
theorem dX1_takeIn_87 : decode cX1_takeIn 87 = .ok (.aload_n 0, 1) := by decide +kernel
theorem dX1_takeIn_88 : decode cX1_takeIn 88 = .ok (.invokevirtual 55, 3) := by decide +kernel
theorem dX1_takeIn_91 : decode cX1_takeIn 91 = .ok (.iconst 1, 1) := by decide +kernel
theorem dX1_takeIn_92 : decode cX1_takeIn 92 = .ok (.ireturn, 1) := by decide +kernel
theorem dX1_outweighs_0 : decode cX1_outweighs 0 = .ok (.aload_n 0, 1) := by decide +kernel
theorem dX1_outweighs_1 : decode cX1_outweighs 1 = .ok (.getfield 15, 3) := by decide +kernel
theorem dX1_outweighs_4 : decode cX1_outweighs 4 = .ok (.iload_n 1, 1) := by decide +kernel
theorem dX1_outweighs_5 : decode cX1_outweighs 5 = .ok (.iaload, 1) := by decide +kernel
theorem dX1_outweighs_6 : decode cX1_outweighs 6 = .ok (.ifCond .ne 5, 3) := by decide +kernel
theorem dX1_outweighs_9 : decode cX1_outweighs 9 = .ok (.iconst 1, 1) := by decide +kernel
theorem dX1_outweighs_10 : decode cX1_outweighs 10 = .ok (.ireturn, 1) := by decide +kernel
theorem dX1_outweighs_11 : decode cX1_outweighs 11 = .ok (.iload_n 3, 1) := by decide +kernel
theorem dX1_outweighs_12 : decode cX1_outweighs 12 = .ok (.aload_n 0, 1) := by decide +kernel
theorem dX1_outweighs_13 : decode cX1_outweighs 13 = .ok (.getfield 18, 3) := by decide +kernel
theorem dX1_outweighs_16 : decode cX1_outweighs 16 = .ok (.iload_n 1, 1) := by decide +kernel
theorem dX1_outweighs_17 : decode cX1_outweighs 17 = .ok (.iaload, 1) := by decide +kernel
theorem dX1_outweighs_18 : decode cX1_outweighs 18 = .ok (.if_icmp .eq 19, 3) := by decide +kernel
theorem dX1_outweighs_21 : decode cX1_outweighs 21 = .ok (.iload_n 3, 1) := by decide +kernel
theorem dX1_outweighs_22 : decode cX1_outweighs 22 = .ok (.aload_n 0, 1) := by decide +kernel
theorem dX1_outweighs_23 : decode cX1_outweighs 23 = .ok (.getfield 18, 3) := by decide +kernel
theorem dX1_outweighs_26 : decode cX1_outweighs 26 = .ok (.iload_n 1, 1) := by decide +kernel
theorem dX1_outweighs_27 : decode cX1_outweighs 27 = .ok (.iaload, 1) := by decide +kernel
theorem dX1_outweighs_28 : decode cX1_outweighs 28 = .ok (.if_icmp .le 7, 3) := by decide +kernel
theorem dX1_outweighs_31 : decode cX1_outweighs 31 = .ok (.iconst 1, 1) := by decide +kernel
theorem dX1_outweighs_32 : decode cX1_outweighs 32 = .ok (.goto 4, 3) := by decide +kernel
theorem dX1_outweighs_35 : decode cX1_outweighs 35 = .ok (.iconst 0, 1) := by decide +kernel
theorem dX1_outweighs_36 : decode cX1_outweighs 36 = .ok (.ireturn, 1) := by decide +kernel
theorem dX1_outweighs_37 : decode cX1_outweighs 37 = .ok (.iload_n 2, 1) := by decide +kernel
theorem dX1_outweighs_38 : decode cX1_outweighs 38 = .ok (.iconst 2, 1) := by decide +kernel
theorem dX1_outweighs_39 : decode cX1_outweighs 39 = .ok (.if_icmp .ne 13, 3) := by decide +kernel
theorem dX1_outweighs_42 : decode cX1_outweighs 42 = .ok (.aload_n 0, 1) := by decide +kernel
theorem dX1_outweighs_43 : decode cX1_outweighs 43 = .ok (.getfield 15, 3) := by decide +kernel
theorem dX1_outweighs_46 : decode cX1_outweighs 46 = .ok (.iload_n 1, 1) := by decide +kernel
theorem dX1_outweighs_47 : decode cX1_outweighs 47 = .ok (.iaload, 1) := by decide +kernel
theorem dX1_outweighs_48 : decode cX1_outweighs 48 = .ok (.iconst 1, 1) := by decide +kernel
theorem dX1_outweighs_49 : decode cX1_outweighs 49 = .ok (.if_icmp .eq 18, 3) := by decide +kernel
theorem dX1_outweighs_52 : decode cX1_outweighs 52 = .ok (.iload_n 2, 1) := by decide +kernel
theorem dX1_outweighs_53 : decode cX1_outweighs 53 = .ok (.iconst 3, 1) := by decide +kernel
theorem dX1_outweighs_54 : decode cX1_outweighs 54 = .ok (.if_icmp .ne 17, 3) := by decide +kernel
theorem dX1_outweighs_57 : decode cX1_outweighs 57 = .ok (.aload_n 0, 1) := by decide +kernel
theorem dX1_outweighs_58 : decode cX1_outweighs 58 = .ok (.getfield 15, 3) := by decide +kernel
theorem dX1_outweighs_61 : decode cX1_outweighs 61 = .ok (.iload_n 1, 1) := by decide +kernel
theorem dX1_outweighs_62 : decode cX1_outweighs 62 = .ok (.iaload, 1) := by decide +kernel
theorem dX1_outweighs_63 : decode cX1_outweighs 63 = .ok (.iconst 3, 1) := by decide +kernel
theorem dX1_outweighs_64 : decode cX1_outweighs 64 = .ok (.if_icmp .eq 7, 3) := by decide +kernel
theorem dX1_outweighs_67 : decode cX1_outweighs 67 = .ok (.iconst 1, 1) := by decide +kernel
theorem dX1_outweighs_68 : decode cX1_outweighs 68 = .ok (.goto 4, 3) := by decide +kernel
theorem dX1_outweighs_71 : decode cX1_outweighs 71 = .ok (.iconst 0, 1) := by decide +kernel
theorem dX1_outweighs_72 : decode cX1_outweighs 72 = .ok (.ireturn, 1) := by decide +kernel
theorem dX1_replaceView_0 : decode cX1_replaceView 0 = .ok (.aload_n 0, 1) := by decide +kernel
theorem dX1_replaceView_1 : decode cX1_replaceView 1 = .ok (.getfield 15, 3) := by decide +kernel
theorem dX1_replaceView_4 : decode cX1_replaceView 4 = .ok (.iload_n 1, 1) := by decide +kernel
theorem dX1_replaceView_5 : decode cX1_replaceView 5 = .ok (.iload_n 2, 1) := by decide +kernel
theorem dX1_replaceView_6 : decode cX1_replaceView 6 = .ok (.iastore, 1) := by decide +kernel
theorem dX1_replaceView_7 : decode cX1_replaceView 7 = .ok (.aload_n 0, 1) := by decide +kernel
theorem dX1_replaceView_8 : decode cX1_replaceView 8 = .ok (.getfield 18, 3) := by decide +kernel
theorem dX1_replaceView_11 : decode cX1_replaceView 11 = .ok (.iload_n 1, 1) := by decide +kernel
theorem dX1_replaceView_12 : decode cX1_replaceView 12 = .ok (.iload_n 3, 1) := by decide +kernel
theorem dX1_replaceView_13 : decode cX1_replaceView 13 = .ok (.iastore, 1) := by decide +kernel
theorem dX1_replaceView_14 : decode cX1_replaceView 14 = .ok (.iload_n 2, 1) := by decide +kernel
theorem dX1_replaceView_15 : decode cX1_replaceView 15 = .ok (.iconst 2, 1) := by decide +kernel
theorem dX1_replaceView_16 : decode cX1_replaceView 16 = .ok (.if_icmp .ne 18, 3) := by decide +kernel
theorem dX1_replaceView_19 : decode cX1_replaceView 19 = .ok (.aload_n 0, 1) := by decide +kernel
theorem dX1_replaceView_20 : decode cX1_replaceView 20 = .ok (.getfield 21, 3) := by decide +kernel
theorem dX1_replaceView_23 : decode cX1_replaceView 23 = .ok (.iload_n 1, 1) := by decide +kernel
theorem dX1_replaceView_24 : decode cX1_replaceView 24 = .ok (.aload_n 0, 1) := by decide +kernel
theorem dX1_replaceView_25 : decode cX1_replaceView 25 = .ok (.getfield 34, 3) := by decide +kernel
theorem dX1_replaceView_28 : decode cX1_replaceView 28 = .ok (.aload_n 0, 1) := by decide +kernel
theorem dX1_replaceView_29 : decode cX1_replaceView 29 = .ok (.getfield 27, 3) := by decide +kernel
theorem dX1_replaceView_32 : decode cX1_replaceView 32 = .ok (.iadd, 1) := by decide +kernel
theorem dX1_replaceView_33 : decode cX1_replaceView 33 = .ok (.iastore, 1) := by decide +kernel
theorem dX1_replaceView_34 : decode cX1_replaceView 34 = .ok (.return_, 1) := by decide +kernel
set_option maxRecDepth 20000 in
theorem ggX1_toldState_X4_pair : GoodIn wsX1_toldState wsX4_pair := goodIn_r _ [4] (by decide +kernel) (by decide +kernel)
set_option maxRecDepth 20000 in
theorem gX1_toldState_X4_pair_n40 : GoodIn wsX1_toldState (wsX4_pair) := ggX1_toldState_X4_pair
theorem dX1_toldState_0 : decode cX1_toldState 0 = .ok (.iload_n 2, 1) := by decide +kernel
theorem dX1_toldState_1 : decode cX1_toldState 1 = .ok (.iload_n 1, 1) := by decide +kernel
theorem dX1_toldState_2 : decode cX1_toldState 2 = .ok (.if_icmp .ne 7, 3) := by decide +kernel
theorem dX1_toldState_5 : decode cX1_toldState 5 = .ok (.iconst 1, 1) := by decide +kernel
theorem dX1_toldState_6 : decode cX1_toldState 6 = .ok (.goto 13, 3) := by decide +kernel
theorem dX1_toldState_9 : decode cX1_toldState 9 = .ok (.aload_n 0, 1) := by decide +kernel
theorem dX1_toldState_10 : decode cX1_toldState 10 = .ok (.getfield 15, 3) := by decide +kernel
theorem dX1_toldState_13 : decode cX1_toldState 13 = .ok (.iload_n 1, 1) := by decide +kernel
theorem dX1_toldState_14 : decode cX1_toldState 14 = .ok (.iload_n 2, 1) := by decide +kernel
theorem dX1_toldState_15 : decode cX1_toldState 15 = .ok (.invokestatic 40, 3) := by decide +kernel
theorem dX1_toldState_18 : decode cX1_toldState 18 = .ok (.iaload, 1) := by decide +kernel
theorem dX1_toldState_19 : decode cX1_toldState 19 = .ok (.ireturn, 1) := by decide +kernel
set_option maxRecDepth 20000 in
theorem ggX1_toldIncarnation_X4_pair : GoodIn wsX1_toldIncarnation wsX4_pair := goodIn_r _ [5] (by decide +kernel) (by decide +kernel)
set_option maxRecDepth 20000 in
theorem gX1_toldIncarnation_X4_pair_n40 : GoodIn wsX1_toldIncarnation (wsX4_pair) := ggX1_toldIncarnation_X4_pair
theorem dX1_toldIncarnation_0 : decode cX1_toldIncarnation 0 = .ok (.iload_n 2, 1) := by decide +kernel
theorem dX1_toldIncarnation_1 : decode cX1_toldIncarnation 1 = .ok (.iload_n 1, 1) := by decide +kernel
theorem dX1_toldIncarnation_2 : decode cX1_toldIncarnation 2 = .ok (.if_icmp .ne 12, 3) := by decide +kernel
theorem dX1_toldIncarnation_5 : decode cX1_toldIncarnation 5 = .ok (.aload_n 0, 1) := by decide +kernel
theorem dX1_toldIncarnation_6 : decode cX1_toldIncarnation 6 = .ok (.getfield 9, 3) := by decide +kernel
theorem dX1_toldIncarnation_9 : decode cX1_toldIncarnation 9 = .ok (.iload_n 1, 1) := by decide +kernel
theorem dX1_toldIncarnation_10 : decode cX1_toldIncarnation 10 = .ok (.iaload, 1) := by decide +kernel
theorem dX1_toldIncarnation_11 : decode cX1_toldIncarnation 11 = .ok (.goto 13, 3) := by decide +kernel
theorem dX1_toldIncarnation_14 : decode cX1_toldIncarnation 14 = .ok (.aload_n 0, 1) := by decide +kernel
theorem dX1_toldIncarnation_15 : decode cX1_toldIncarnation 15 = .ok (.getfield 18, 3) := by decide +kernel
theorem dX1_toldIncarnation_18 : decode cX1_toldIncarnation 18 = .ok (.iload_n 1, 1) := by decide +kernel
theorem dX1_toldIncarnation_19 : decode cX1_toldIncarnation 19 = .ok (.iload_n 2, 1) := by decide +kernel
theorem dX1_toldIncarnation_20 : decode cX1_toldIncarnation 20 = .ok (.invokestatic 40, 3) := by decide +kernel
theorem dX1_toldIncarnation_23 : decode cX1_toldIncarnation 23 = .ok (.iaload, 1) := by decide +kernel
theorem dX1_toldIncarnation_24 : decode cX1_toldIncarnation 24 = .ok (.ireturn, 1) := by decide +kernel
set_option maxRecDepth 20000 in
theorem ggX1_nodesInState_X4_pair : GoodIn wsX1_nodesInState wsX4_pair := goodIn_r _ [4] (by decide +kernel) (by decide +kernel)
set_option maxRecDepth 20000 in
theorem gX1_nodesInState_X4_pair_n40 : GoodIn wsX1_nodesInState (wsX4_pair) := ggX1_nodesInState_X4_pair
theorem dX1_nodesInState_0 : decode cX1_nodesInState 0 = .ok (.iconst 0, 1) := by decide +kernel
theorem dX1_nodesInState_1 : decode cX1_nodesInState 1 = .ok (.istore_n 3, 1) := by decide +kernel
theorem dX1_nodesInState_2 : decode cX1_nodesInState 2 = .ok (.iconst 0, 1) := by decide +kernel
theorem dX1_nodesInState_3 : decode cX1_nodesInState 3 = .ok (.istore 4, 2) := by decide +kernel
theorem dX1_nodesInState_5 : decode cX1_nodesInState 5 = .ok (.iload 4, 2) := by decide +kernel
theorem dX1_nodesInState_7 : decode cX1_nodesInState 7 = .ok (.bipush 8, 2) := by decide +kernel
theorem dX1_nodesInState_9 : decode cX1_nodesInState 9 = .ok (.if_icmp .ge 31, 3) := by decide +kernel
theorem dX1_nodesInState_12 : decode cX1_nodesInState 12 = .ok (.aload_n 0, 1) := by decide +kernel
theorem dX1_nodesInState_13 : decode cX1_nodesInState 13 = .ok (.getfield 15, 3) := by decide +kernel
theorem dX1_nodesInState_16 : decode cX1_nodesInState 16 = .ok (.iload_n 1, 1) := by decide +kernel
theorem dX1_nodesInState_17 : decode cX1_nodesInState 17 = .ok (.iload 4, 2) := by decide +kernel
theorem dX1_nodesInState_19 : decode cX1_nodesInState 19 = .ok (.invokestatic 40, 3) := by decide +kernel
theorem dX1_nodesInState_22 : decode cX1_nodesInState 22 = .ok (.iaload, 1) := by decide +kernel
theorem dX1_nodesInState_23 : decode cX1_nodesInState 23 = .ok (.iload_n 2, 1) := by decide +kernel
theorem dX1_nodesInState_24 : decode cX1_nodesInState 24 = .ok (.if_icmp .ne 10, 3) := by decide +kernel
theorem dX1_nodesInState_27 : decode cX1_nodesInState 27 = .ok (.iload_n 3, 1) := by decide +kernel
theorem dX1_nodesInState_28 : decode cX1_nodesInState 28 = .ok (.iconst 1, 1) := by decide +kernel
theorem dX1_nodesInState_29 : decode cX1_nodesInState 29 = .ok (.iload 4, 2) := by decide +kernel
theorem dX1_nodesInState_31 : decode cX1_nodesInState 31 = .ok (.ishl, 1) := by decide +kernel
theorem dX1_nodesInState_32 : decode cX1_nodesInState 32 = .ok (.ior, 1) := by decide +kernel
theorem dX1_nodesInState_33 : decode cX1_nodesInState 33 = .ok (.istore_n 3, 1) := by decide +kernel
theorem dX1_nodesInState_34 : decode cX1_nodesInState 34 = .ok (.iinc 4 1, 3) := by decide +kernel
theorem dX1_nodesInState_37 : decode cX1_nodesInState 37 = .ok (.goto (-32), 3) := by decide +kernel
theorem dX1_nodesInState_40 : decode cX1_nodesInState 40 = .ok (.iload_n 3, 1) := by decide +kernel
theorem dX1_nodesInState_41 : decode cX1_nodesInState 41 = .ok (.ireturn, 1) := by decide +kernel
set_option maxRecDepth 20000 in
theorem ggX1_mostUrgent_X4_pair : GoodIn wsX1_mostUrgent wsX4_pair := goodIn_r _ [4] (by decide +kernel) (by decide +kernel)
set_option maxRecDepth 20000 in
theorem gX1_mostUrgent_X4_pair_n40 : GoodIn wsX1_mostUrgent (wsX4_pair) := ggX1_mostUrgent_X4_pair
theorem dX1_mostUrgent_0 : decode cX1_mostUrgent 0 = .ok (.iconst (-1), 1) := by decide +kernel
theorem dX1_mostUrgent_1 : decode cX1_mostUrgent 1 = .ok (.istore_n 3, 1) := by decide +kernel
theorem dX1_mostUrgent_2 : decode cX1_mostUrgent 2 = .ok (.iconst 0, 1) := by decide +kernel
theorem dX1_mostUrgent_3 : decode cX1_mostUrgent 3 = .ok (.istore 4, 2) := by decide +kernel
theorem dX1_mostUrgent_5 : decode cX1_mostUrgent 5 = .ok (.iconst 0, 1) := by decide +kernel
theorem dX1_mostUrgent_6 : decode cX1_mostUrgent 6 = .ok (.istore 5, 2) := by decide +kernel
theorem dX1_mostUrgent_8 : decode cX1_mostUrgent 8 = .ok (.iload 5, 2) := by decide +kernel
theorem dX1_mostUrgent_10 : decode cX1_mostUrgent 10 = .ok (.bipush 8, 2) := by decide +kernel
theorem dX1_mostUrgent_12 : decode cX1_mostUrgent 12 = .ok (.if_icmp .ge 45, 3) := by decide +kernel
theorem dX1_mostUrgent_15 : decode cX1_mostUrgent 15 = .ok (.aload_n 0, 1) := by decide +kernel
theorem dX1_mostUrgent_16 : decode cX1_mostUrgent 16 = .ok (.getfield 24, 3) := by decide +kernel
theorem dX1_mostUrgent_19 : decode cX1_mostUrgent 19 = .ok (.iload_n 1, 1) := by decide +kernel
theorem dX1_mostUrgent_20 : decode cX1_mostUrgent 20 = .ok (.iload 5, 2) := by decide +kernel
theorem dX1_mostUrgent_22 : decode cX1_mostUrgent 22 = .ok (.invokestatic 40, 3) := by decide +kernel
theorem dX1_mostUrgent_25 : decode cX1_mostUrgent 25 = .ok (.iaload, 1) := by decide +kernel
theorem dX1_mostUrgent_26 : decode cX1_mostUrgent 26 = .ok (.istore 6, 2) := by decide +kernel
theorem dX1_mostUrgent_28 : decode cX1_mostUrgent 28 = .ok (.iload_n 2, 1) := by decide +kernel
theorem dX1_mostUrgent_29 : decode cX1_mostUrgent 29 = .ok (.iload 5, 2) := by decide +kernel
theorem dX1_mostUrgent_31 : decode cX1_mostUrgent 31 = .ok (.ishr, 1) := by decide +kernel
theorem dX1_mostUrgent_32 : decode cX1_mostUrgent 32 = .ok (.iconst 1, 1) := by decide +kernel
theorem dX1_mostUrgent_33 : decode cX1_mostUrgent 33 = .ok (.iand, 1) := by decide +kernel
theorem dX1_mostUrgent_34 : decode cX1_mostUrgent 34 = .ok (.ifCond .ne 17, 3) := by decide +kernel
theorem dX1_mostUrgent_37 : decode cX1_mostUrgent 37 = .ok (.iload 6, 2) := by decide +kernel
theorem dX1_mostUrgent_39 : decode cX1_mostUrgent 39 = .ok (.iload 4, 2) := by decide +kernel
theorem dX1_mostUrgent_41 : decode cX1_mostUrgent 41 = .ok (.if_icmp .le 10, 3) := by decide +kernel
theorem dX1_mostUrgent_44 : decode cX1_mostUrgent 44 = .ok (.iload 5, 2) := by decide +kernel
theorem dX1_mostUrgent_46 : decode cX1_mostUrgent 46 = .ok (.istore_n 3, 1) := by decide +kernel
theorem dX1_mostUrgent_47 : decode cX1_mostUrgent 47 = .ok (.iload 6, 2) := by decide +kernel
theorem dX1_mostUrgent_49 : decode cX1_mostUrgent 49 = .ok (.istore 4, 2) := by decide +kernel
theorem dX1_mostUrgent_51 : decode cX1_mostUrgent 51 = .ok (.iinc 5 1, 3) := by decide +kernel
theorem dX1_mostUrgent_54 : decode cX1_mostUrgent 54 = .ok (.goto (-46), 3) := by decide +kernel
theorem dX1_mostUrgent_57 : decode cX1_mostUrgent 57 = .ok (.iload_n 3, 1) := by decide +kernel
theorem dX1_mostUrgent_58 : decode cX1_mostUrgent 58 = .ok (.ireturn, 1) := by decide +kernel
set_option maxRecDepth 20000 in
theorem ggX1_sumOfCounters_X4_pair : GoodIn wsX1_sumOfCounters wsX4_pair := goodIn_r _ [4] (by decide +kernel) (by decide +kernel)
set_option maxRecDepth 20000 in
theorem gX1_sumOfCounters_X4_pair_n40 : GoodIn wsX1_sumOfCounters (wsX4_pair) := ggX1_sumOfCounters_X4_pair
theorem dX1_sumOfCounters_0 : decode cX1_sumOfCounters 0 = .ok (.iconst 0, 1) := by decide +kernel
theorem dX1_sumOfCounters_1 : decode cX1_sumOfCounters 1 = .ok (.istore_n 2, 1) := by decide +kernel
theorem dX1_sumOfCounters_2 : decode cX1_sumOfCounters 2 = .ok (.iconst 0, 1) := by decide +kernel
theorem dX1_sumOfCounters_3 : decode cX1_sumOfCounters 3 = .ok (.istore_n 3, 1) := by decide +kernel
theorem dX1_sumOfCounters_4 : decode cX1_sumOfCounters 4 = .ok (.iload_n 3, 1) := by decide +kernel
theorem dX1_sumOfCounters_5 : decode cX1_sumOfCounters 5 = .ok (.bipush 8, 2) := by decide +kernel
theorem dX1_sumOfCounters_7 : decode cX1_sumOfCounters 7 = .ok (.if_icmp .ge 22, 3) := by decide +kernel
theorem dX1_sumOfCounters_10 : decode cX1_sumOfCounters 10 = .ok (.iload_n 2, 1) := by decide +kernel
theorem dX1_sumOfCounters_11 : decode cX1_sumOfCounters 11 = .ok (.aload_n 0, 1) := by decide +kernel
theorem dX1_sumOfCounters_12 : decode cX1_sumOfCounters 12 = .ok (.getfield 24, 3) := by decide +kernel
theorem dX1_sumOfCounters_15 : decode cX1_sumOfCounters 15 = .ok (.iload_n 1, 1) := by decide +kernel
theorem dX1_sumOfCounters_16 : decode cX1_sumOfCounters 16 = .ok (.iload_n 3, 1) := by decide +kernel
theorem dX1_sumOfCounters_17 : decode cX1_sumOfCounters 17 = .ok (.invokestatic 40, 3) := by decide +kernel
theorem dX1_sumOfCounters_20 : decode cX1_sumOfCounters 20 = .ok (.iaload, 1) := by decide +kernel
theorem dX1_sumOfCounters_21 : decode cX1_sumOfCounters 21 = .ok (.iadd, 1) := by decide +kernel
theorem dX1_sumOfCounters_22 : decode cX1_sumOfCounters 22 = .ok (.istore_n 2, 1) := by decide +kernel
theorem dX1_sumOfCounters_23 : decode cX1_sumOfCounters 23 = .ok (.iinc 3 1, 3) := by decide +kernel
theorem dX1_sumOfCounters_26 : decode cX1_sumOfCounters 26 = .ok (.goto (-22), 3) := by decide +kernel
theorem dX1_sumOfCounters_29 : decode cX1_sumOfCounters 29 = .ok (.iload_n 2, 1) := by decide +kernel
theorem dX1_sumOfCounters_30 : decode cX1_sumOfCounters 30 = .ok (.ireturn, 1) := by decide +kernel
set_option maxRecDepth 20000 in
theorem ggX1_isUpToDate_X4_pair : GoodIn wsX1_isUpToDate wsX4_pair := goodIn_r _ [6] (by decide +kernel) (by decide +kernel)
set_option maxRecDepth 20000 in
theorem gX1_isUpToDate_X4_pair_n40 : GoodIn wsX1_isUpToDate (wsX4_pair) := ggX1_isUpToDate_X4_pair
theorem dX1_isUpToDate_0 : decode cX1_isUpToDate 0 = .ok (.aload_n 0, 1) := by decide +kernel
theorem dX1_isUpToDate_1 : decode cX1_isUpToDate 1 = .ok (.getfield 15, 3) := by decide +kernel
theorem dX1_isUpToDate_4 : decode cX1_isUpToDate 4 = .ok (.iload_n 1, 1) := by decide +kernel
theorem dX1_isUpToDate_5 : decode cX1_isUpToDate 5 = .ok (.iload_n 2, 1) := by decide +kernel
theorem dX1_isUpToDate_6 : decode cX1_isUpToDate 6 = .ok (.invokestatic 40, 3) := by decide +kernel
theorem dX1_isUpToDate_9 : decode cX1_isUpToDate 9 = .ok (.iaload, 1) := by decide +kernel
theorem dX1_isUpToDate_10 : decode cX1_isUpToDate 10 = .ok (.iconst 1, 1) := by decide +kernel
theorem dX1_isUpToDate_11 : decode cX1_isUpToDate 11 = .ok (.if_icmp .ne 26, 3) := by decide +kernel
theorem dX1_isUpToDate_14 : decode cX1_isUpToDate 14 = .ok (.aload_n 0, 1) := by decide +kernel
theorem dX1_isUpToDate_15 : decode cX1_isUpToDate 15 = .ok (.getfield 18, 3) := by decide +kernel
theorem dX1_isUpToDate_18 : decode cX1_isUpToDate 18 = .ok (.iload_n 1, 1) := by decide +kernel
theorem dX1_isUpToDate_19 : decode cX1_isUpToDate 19 = .ok (.iload_n 2, 1) := by decide +kernel
theorem dX1_isUpToDate_20 : decode cX1_isUpToDate 20 = .ok (.invokestatic 40, 3) := by decide +kernel
theorem dX1_isUpToDate_23 : decode cX1_isUpToDate 23 = .ok (.iaload, 1) := by decide +kernel
theorem dX1_isUpToDate_24 : decode cX1_isUpToDate 24 = .ok (.aload_n 0, 1) := by decide +kernel
theorem dX1_isUpToDate_25 : decode cX1_isUpToDate 25 = .ok (.getfield 9, 3) := by decide +kernel
theorem dX1_isUpToDate_28 : decode cX1_isUpToDate 28 = .ok (.iload_n 2, 1) := by decide +kernel
theorem dX1_isUpToDate_29 : decode cX1_isUpToDate 29 = .ok (.iaload, 1) := by decide +kernel
theorem dX1_isUpToDate_30 : decode cX1_isUpToDate 30 = .ok (.if_icmp .ne 7, 3) := by decide +kernel
theorem dX1_isUpToDate_33 : decode cX1_isUpToDate 33 = .ok (.iconst 1, 1) := by decide +kernel
theorem dX1_isUpToDate_34 : decode cX1_isUpToDate 34 = .ok (.goto 4, 3) := by decide +kernel
theorem dX1_isUpToDate_37 : decode cX1_isUpToDate 37 = .ok (.iconst 0, 1) := by decide +kernel
theorem dX1_isUpToDate_38 : decode cX1_isUpToDate 38 = .ok (.ireturn, 1) := by decide +kernel
set_option maxRecDepth 20000 in
theorem ggX1_countDifferences_X4_pair : GoodIn wsX1_countDifferences wsX4_pair := goodIn_r _ [3] (by decide +kernel) (by decide +kernel)
set_option maxRecDepth 20000 in
theorem gX1_countDifferences_X4_pair_n40 : GoodIn wsX1_countDifferences (wsX4_pair) := ggX1_countDifferences_X4_pair
set_option maxRecDepth 20000 in
theorem ggX1_countDifferences_X1_differ : GoodIn wsX1_countDifferences wsX1_differ := goodIn_ca (goodIn_r _ [8, 9, 10, 11, 12, 13, 14, 15, 16, 17, 18, 19, 20] (by decide +kernel) (by decide +kernel)) (goodIn_sub (fun _ h => List.mem_cons_of_mem _ (List.mem_append_right _ h)) (by decide +kernel))
set_option maxRecDepth 20000 in
theorem gX1_countDifferences_X1_differ : GoodIn wsX1_countDifferences (wsV RX1 58 RX1 yX1_differ wsX1_differ) := goodIn_app (goodIn_of _ (by decide +kernel)) ggX1_countDifferences_X1_differ
theorem dX1_countDifferences_0 : decode cX1_countDifferences 0 = .ok (.iconst 0, 1) := by decide +kernel
theorem dX1_countDifferences_1 : decode cX1_countDifferences 1 = .ok (.istore_n 3, 1) := by decide +kernel
theorem dX1_countDifferences_2 : decode cX1_countDifferences 2 = .ok (.iconst 0, 1) := by decide +kernel
theorem dX1_countDifferences_3 : decode cX1_countDifferences 3 = .ok (.istore 4, 2) := by decide +kernel
theorem dX1_countDifferences_5 : decode cX1_countDifferences 5 = .ok (.iload 4, 2) := by decide +kernel
theorem dX1_countDifferences_7 : decode cX1_countDifferences 7 = .ok (.bipush 8, 2) := by decide +kernel
theorem dX1_countDifferences_9 : decode cX1_countDifferences 9 = .ok (.if_icmp .ge 43, 3) := by decide +kernel
theorem dX1_countDifferences_12 : decode cX1_countDifferences 12 = .ok (.iload 4, 2) := by decide +kernel
theorem dX1_countDifferences_14 : decode cX1_countDifferences 14 = .ok (.iload_n 1, 1) := by decide +kernel
theorem dX1_countDifferences_15 : decode cX1_countDifferences 15 = .ok (.if_icmp .eq 31, 3) := by decide +kernel
theorem dX1_countDifferences_18 : decode cX1_countDifferences 18 = .ok (.iload 4, 2) := by decide +kernel
theorem dX1_countDifferences_20 : decode cX1_countDifferences 20 = .ok (.iload_n 2, 1) := by decide +kernel
theorem dX1_countDifferences_21 : decode cX1_countDifferences 21 = .ok (.if_icmp .eq 25, 3) := by decide +kernel
theorem dX1_countDifferences_24 : decode cX1_countDifferences 24 = .ok (.aload_n 0, 1) := by decide +kernel
theorem dX1_countDifferences_25 : decode cX1_countDifferences 25 = .ok (.iload_n 1, 1) := by decide +kernel
theorem dX1_countDifferences_26 : decode cX1_countDifferences 26 = .ok (.iload 4, 2) := by decide +kernel
theorem dX1_countDifferences_28 : decode cX1_countDifferences 28 = .ok (.invokestatic 40, 3) := by decide +kernel
theorem dX1_countDifferences_31 : decode cX1_countDifferences 31 = .ok (.iload_n 2, 1) := by decide +kernel
theorem dX1_countDifferences_32 : decode cX1_countDifferences 32 = .ok (.iload 4, 2) := by decide +kernel
theorem dX1_countDifferences_34 : decode cX1_countDifferences 34 = .ok (.invokestatic 40, 3) := by decide +kernel
theorem dX1_countDifferences_37 : decode cX1_countDifferences 37 = .ok (.invokevirtual 58, 3) := by decide +kernel
theorem dX1_countDifferences_40 : decode cX1_countDifferences 40 = .ok (.ifCond .eq 6, 3) := by decide +kernel
theorem dX1_countDifferences_43 : decode cX1_countDifferences 43 = .ok (.iinc 3 1, 3) := by decide +kernel
theorem dX1_countDifferences_46 : decode cX1_countDifferences 46 = .ok (.iinc 4 1, 3) := by decide +kernel
theorem dX1_countDifferences_49 : decode cX1_countDifferences 49 = .ok (.goto (-44), 3) := by decide +kernel
theorem dX1_countDifferences_52 : decode cX1_countDifferences 52 = .ok (.iload_n 3, 1) := by decide +kernel
theorem dX1_countDifferences_53 : decode cX1_countDifferences 53 = .ok (.ireturn, 1) := by decide +kernel
theorem dX1_differ_0 : decode cX1_differ 0 = .ok (.aload_n 0, 1) := by decide +kernel
theorem dX1_differ_1 : decode cX1_differ 1 = .ok (.getfield 15, 3) := by decide +kernel
theorem dX1_differ_4 : decode cX1_differ 4 = .ok (.iload_n 1, 1) := by decide +kernel
theorem dX1_differ_5 : decode cX1_differ 5 = .ok (.iaload, 1) := by decide +kernel
theorem dX1_differ_6 : decode cX1_differ 6 = .ok (.aload_n 0, 1) := by decide +kernel
theorem dX1_differ_7 : decode cX1_differ 7 = .ok (.getfield 15, 3) := by decide +kernel
theorem dX1_differ_10 : decode cX1_differ 10 = .ok (.iload_n 2, 1) := by decide +kernel
theorem dX1_differ_11 : decode cX1_differ 11 = .ok (.iaload, 1) := by decide +kernel
theorem dX1_differ_12 : decode cX1_differ 12 = .ok (.if_icmp .ne 18, 3) := by decide +kernel
theorem dX1_differ_15 : decode cX1_differ 15 = .ok (.aload_n 0, 1) := by decide +kernel
theorem dX1_differ_16 : decode cX1_differ 16 = .ok (.getfield 18, 3) := by decide +kernel
theorem dX1_differ_19 : decode cX1_differ 19 = .ok (.iload_n 1, 1) := by decide +kernel
theorem dX1_differ_20 : decode cX1_differ 20 = .ok (.iaload, 1) := by decide +kernel
theorem dX1_differ_21 : decode cX1_differ 21 = .ok (.aload_n 0, 1) := by decide +kernel
theorem dX1_differ_22 : decode cX1_differ 22 = .ok (.getfield 18, 3) := by decide +kernel
theorem dX1_differ_25 : decode cX1_differ 25 = .ok (.iload_n 2, 1) := by decide +kernel
theorem dX1_differ_26 : decode cX1_differ 26 = .ok (.iaload, 1) := by decide +kernel
theorem dX1_differ_27 : decode cX1_differ 27 = .ok (.if_icmp .eq 7, 3) := by decide +kernel
theorem dX1_differ_30 : decode cX1_differ 30 = .ok (.iconst 1, 1) := by decide +kernel
theorem dX1_differ_31 : decode cX1_differ 31 = .ok (.goto 4, 3) := by decide +kernel
theorem dX1_differ_34 : decode cX1_differ 34 = .ok (.iconst 0, 1) := by decide +kernel
theorem dX1_differ_35 : decode cX1_differ 35 = .ok (.ireturn, 1) := by decide +kernel
theorem dX1_copyFrom_0 : decode cX1_copyFrom 0 = .ok (.aload_n 1, 1) := by decide +kernel
theorem dX1_copyFrom_1 : decode cX1_copyFrom 1 = .ok (.getfield 9, 3) := by decide +kernel
theorem dX1_copyFrom_4 : decode cX1_copyFrom 4 = .ok (.iconst 0, 1) := by decide +kernel
theorem dX1_copyFrom_5 : decode cX1_copyFrom 5 = .ok (.aload_n 0, 1) := by decide +kernel
theorem dX1_copyFrom_6 : decode cX1_copyFrom 6 = .ok (.getfield 9, 3) := by decide +kernel
theorem dX1_copyFrom_9 : decode cX1_copyFrom 9 = .ok (.iconst 0, 1) := by decide +kernel
theorem dX1_copyFrom_10 : decode cX1_copyFrom 10 = .ok (.bipush 8, 2) := by decide +kernel
theorem dX1_copyFrom_12 : decode cX1_copyFrom 12 = .ok (.invokestatic 62, 3) := by decide +kernel
theorem dX1_copyFrom_15 : decode cX1_copyFrom 15 = .ok (.aload_n 1, 1) := by decide +kernel
theorem dX1_copyFrom_16 : decode cX1_copyFrom 16 = .ok (.getfield 15, 3) := by decide +kernel
theorem dX1_copyFrom_19 : decode cX1_copyFrom 19 = .ok (.iconst 0, 1) := by decide +kernel
theorem dX1_copyFrom_20 : decode cX1_copyFrom 20 = .ok (.aload_n 0, 1) := by decide +kernel
theorem dX1_copyFrom_21 : decode cX1_copyFrom 21 = .ok (.getfield 15, 3) := by decide +kernel
theorem dX1_copyFrom_24 : decode cX1_copyFrom 24 = .ok (.iconst 0, 1) := by decide +kernel
theorem dX1_copyFrom_25 : decode cX1_copyFrom 25 = .ok (.bipush 64, 2) := by decide +kernel
theorem dX1_copyFrom_27 : decode cX1_copyFrom 27 = .ok (.invokestatic 62, 3) := by decide +kernel
theorem dX1_copyFrom_30 : decode cX1_copyFrom 30 = .ok (.aload_n 1, 1) := by decide +kernel
theorem dX1_copyFrom_31 : decode cX1_copyFrom 31 = .ok (.getfield 18, 3) := by decide +kernel
theorem dX1_copyFrom_34 : decode cX1_copyFrom 34 = .ok (.iconst 0, 1) := by decide +kernel
theorem dX1_copyFrom_35 : decode cX1_copyFrom 35 = .ok (.aload_n 0, 1) := by decide +kernel
theorem dX1_copyFrom_36 : decode cX1_copyFrom 36 = .ok (.getfield 18, 3) := by decide +kernel
theorem dX1_copyFrom_39 : decode cX1_copyFrom 39 = .ok (.iconst 0, 1) := by decide +kernel
theorem dX1_copyFrom_40 : decode cX1_copyFrom 40 = .ok (.bipush 64, 2) := by decide +kernel
theorem dX1_copyFrom_42 : decode cX1_copyFrom 42 = .ok (.invokestatic 62, 3) := by decide +kernel
theorem dX1_copyFrom_45 : decode cX1_copyFrom 45 = .ok (.aload_n 1, 1) := by decide +kernel
theorem dX1_copyFrom_46 : decode cX1_copyFrom 46 = .ok (.getfield 21, 3) := by decide +kernel
theorem dX1_copyFrom_49 : decode cX1_copyFrom 49 = .ok (.iconst 0, 1) := by decide +kernel
theorem dX1_copyFrom_50 : decode cX1_copyFrom 50 = .ok (.aload_n 0, 1) := by decide +kernel
theorem dX1_copyFrom_51 : decode cX1_copyFrom 51 = .ok (.getfield 21, 3) := by decide +kernel
theorem dX1_copyFrom_54 : decode cX1_copyFrom 54 = .ok (.iconst 0, 1) := by decide +kernel
theorem dX1_copyFrom_55 : decode cX1_copyFrom 55 = .ok (.bipush 64, 2) := by decide +kernel
theorem dX1_copyFrom_57 : decode cX1_copyFrom 57 = .ok (.invokestatic 62, 3) := by decide +kernel
theorem dX1_copyFrom_60 : decode cX1_copyFrom 60 = .ok (.aload_n 1, 1) := by decide +kernel
theorem dX1_copyFrom_61 : decode cX1_copyFrom 61 = .ok (.getfield 24, 3) := by decide +kernel
theorem dX1_copyFrom_64 : decode cX1_copyFrom 64 = .ok (.iconst 0, 1) := by decide +kernel
theorem dX1_copyFrom_65 : decode cX1_copyFrom 65 = .ok (.aload_n 0, 1) := by decide +kernel
theorem dX1_copyFrom_66 : decode cX1_copyFrom 66 = .ok (.getfield 24, 3) := by decide +kernel
theorem dX1_copyFrom_69 : decode cX1_copyFrom 69 = .ok (.iconst 0, 1) := by decide +kernel
theorem dX1_copyFrom_70 : decode cX1_copyFrom 70 = .ok (.bipush 64, 2) := by decide +kernel
theorem dX1_copyFrom_72 : decode cX1_copyFrom 72 = .ok (.invokestatic 62, 3) := by decide +kernel
theorem dX1_copyFrom_75 : decode cX1_copyFrom 75 = .ok (.aload_n 0, 1) := by decide +kernel
theorem dX1_copyFrom_76 : decode cX1_copyFrom 76 = .ok (.aload_n 1, 1) := by decide +kernel
theorem dX1_copyFrom_77 : decode cX1_copyFrom 77 = .ok (.getfield 27, 3) := by decide +kernel
theorem dX1_copyFrom_80 : decode cX1_copyFrom 80 = .ok (.putfield 27, 3) := by decide +kernel
theorem dX1_copyFrom_83 : decode cX1_copyFrom 83 = .ok (.aload_n 0, 1) := by decide +kernel
theorem dX1_copyFrom_84 : decode cX1_copyFrom 84 = .ok (.aload_n 1, 1) := by decide +kernel
theorem dX1_copyFrom_85 : decode cX1_copyFrom 85 = .ok (.getfield 31, 3) := by decide +kernel
theorem dX1_copyFrom_88 : decode cX1_copyFrom 88 = .ok (.putfield 31, 3) := by decide +kernel
theorem dX1_copyFrom_91 : decode cX1_copyFrom 91 = .ok (.aload_n 0, 1) := by decide +kernel
theorem dX1_copyFrom_92 : decode cX1_copyFrom 92 = .ok (.aload_n 1, 1) := by decide +kernel
theorem dX1_copyFrom_93 : decode cX1_copyFrom 93 = .ok (.getfield 34, 3) := by decide +kernel
theorem dX1_copyFrom_96 : decode cX1_copyFrom 96 = .ok (.putfield 34, 3) := by decide +kernel
theorem dX1_copyFrom_99 : decode cX1_copyFrom 99 = .ok (.aload_n 0, 1) := by decide +kernel
theorem dX1_copyFrom_100 : decode cX1_copyFrom 100 = .ok (.aload_n 1, 1) := by decide +kernel
theorem dX1_copyFrom_101 : decode cX1_copyFrom 101 = .ok (.getfield 37, 3) := by decide +kernel
theorem dX1_copyFrom_104 : decode cX1_copyFrom 104 = .ok (.putfield 37, 3) := by decide +kernel
theorem dX1_copyFrom_107 : decode cX1_copyFrom 107 = .ok (.aload_n 0, 1) := by decide +kernel
theorem dX1_copyFrom_108 : decode cX1_copyFrom 108 = .ok (.aload_n 1, 1) := by decide +kernel
theorem dX1_copyFrom_109 : decode cX1_copyFrom 109 = .ok (.getfield 44, 3) := by decide +kernel
theorem dX1_copyFrom_112 : decode cX1_copyFrom 112 = .ok (.putfield 44, 3) := by decide +kernel
theorem dX1_copyFrom_115 : decode cX1_copyFrom 115 = .ok (.return_, 1) := by decide +kernel
theorem dX2_init_0 : decode cX2_init 0 = .ok (.aload_n 0, 1) := by decide +kernel
theorem dX2_init_1 : decode cX2_init 1 = .ok (.invokespecial 3, 3) := by decide +kernel
theorem dX2_init_4 : decode cX2_init 4 = .ok (.aload_n 0, 1) := by decide +kernel
theorem dX2_init_5 : decode cX2_init 5 = .ok (.bipush 8, 2) := by decide +kernel
theorem dX2_init_7 : decode cX2_init 7 = .ok (.newarray .boolean, 2) := by decide +kernel
theorem dX2_init_9 : decode cX2_init 9 = .ok (.putfield 9, 3) := by decide +kernel
theorem dX2_init_12 : decode cX2_init 12 = .ok (.aload_n 0, 1) := by decide +kernel
theorem dX2_init_13 : decode cX2_init 13 = .ok (.bipush 8, 2) := by decide +kernel
theorem dX2_init_15 : decode cX2_init 15 = .ok (.newarray .boolean, 2) := by decide +kernel
theorem dX2_init_17 : decode cX2_init 17 = .ok (.putfield 15, 3) := by decide +kernel
theorem dX2_init_20 : decode cX2_init 20 = .ok (.aload_n 0, 1) := by decide +kernel
theorem dX2_init_21 : decode cX2_init 21 = .ok (.bipush 8, 2) := by decide +kernel
theorem dX2_init_23 : decode cX2_init 23 = .ok (.newarray .int, 2) := by decide +kernel
theorem dX2_init_25 : decode cX2_init 25 = .ok (.putfield 18, 3) := by decide +kernel
theorem dX2_init_28 : decode cX2_init 28 = .ok (.aload_n 0, 1) := by decide +kernel
theorem dX2_init_29 : decode cX2_init 29 = .ok (.bipush 64, 2) := by decide +kernel
theorem dX2_init_31 : decode cX2_init 31 = .ok (.newarray .boolean, 2) := by decide +kernel
theorem dX2_init_33 : decode cX2_init 33 = .ok (.putfield 22, 3) := by decide +kernel
theorem dX2_init_36 : decode cX2_init 36 = .ok (.return_, 1) := by decide +kernel
set_option maxRecDepth 20000 in
theorem ggX2_connects_X2_wouldConnect : GoodIn wsX2_connects wsX2_wouldConnect := goodIn_ca (goodIn_r _ [6, 1, 7, 8, 9, 10, 11, 12, 13, 14, 15] (by decide +kernel) (by decide +kernel)) (goodIn_sub (fun _ h => List.mem_cons_of_mem _ (List.mem_append_right _ h)) (by decide +kernel))
set_option maxRecDepth 20000 in
theorem gX2_connects_X2_wouldConnect : GoodIn wsX2_connects (wsV RX2 25 RX2 yX2_wouldConnect wsX2_wouldConnect) := goodIn_app (goodIn_of _ (by decide +kernel)) ggX2_connects_X2_wouldConnect
theorem dX2_connects_0 : decode cX2_connects 0 = .ok (.iload_n 1, 1) := by decide +kernel
theorem dX2_connects_1 : decode cX2_connects 1 = .ok (.iload_n 2, 1) := by decide +kernel
theorem dX2_connects_2 : decode cX2_connects 2 = .ok (.if_icmp .eq 25, 3) := by decide +kernel
theorem dX2_connects_5 : decode cX2_connects 5 = .ok (.aload_n 0, 1) := by decide +kernel
theorem dX2_connects_6 : decode cX2_connects 6 = .ok (.getfield 9, 3) := by decide +kernel
theorem dX2_connects_9 : decode cX2_connects 9 = .ok (.iload_n 1, 1) := by decide +kernel
theorem dX2_connects_10 : decode cX2_connects 10 = .ok (.baload, 1) := by decide +kernel
theorem dX2_connects_11 : decode cX2_connects 11 = .ok (.ifCond .eq 16, 3) := by decide +kernel
theorem dX2_connects_14 : decode cX2_connects 14 = .ok (.aload_n 0, 1) := by decide +kernel
theorem dX2_connects_15 : decode cX2_connects 15 = .ok (.iload_n 1, 1) := by decide +kernel
theorem dX2_connects_16 : decode cX2_connects 16 = .ok (.iload_n 2, 1) := by decide +kernel
theorem dX2_connects_17 : decode cX2_connects 17 = .ok (.invokevirtual 25, 3) := by decide +kernel
theorem dX2_connects_20 : decode cX2_connects 20 = .ok (.ifCond .eq 7, 3) := by decide +kernel
theorem dX2_connects_23 : decode cX2_connects 23 = .ok (.iconst 1, 1) := by decide +kernel
theorem dX2_connects_24 : decode cX2_connects 24 = .ok (.goto 4, 3) := by decide +kernel
theorem dX2_connects_27 : decode cX2_connects 27 = .ok (.iconst 0, 1) := by decide +kernel
theorem dX2_connects_28 : decode cX2_connects 28 = .ok (.ireturn, 1) := by decide +kernel
set_option maxRecDepth 20000 in
theorem ggX2_wouldConnect_X4_pair : GoodIn wsX2_wouldConnect wsX4_pair := goodIn_r _ [6] (by decide +kernel) (by decide +kernel)
set_option maxRecDepth 20000 in
theorem gX2_wouldConnect_X4_pair_n29 : GoodIn wsX2_wouldConnect (wsX4_pair) := ggX2_wouldConnect_X4_pair
theorem dX2_wouldConnect_0 : decode cX2_wouldConnect 0 = .ok (.aload_n 0, 1) := by decide +kernel
theorem dX2_wouldConnect_1 : decode cX2_wouldConnect 1 = .ok (.getfield 9, 3) := by decide +kernel
theorem dX2_wouldConnect_4 : decode cX2_wouldConnect 4 = .ok (.iload_n 2, 1) := by decide +kernel
theorem dX2_wouldConnect_5 : decode cX2_wouldConnect 5 = .ok (.baload, 1) := by decide +kernel
theorem dX2_wouldConnect_6 : decode cX2_wouldConnect 6 = .ok (.ifCond .eq 35, 3) := by decide +kernel
theorem dX2_wouldConnect_9 : decode cX2_wouldConnect 9 = .ok (.aload_n 0, 1) := by decide +kernel
theorem dX2_wouldConnect_10 : decode cX2_wouldConnect 10 = .ok (.getfield 18, 3) := by decide +kernel
theorem dX2_wouldConnect_13 : decode cX2_wouldConnect 13 = .ok (.iload_n 1, 1) := by decide +kernel
theorem dX2_wouldConnect_14 : decode cX2_wouldConnect 14 = .ok (.iaload, 1) := by decide +kernel
theorem dX2_wouldConnect_15 : decode cX2_wouldConnect 15 = .ok (.aload_n 0, 1) := by decide +kernel
theorem dX2_wouldConnect_16 : decode cX2_wouldConnect 16 = .ok (.getfield 18, 3) := by decide +kernel
theorem dX2_wouldConnect_19 : decode cX2_wouldConnect 19 = .ok (.iload_n 2, 1) := by decide +kernel
theorem dX2_wouldConnect_20 : decode cX2_wouldConnect 20 = .ok (.iaload, 1) := by decide +kernel
theorem dX2_wouldConnect_21 : decode cX2_wouldConnect 21 = .ok (.if_icmp .ne 20, 3) := by decide +kernel
theorem dX2_wouldConnect_24 : decode cX2_wouldConnect 24 = .ok (.aload_n 0, 1) := by decide +kernel
theorem dX2_wouldConnect_25 : decode cX2_wouldConnect 25 = .ok (.getfield 22, 3) := by decide +kernel
theorem dX2_wouldConnect_28 : decode cX2_wouldConnect 28 = .ok (.iload_n 1, 1) := by decide +kernel
theorem dX2_wouldConnect_29 : decode cX2_wouldConnect 29 = .ok (.iload_n 2, 1) := by decide +kernel
theorem dX2_wouldConnect_30 : decode cX2_wouldConnect 30 = .ok (.invokestatic 29, 3) := by decide +kernel
theorem dX2_wouldConnect_33 : decode cX2_wouldConnect 33 = .ok (.baload, 1) := by decide +kernel
theorem dX2_wouldConnect_34 : decode cX2_wouldConnect 34 = .ok (.ifCond .ne 7, 3) := by decide +kernel
theorem dX2_wouldConnect_37 : decode cX2_wouldConnect 37 = .ok (.iconst 1, 1) := by decide +kernel
theorem dX2_wouldConnect_38 : decode cX2_wouldConnect 38 = .ok (.goto 4, 3) := by decide +kernel
theorem dX2_wouldConnect_41 : decode cX2_wouldConnect 41 = .ok (.iconst 0, 1) := by decide +kernel
theorem dX2_wouldConnect_42 : decode cX2_wouldConnect 42 = .ok (.ireturn, 1) := by decide +kernel
set_option maxRecDepth 20000 in
theorem ggX2_setCut_X4_pair : GoodIn wsX2_setCut wsX4_pair := goodIn_r _ [4] (by decide +kernel) (by decide +kernel)
set_option maxRecDepth 20000 in
theorem gX2_setCut_X4_pair_n29 : GoodIn wsX2_setCut (wsX4_pair) := ggX2_setCut_X4_pair
theorem dX2_setCut_0 : decode cX2_setCut 0 = .ok (.aload_n 0, 1) := by decide +kernel
theorem dX2_setCut_1 : decode cX2_setCut 1 = .ok (.getfield 22, 3) := by decide +kernel
theorem dX2_setCut_4 : decode cX2_setCut 4 = .ok (.iload_n 1, 1) := by decide +kernel
theorem dX2_setCut_5 : decode cX2_setCut 5 = .ok (.iload_n 2, 1) := by decide +kernel
theorem dX2_setCut_6 : decode cX2_setCut 6 = .ok (.invokestatic 29, 3) := by decide +kernel
theorem dX2_setCut_9 : decode cX2_setCut 9 = .ok (.iload_n 3, 1) := by decide +kernel
theorem dX2_setCut_10 : decode cX2_setCut 10 = .ok (.bastore, 1) := by decide +kernel
theorem dX2_setCut_11 : decode cX2_setCut 11 = .ok (.aload_n 0, 1) := by decide +kernel
theorem dX2_setCut_12 : decode cX2_setCut 12 = .ok (.getfield 22, 3) := by decide +kernel
theorem dX2_setCut_15 : decode cX2_setCut 15 = .ok (.iload_n 2, 1) := by decide +kernel
theorem dX2_setCut_16 : decode cX2_setCut 16 = .ok (.iload_n 1, 1) := by decide +kernel
theorem dX2_setCut_17 : decode cX2_setCut 17 = .ok (.invokestatic 29, 3) := by decide +kernel
theorem dX2_setCut_20 : decode cX2_setCut 20 = .ok (.iload_n 3, 1) := by decide +kernel
theorem dX2_setCut_21 : decode cX2_setCut 21 = .ok (.bastore, 1) := by decide +kernel
theorem dX2_setCut_22 : decode cX2_setCut 22 = .ok (.return_, 1) := by decide +kernel
theorem dX2_countUp_0 : decode cX2_countUp 0 = .ok (.iconst 0, 1) := by decide +kernel
theorem dX2_countUp_1 : decode cX2_countUp 1 = .ok (.istore_n 1, 1) := by decide +kernel
theorem dX2_countUp_2 : decode cX2_countUp 2 = .ok (.iconst 0, 1) := by decide +kernel
theorem dX2_countUp_3 : decode cX2_countUp 3 = .ok (.istore_n 2, 1) := by decide +kernel
theorem dX2_countUp_4 : decode cX2_countUp 4 = .ok (.iload_n 2, 1) := by decide +kernel
theorem dX2_countUp_5 : decode cX2_countUp 5 = .ok (.bipush 8, 2) := by decide +kernel
theorem dX2_countUp_7 : decode cX2_countUp 7 = .ok (.if_icmp .ge 21, 3) := by decide +kernel
theorem dX2_countUp_10 : decode cX2_countUp 10 = .ok (.aload_n 0, 1) := by decide +kernel
theorem dX2_countUp_11 : decode cX2_countUp 11 = .ok (.getfield 9, 3) := by decide +kernel
theorem dX2_countUp_14 : decode cX2_countUp 14 = .ok (.iload_n 2, 1) := by decide +kernel
theorem dX2_countUp_15 : decode cX2_countUp 15 = .ok (.baload, 1) := by decide +kernel
theorem dX2_countUp_16 : decode cX2_countUp 16 = .ok (.ifCond .eq 6, 3) := by decide +kernel
theorem dX2_countUp_19 : decode cX2_countUp 19 = .ok (.iinc 1 1, 3) := by decide +kernel
theorem dX2_countUp_22 : decode cX2_countUp 22 = .ok (.iinc 2 1, 3) := by decide +kernel
theorem dX2_countUp_25 : decode cX2_countUp 25 = .ok (.goto (-21), 3) := by decide +kernel
theorem dX2_countUp_28 : decode cX2_countUp 28 = .ok (.iload_n 1, 1) := by decide +kernel
theorem dX2_countUp_29 : decode cX2_countUp 29 = .ok (.ireturn, 1) := by decide +kernel
theorem dX2_copyFrom_0 : decode cX2_copyFrom 0 = .ok (.iconst 0, 1) := by decide +kernel
theorem dX2_copyFrom_1 : decode cX2_copyFrom 1 = .ok (.istore_n 2, 1) := by decide +kernel
theorem dX2_copyFrom_2 : decode cX2_copyFrom 2 = .ok (.iload_n 2, 1) := by decide +kernel
theorem dX2_copyFrom_3 : decode cX2_copyFrom 3 = .ok (.bipush 8, 2) := by decide +kernel
theorem dX2_copyFrom_5 : decode cX2_copyFrom 5 = .ok (.if_icmp .ge 45, 3) := by decide +kernel
theorem dX2_copyFrom_8 : decode cX2_copyFrom 8 = .ok (.aload_n 0, 1) := by decide +kernel
theorem dX2_copyFrom_9 : decode cX2_copyFrom 9 = .ok (.getfield 9, 3) := by decide +kernel
theorem dX2_copyFrom_12 : decode cX2_copyFrom 12 = .ok (.iload_n 2, 1) := by decide +kernel
theorem dX2_copyFrom_13 : decode cX2_copyFrom 13 = .ok (.aload_n 1, 1) := by decide +kernel
theorem dX2_copyFrom_14 : decode cX2_copyFrom 14 = .ok (.getfield 9, 3) := by decide +kernel
theorem dX2_copyFrom_17 : decode cX2_copyFrom 17 = .ok (.iload_n 2, 1) := by decide +kernel
theorem dX2_copyFrom_18 : decode cX2_copyFrom 18 = .ok (.baload, 1) := by decide +kernel
theorem dX2_copyFrom_19 : decode cX2_copyFrom 19 = .ok (.bastore, 1) := by decide +kernel
theorem dX2_copyFrom_20 : decode cX2_copyFrom 20 = .ok (.aload_n 0, 1) := by decide +kernel
theorem dX2_copyFrom_21 : decode cX2_copyFrom 21 = .ok (.getfield 15, 3) := by decide +kernel
theorem dX2_copyFrom_24 : decode cX2_copyFrom 24 = .ok (.iload_n 2, 1) := by decide +kernel
theorem dX2_copyFrom_25 : decode cX2_copyFrom 25 = .ok (.aload_n 1, 1) := by decide +kernel
theorem dX2_copyFrom_26 : decode cX2_copyFrom 26 = .ok (.getfield 15, 3) := by decide +kernel
theorem dX2_copyFrom_29 : decode cX2_copyFrom 29 = .ok (.iload_n 2, 1) := by decide +kernel
theorem dX2_copyFrom_30 : decode cX2_copyFrom 30 = .ok (.baload, 1) := by decide +kernel
theorem dX2_copyFrom_31 : decode cX2_copyFrom 31 = .ok (.bastore, 1) := by decide +kernel
theorem dX2_copyFrom_32 : decode cX2_copyFrom 32 = .ok (.aload_n 0, 1) := by decide +kernel
theorem dX2_copyFrom_33 : decode cX2_copyFrom 33 = .ok (.getfield 18, 3) := by decide +kernel
theorem dX2_copyFrom_36 : decode cX2_copyFrom 36 = .ok (.iload_n 2, 1) := by decide +kernel
theorem dX2_copyFrom_37 : decode cX2_copyFrom 37 = .ok (.aload_n 1, 1) := by decide +kernel
theorem dX2_copyFrom_38 : decode cX2_copyFrom 38 = .ok (.getfield 18, 3) := by decide +kernel
theorem dX2_copyFrom_41 : decode cX2_copyFrom 41 = .ok (.iload_n 2, 1) := by decide +kernel
theorem dX2_copyFrom_42 : decode cX2_copyFrom 42 = .ok (.iaload, 1) := by decide +kernel
theorem dX2_copyFrom_43 : decode cX2_copyFrom 43 = .ok (.iastore, 1) := by decide +kernel
theorem dX2_copyFrom_44 : decode cX2_copyFrom 44 = .ok (.iinc 2 1, 3) := by decide +kernel
theorem dX2_copyFrom_47 : decode cX2_copyFrom 47 = .ok (.goto (-45), 3) := by decide +kernel
theorem dX2_copyFrom_50 : decode cX2_copyFrom 50 = .ok (.iconst 0, 1) := by decide +kernel
theorem dX2_copyFrom_51 : decode cX2_copyFrom 51 = .ok (.istore_n 2, 1) := by decide +kernel
theorem dX2_copyFrom_52 : decode cX2_copyFrom 52 = .ok (.iload_n 2, 1) := by decide +kernel
theorem dX2_copyFrom_53 : decode cX2_copyFrom 53 = .ok (.bipush 64, 2) := by decide +kernel
theorem dX2_copyFrom_55 : decode cX2_copyFrom 55 = .ok (.if_icmp .ge 21, 3) := by decide +kernel
theorem dX2_copyFrom_58 : decode cX2_copyFrom 58 = .ok (.aload_n 0, 1) := by decide +kernel
theorem dX2_copyFrom_59 : decode cX2_copyFrom 59 = .ok (.getfield 22, 3) := by decide +kernel
theorem dX2_copyFrom_62 : decode cX2_copyFrom 62 = .ok (.iload_n 2, 1) := by decide +kernel
theorem dX2_copyFrom_63 : decode cX2_copyFrom 63 = .ok (.aload_n 1, 1) := by decide +kernel
theorem dX2_copyFrom_64 : decode cX2_copyFrom 64 = .ok (.getfield 22, 3) := by decide +kernel
theorem dX2_copyFrom_67 : decode cX2_copyFrom 67 = .ok (.iload_n 2, 1) := by decide +kernel
theorem dX2_copyFrom_68 : decode cX2_copyFrom 68 = .ok (.baload, 1) := by decide +kernel
theorem dX2_copyFrom_69 : decode cX2_copyFrom 69 = .ok (.bastore, 1) := by decide +kernel
theorem dX2_copyFrom_70 : decode cX2_copyFrom 70 = .ok (.iinc 2 1, 3) := by decide +kernel
theorem dX2_copyFrom_73 : decode cX2_copyFrom 73 = .ok (.goto (-21), 3) := by decide +kernel
theorem dX2_copyFrom_76 : decode cX2_copyFrom 76 = .ok (.return_, 1) := by decide +kernel
set_option maxRecDepth 20000 in
theorem ggX3_init_X2_init : GoodIn wsX3_init wsX2_init := goodIn_r _ [15, 16, 2, 3, 17, 18, 19, 20, 21, 22, 33, 34, 35, 36] (by decide +kernel) (by decide +kernel)
set_option maxRecDepth 20000 in
theorem gX3_init_X2_init_n11 : GoodIn wsX3_init (wsX2_init) := ggX3_init_X2_init
set_option maxRecDepth 20000 in
theorem ggX3_init_X1_init : GoodIn wsX3_init wsX1_init := goodIn_r _ [24, 25, 2, 3, 20, 26, 27, 28, 29, 30, 31, 32, 44, 45, 46, 47, 48, 49, 50, 51, 52, 53] (by decide +kernel) (by decide +kernel)
set_option maxRecDepth 20000 in
theorem gX3_init_X1_init_n20 : GoodIn wsX3_init (wsX1_init) := ggX3_init_X1_init
theorem dX3_init_0 : decode cX3_init 0 = .ok (.aload_n 0, 1) := by decide +kernel
theorem dX3_init_1 : decode cX3_init 1 = .ok (.invokespecial 3, 3) := by decide +kernel
theorem dX3_init_4 : decode cX3_init 4 = .ok (.aload_n 0, 1) := by decide +kernel
theorem dX3_init_5 : decode cX3_init 5 = .ok (.new 9, 3) := by decide +kernel
theorem dX3_init_8 : decode cX3_init 8 = .ok (.dup, 1) := by decide +kernel
theorem dX3_init_9 : decode cX3_init 9 = .ok (.invokespecial 11, 3) := by decide +kernel
theorem dX3_init_12 : decode cX3_init 12 = .ok (.putfield 12, 3) := by decide +kernel
theorem dX3_init_15 : decode cX3_init 15 = .ok (.aload_n 0, 1) := by decide +kernel
theorem dX3_init_16 : decode cX3_init 16 = .ok (.new 18, 3) := by decide +kernel
theorem dX3_init_19 : decode cX3_init 19 = .ok (.dup, 1) := by decide +kernel
theorem dX3_init_20 : decode cX3_init 20 = .ok (.invokespecial 20, 3) := by decide +kernel
theorem dX3_init_23 : decode cX3_init 23 = .ok (.putfield 21, 3) := by decide +kernel
theorem dX3_init_26 : decode cX3_init 26 = .ok (.aload_n 0, 1) := by decide +kernel
theorem dX3_init_27 : decode cX3_init 27 = .ok (.iconst 2, 1) := by decide +kernel
theorem dX3_init_28 : decode cX3_init 28 = .ok (.putfield 25, 3) := by decide +kernel
theorem dX3_init_31 : decode cX3_init 31 = .ok (.aload_n 0, 1) := by decide +kernel
theorem dX3_init_32 : decode cX3_init 32 = .ok (.iconst 1, 1) := by decide +kernel
theorem dX3_init_33 : decode cX3_init 33 = .ok (.putfield 29, 3) := by decide +kernel
theorem dX3_init_36 : decode cX3_init 36 = .ok (.return_, 1) := by decide +kernel
set_option maxRecDepth 20000 in
theorem ggX3_admit_X1_forgetAll : GoodIn wsX3_admit wsX1_forgetAll := goodIn_ca (goodIn_r _ [10, 11, 12, 13, 14, 15, 16, 17, 76, 77, 78, 79, 80, 81, 82, 83, 84, 85] (by decide +kernel) (by decide +kernel)) (goodIn_sub (fun _ h => List.mem_cons_of_mem _ (List.mem_append_right _ h)) (by decide +kernel))
set_option maxRecDepth 20000 in
theorem gX3_admit_X1_forgetAll : GoodIn wsX3_admit (wsV RX3 43 RX1 yX1_forgetAll wsX1_forgetAll) := goodIn_app (goodIn_of _ (by decide +kernel)) ggX3_admit_X1_forgetAll
set_option maxRecDepth 20000 in
theorem ggX3_admit_X2_connects : GoodIn wsX3_admit wsX2_connects := goodIn_ca (goodIn_r _ [22, 23, 24, 25, 26, 21, 27, 28, 29, 15, 16, 17, 72, 73, 74, 75] (by decide +kernel) (by decide +kernel)) (goodIn_sub (fun _ h => List.mem_cons_of_mem _ (List.mem_append_right _ h)) (by decide +kernel))
set_option maxRecDepth 20000 in
theorem gX3_admit_X2_connects : GoodIn wsX3_admit (wsV RX3 47 RX2 yX2_connects wsX2_connects) := goodIn_app (goodIn_of _ (by decide +kernel)) ggX3_admit_X2_connects
set_option maxRecDepth 20000 in
theorem ggX3_admit_X3_introduce : GoodIn wsX3_admit wsX3_introduce := goodIn_ca (goodIn_r _ [34, 4, 5, 35, 36, 37, 9, 38, 11, 15, 16, 17, 39, 40, 41, 42, 43, 12, 44, 45, 46, 47, 48, 13, 14, 49, 50, 51, 52, 53, 54, 55, 56, 57, 58, 59, 60, 61, 62, 63, 64, 65, 66, 67, 68, 69, 70, 71, 76, 77, 78, 79, 80, 81, 82, 83, 84, 85] (by decide +kernel) (by decide +kernel)) (goodIn_sub (fun _ h => List.mem_cons_of_mem _ (List.mem_append_right _ h)) (by decide +kernel))
set_option maxRecDepth 20000 in
theorem gX3_admit_X3_introduce : GoodIn wsX3_admit (wsV RX3 51 RX3 yX3_introduce wsX3_introduce) := goodIn_app (goodIn_of _ (by decide +kernel)) ggX3_admit_X3_introduce
theorem dX3_admit_0 : decode cX3_admit 0 = .ok (.aload_n 0, 1) := by decide +kernel
theorem dX3_admit_1 : decode cX3_admit 1 = .ok (.getfield 12, 3) := by decide +kernel
theorem dX3_admit_4 : decode cX3_admit 4 = .ok (.getfield 32, 3) := by decide +kernel
theorem dX3_admit_7 : decode cX3_admit 7 = .ok (.iload_n 1, 1) := by decide +kernel
theorem dX3_admit_8 : decode cX3_admit 8 = .ok (.iconst 1, 1) := by decide +kernel
theorem dX3_admit_9 : decode cX3_admit 9 = .ok (.bastore, 1) := by decide +kernel
theorem dX3_admit_10 : decode cX3_admit 10 = .ok (.aload_n 0, 1) := by decide +kernel
theorem dX3_admit_11 : decode cX3_admit 11 = .ok (.getfield 12, 3) := by decide +kernel
theorem dX3_admit_14 : decode cX3_admit 14 = .ok (.getfield 36, 3) := by decide +kernel
theorem dX3_admit_17 : decode cX3_admit 17 = .ok (.iload_n 1, 1) := by decide +kernel
theorem dX3_admit_18 : decode cX3_admit 18 = .ok (.baload, 1) := by decide +kernel
theorem dX3_admit_19 : decode cX3_admit 19 = .ok (.ifCond .eq 16, 3) := by decide +kernel
theorem dX3_admit_22 : decode cX3_admit 22 = .ok (.aload_n 0, 1) := by decide +kernel
theorem dX3_admit_23 : decode cX3_admit 23 = .ok (.getfield 21, 3) := by decide +kernel
theorem dX3_admit_26 : decode cX3_admit 26 = .ok (.getfield 39, 3) := by decide +kernel
theorem dX3_admit_29 : decode cX3_admit 29 = .ok (.iload_n 1, 1) := by decide +kernel
theorem dX3_admit_30 : decode cX3_admit 30 = .ok (.dup2, 1) := by decide +kernel
theorem dX3_admit_31 : decode cX3_admit 31 = .ok (.iaload, 1) := by decide +kernel
theorem dX3_admit_32 : decode cX3_admit 32 = .ok (.iconst 1, 1) := by decide +kernel
theorem dX3_admit_33 : decode cX3_admit 33 = .ok (.iadd, 1) := by decide +kernel
theorem dX3_admit_34 : decode cX3_admit 34 = .ok (.iastore, 1) := by decide +kernel
theorem dX3_admit_35 : decode cX3_admit 35 = .ok (.aload_n 0, 1) := by decide +kernel
theorem dX3_admit_36 : decode cX3_admit 36 = .ok (.getfield 12, 3) := by decide +kernel
theorem dX3_admit_39 : decode cX3_admit 39 = .ok (.getfield 36, 3) := by decide +kernel
theorem dX3_admit_42 : decode cX3_admit 42 = .ok (.iload_n 1, 1) := by decide +kernel
theorem dX3_admit_43 : decode cX3_admit 43 = .ok (.iconst 1, 1) := by decide +kernel
theorem dX3_admit_44 : decode cX3_admit 44 = .ok (.bastore, 1) := by decide +kernel
theorem dX3_admit_45 : decode cX3_admit 45 = .ok (.aload_n 0, 1) := by decide +kernel
theorem dX3_admit_46 : decode cX3_admit 46 = .ok (.getfield 21, 3) := by decide +kernel
theorem dX3_admit_49 : decode cX3_admit 49 = .ok (.iload_n 1, 1) := by decide +kernel
theorem dX3_admit_50 : decode cX3_admit 50 = .ok (.invokevirtual 43, 3) := by decide +kernel
theorem dX3_admit_53 : decode cX3_admit 53 = .ok (.aload_n 0, 1) := by decide +kernel
theorem dX3_admit_54 : decode cX3_admit 54 = .ok (.getfield 12, 3) := by decide +kernel
theorem dX3_admit_57 : decode cX3_admit 57 = .ok (.iload_n 1, 1) := by decide +kernel
theorem dX3_admit_58 : decode cX3_admit 58 = .ok (.iload_n 2, 1) := by decide +kernel
theorem dX3_admit_59 : decode cX3_admit 59 = .ok (.invokevirtual 47, 3) := by decide +kernel
theorem dX3_admit_62 : decode cX3_admit 62 = .ok (.ifCond .eq 9, 3) := by decide +kernel
theorem dX3_admit_65 : decode cX3_admit 65 = .ok (.aload_n 0, 1) := by decide +kernel
theorem dX3_admit_66 : decode cX3_admit 66 = .ok (.iload_n 1, 1) := by decide +kernel
theorem dX3_admit_67 : decode cX3_admit 67 = .ok (.iload_n 2, 1) := by decide +kernel
theorem dX3_admit_68 : decode cX3_admit 68 = .ok (.invokevirtual 51, 3) := by decide +kernel
theorem dX3_admit_71 : decode cX3_admit 71 = .ok (.return_, 1) := by decide +kernel
set_option maxRecDepth 20000 in
theorem ggX3_introduce_X1_toldState : GoodIn wsX3_introduce wsX1_toldState := goodIn_ca (goodIn_r _ [7, 8, 9, 10, 11, 48, 49, 50, 51, 52, 53, 54, 55, 56, 57] (by decide +kernel) (by decide +kernel)) (goodIn_sub (fun _ h => List.mem_cons_of_mem _ (List.mem_append_right _ h)) (by decide +kernel))
set_option maxRecDepth 20000 in
theorem gX3_introduce_X1_toldState : GoodIn wsX3_introduce (wsV RX3 55 RX1 yX1_toldState wsX1_toldState) := goodIn_app (goodIn_of _ (by decide +kernel)) ggX3_introduce_X1_toldState
set_option maxRecDepth 20000 in
theorem ggX3_introduce_X1_toldIncarnation : GoodIn wsX3_introduce wsX1_toldIncarnation := goodIn_ca (goodIn_r _ [15, 16, 17, 9, 10, 11, 48, 49, 50, 51, 52, 53, 54, 55, 56, 57] (by decide +kernel) (by decide +kernel)) (goodIn_sub (fun _ h => List.mem_cons_of_mem _ (List.mem_append_right _ h)) (by decide +kernel))
set_option maxRecDepth 20000 in
theorem gX3_introduce_X1_toldIncarnation : GoodIn wsX3_introduce (wsV RX3 59 RX1 yX1_toldIncarnation wsX1_toldIncarnation) := goodIn_app (goodIn_of _ (by decide +kernel)) ggX3_introduce_X1_toldIncarnation
set_option maxRecDepth 20000 in
theorem ggX3_introduce_X1_takeIn : GoodIn wsX3_introduce wsX1_takeIn := goodIn_ca (goodIn_r _ [21, 16, 22, 23, 24, 9, 10, 11, 25, 26, 27, 6, 28, 8, 17, 29, 30, 31, 32, 33, 34, 35, 36, 37, 38, 39, 40, 48, 49, 50, 51, 52, 53, 54, 55, 56, 57] (by decide +kernel) (by decide +kernel)) (goodIn_sub (fun _ h => List.mem_cons_of_mem _ (List.mem_append_right _ h)) (by decide +kernel))
set_option maxRecDepth 20000 in
theorem gX3_introduce_X1_takeIn : GoodIn wsX3_introduce (wsV RX3 62 RX1 yX1_takeIn wsX1_takeIn) := goodIn_app (goodIn_of _ (by decide +kernel)) ggX3_introduce_X1_takeIn
theorem dX3_introduce_0 : decode cX3_introduce 0 = .ok (.iconst 0, 1) := by decide +kernel
theorem dX3_introduce_1 : decode cX3_introduce 1 = .ok (.istore_n 3, 1) := by decide +kernel
theorem dX3_introduce_2 : decode cX3_introduce 2 = .ok (.iload_n 3, 1) := by decide +kernel
theorem dX3_introduce_3 : decode cX3_introduce 3 = .ok (.bipush 8, 2) := by decide +kernel
theorem dX3_introduce_5 : decode cX3_introduce 5 = .ok (.if_icmp .ge 46, 3) := by decide +kernel
theorem dX3_introduce_8 : decode cX3_introduce 8 = .ok (.aload_n 0, 1) := by decide +kernel
theorem dX3_introduce_9 : decode cX3_introduce 9 = .ok (.getfield 21, 3) := by decide +kernel
theorem dX3_introduce_12 : decode cX3_introduce 12 = .ok (.iload_n 2, 1) := by decide +kernel
theorem dX3_introduce_13 : decode cX3_introduce 13 = .ok (.iload_n 3, 1) := by decide +kernel
theorem dX3_introduce_14 : decode cX3_introduce 14 = .ok (.invokevirtual 55, 3) := by decide +kernel
theorem dX3_introduce_17 : decode cX3_introduce 17 = .ok (.istore 4, 2) := by decide +kernel
theorem dX3_introduce_19 : decode cX3_introduce 19 = .ok (.iload 4, 2) := by decide +kernel
theorem dX3_introduce_21 : decode cX3_introduce 21 = .ok (.ifCond .eq 24, 3) := by decide +kernel
theorem dX3_introduce_24 : decode cX3_introduce 24 = .ok (.aload_n 0, 1) := by decide +kernel
theorem dX3_introduce_25 : decode cX3_introduce 25 = .ok (.getfield 21, 3) := by decide +kernel
theorem dX3_introduce_28 : decode cX3_introduce 28 = .ok (.iload_n 1, 1) := by decide +kernel
theorem dX3_introduce_29 : decode cX3_introduce 29 = .ok (.iload_n 3, 1) := by decide +kernel
theorem dX3_introduce_30 : decode cX3_introduce 30 = .ok (.iload 4, 2) := by decide +kernel
theorem dX3_introduce_32 : decode cX3_introduce 32 = .ok (.aload_n 0, 1) := by decide +kernel
theorem dX3_introduce_33 : decode cX3_introduce 33 = .ok (.getfield 21, 3) := by decide +kernel
theorem dX3_introduce_36 : decode cX3_introduce 36 = .ok (.iload_n 2, 1) := by decide +kernel
theorem dX3_introduce_37 : decode cX3_introduce 37 = .ok (.iload_n 3, 1) := by decide +kernel
theorem dX3_introduce_38 : decode cX3_introduce 38 = .ok (.invokevirtual 59, 3) := by decide +kernel
theorem dX3_introduce_41 : decode cX3_introduce 41 = .ok (.invokevirtual 62, 3) := by decide +kernel
theorem dX3_introduce_44 : decode cX3_introduce 44 = .ok (.pop, 1) := by decide +kernel
theorem dX3_introduce_45 : decode cX3_introduce 45 = .ok (.iinc 3 1, 3) := by decide +kernel
theorem dX3_introduce_48 : decode cX3_introduce 48 = .ok (.goto (-46), 3) := by decide +kernel
theorem dX3_introduce_51 : decode cX3_introduce 51 = .ok (.aload_n 0, 1) := by decide +kernel
theorem dX3_introduce_52 : decode cX3_introduce 52 = .ok (.getfield 21, 3) := by decide +kernel
theorem dX3_introduce_55 : decode cX3_introduce 55 = .ok (.iload_n 2, 1) := by decide +kernel
theorem dX3_introduce_56 : decode cX3_introduce 56 = .ok (.iload_n 1, 1) := by decide +kernel
theorem dX3_introduce_57 : decode cX3_introduce 57 = .ok (.iconst 1, 1) := by decide +kernel
theorem dX3_introduce_58 : decode cX3_introduce 58 = .ok (.aload_n 0, 1) := by decide +kernel
theorem dX3_introduce_59 : decode cX3_introduce 59 = .ok (.getfield 21, 3) := by decide +kernel
theorem dX3_introduce_62 : decode cX3_introduce 62 = .ok (.getfield 39, 3) := by decide +kernel
theorem dX3_introduce_65 : decode cX3_introduce 65 = .ok (.iload_n 1, 1) := by decide +kernel
theorem dX3_introduce_66 : decode cX3_introduce 66 = .ok (.iaload, 1) := by decide +kernel
theorem dX3_introduce_67 : decode cX3_introduce 67 = .ok (.invokevirtual 62, 3) := by decide +kernel
theorem dX3_introduce_70 : decode cX3_introduce 70 = .ok (.pop, 1) := by decide +kernel
theorem dX3_introduce_71 : decode cX3_introduce 71 = .ok (.return_, 1) := by decide +kernel
set_option maxRecDepth 20000 in
theorem ggX3_play_X3_takeTurn : GoodIn wsX3_play wsX3_takeTurn := goodIn_ca (goodIn_ca (goodIn_r _ [9, 1, 3, 10, 11, 12, 8, 13, 14, 2, 15, 16, 17, 18, 19, 20, 21, 22, 23, 24, 25, 26, 27, 28, 29, 30, 31, 32, 33, 34, 35, 36, 37, 38, 39, 40, 41, 42, 43, 44, 45, 46, 47, 48, 49, 50, 51, 52, 53, 54, 55, 56, 57, 58, 59, 60, 61, 62, 63, 64, 65, 66, 67, 68, 69, 70, 71, 72, 73, 74, 75, 76, 77, 78, 79, 80, 81, 82, 83, 84, 85, 86, 87, 88, 89, 90, 91, 92, 93, 94, 95, 96, 97, 98, 99, 100, 101, 102, 103, 104, 105, 106, 107, 108, 109, 110, 111, 112, 113, 114, 115, 116, 117, 118, 119, 120, 121] (by decide +kernel) (by decide +kernel)) (goodIn_sub (fun _ h => List.mem_cons_of_mem _ (List.mem_append_left _ (List.mem_append_right _ h))) (by decide +kernel))) (goodIn_sub (fun _ h => List.mem_cons_of_mem _ (List.mem_append_right _ h)) (by decide +kernel))
set_option maxRecDepth 20000 in
theorem gX3_play_X3_takeTurn : GoodIn wsX3_play (wsV RX3 69 RX3 yX3_takeTurn wsX3_takeTurn) := goodIn_app (goodIn_of _ (by decide +kernel)) ggX3_play_X3_takeTurn
theorem dX3_play_0 : decode cX3_play 0 = .ok (.iconst 0, 1) := by decide +kernel
theorem dX3_play_1 : decode cX3_play 1 = .ok (.istore_n 2, 1) := by decide +kernel
theorem dX3_play_2 : decode cX3_play 2 = .ok (.iload_n 2, 1) := by decide +kernel
theorem dX3_play_3 : decode cX3_play 3 = .ok (.iload_n 1, 1) := by decide +kernel
theorem dX3_play_4 : decode cX3_play 4 = .ok (.if_icmp .ge 53, 3) := by decide +kernel
theorem dX3_play_7 : decode cX3_play 7 = .ok (.aload_n 0, 1) := by decide +kernel
theorem dX3_play_8 : decode cX3_play 8 = .ok (.getfield 21, 3) := by decide +kernel
theorem dX3_play_11 : decode cX3_play 11 = .ok (.dup, 1) := by decide +kernel
theorem dX3_play_12 : decode cX3_play 12 = .ok (.getfield 66, 3) := by decide +kernel
theorem dX3_play_15 : decode cX3_play 15 = .ok (.iconst 1, 1) := by decide +kernel
theorem dX3_play_16 : decode cX3_play 16 = .ok (.iadd, 1) := by decide +kernel
theorem dX3_play_17 : decode cX3_play 17 = .ok (.putfield 66, 3) := by decide +kernel
theorem dX3_play_20 : decode cX3_play 20 = .ok (.iconst 0, 1) := by decide +kernel
theorem dX3_play_21 : decode cX3_play 21 = .ok (.istore_n 3, 1) := by decide +kernel
theorem dX3_play_22 : decode cX3_play 22 = .ok (.iload_n 3, 1) := by decide +kernel
theorem dX3_play_23 : decode cX3_play 23 = .ok (.bipush 8, 2) := by decide +kernel
theorem dX3_play_25 : decode cX3_play 25 = .ok (.if_icmp .ge 26, 3) := by decide +kernel
theorem dX3_play_28 : decode cX3_play 28 = .ok (.aload_n 0, 1) := by decide +kernel
theorem dX3_play_29 : decode cX3_play 29 = .ok (.getfield 12, 3) := by decide +kernel
theorem dX3_play_32 : decode cX3_play 32 = .ok (.getfield 32, 3) := by decide +kernel
theorem dX3_play_35 : decode cX3_play 35 = .ok (.iload_n 3, 1) := by decide +kernel
theorem dX3_play_36 : decode cX3_play 36 = .ok (.baload, 1) := by decide +kernel
theorem dX3_play_37 : decode cX3_play 37 = .ok (.ifCond .eq 8, 3) := by decide +kernel
theorem dX3_play_40 : decode cX3_play 40 = .ok (.aload_n 0, 1) := by decide +kernel
theorem dX3_play_41 : decode cX3_play 41 = .ok (.iload_n 3, 1) := by decide +kernel
theorem dX3_play_42 : decode cX3_play 42 = .ok (.invokevirtual 69, 3) := by decide +kernel
theorem dX3_play_45 : decode cX3_play 45 = .ok (.iinc 3 1, 3) := by decide +kernel
theorem dX3_play_48 : decode cX3_play 48 = .ok (.goto (-26), 3) := by decide +kernel
theorem dX3_play_51 : decode cX3_play 51 = .ok (.iinc 2 1, 3) := by decide +kernel
theorem dX3_play_54 : decode cX3_play 54 = .ok (.goto (-52), 3) := by decide +kernel
theorem dX3_play_57 : decode cX3_play 57 = .ok (.return_, 1) := by decide +kernel
set_option maxRecDepth 20000 in
theorem ggX3_takeTurn_X3_declareOverdue : GoodIn wsX3_takeTurn wsX3_declareOverdue := goodIn_ca (goodIn_r _ [7, 1, 8, 9, 10, 2, 11, 12, 13, 14, 15, 16, 17, 18, 19, 20, 21, 22, 23, 24, 25, 26, 27, 28, 29, 30, 31, 32, 33, 34, 35, 36, 37, 38, 39, 40, 41, 42, 43, 44, 45, 46, 47, 48, 49, 50, 51, 52, 53, 54, 55, 56, 57, 58, 59, 60, 61, 96, 97, 98, 99, 100, 101, 102, 103, 104, 105, 106, 107, 108, 109, 110, 111, 112, 113, 114, 115, 116] (by decide +kernel) (by decide +kernel)) (goodIn_sub (fun _ h => List.mem_cons_of_mem _ (List.mem_append_left _ (List.mem_append_right _ h))) (by decide +kernel))
set_option maxRecDepth 20000 in
theorem gX3_takeTurn_X3_declareOverdue : GoodIn wsX3_takeTurn (wsV RX3 72 RX3 yX3_declareOverdue wsX3_declareOverdue) := goodIn_app (goodIn_of _ (by decide +kernel)) ggX3_takeTurn_X3_declareOverdue
set_option maxRecDepth 20000 in
theorem ggX3_takeTurn_X1_nodesInState : GoodIn wsX3_takeTurn wsX1_nodesInState := goodIn_ca (goodIn_r _ [16, 17, 18, 19, 20, 103, 104, 105, 106, 107, 108, 109, 110, 111, 112] (by decide +kernel) (by decide +kernel)) (goodIn_sub (fun _ h => List.mem_cons_of_mem _ (List.mem_append_left _ (List.mem_append_right _ h))) (by decide +kernel))
set_option maxRecDepth 20000 in
theorem gX3_takeTurn_X1_nodesInState : GoodIn wsX3_takeTurn (wsV RX3 75 RX1 yX1_nodesInState wsX1_nodesInState) := goodIn_app (goodIn_of _ (by decide +kernel)) ggX3_takeTurn_X1_nodesInState
set_option maxRecDepth 20000 in
theorem ggX3_takeTurn_X3_drawFrom : GoodIn wsX3_takeTurn wsX3_drawFrom := goodIn_ca (goodIn_r _ [65, 66, 67, 68, 69, 70, 71, 72, 73, 74, 75, 76, 96, 97, 98, 99, 100, 101, 102] (by decide +kernel) (by decide +kernel)) (goodIn_sub (fun _ h => List.mem_cons_of_mem _ (List.mem_append_right _ h)) (by decide +kernel))
set_option maxRecDepth 20000 in
theorem gX3_takeTurn_X3_drawFrom : GoodIn wsX3_takeTurn (wsV RX3 78 RX3 yX3_drawFrom wsX3_drawFrom) := goodIn_app (goodIn_of _ (by decide +kernel)) ggX3_takeTurn_X3_drawFrom
set_option maxRecDepth 20000 in
theorem ggX3_takeTurn_X2_connects : GoodIn wsX3_takeTurn wsX2_connects := goodIn_ca (goodIn_r _ [54, 55, 56, 57, 58, 53, 59, 60, 61, 18, 19, 20, 113, 114, 115, 116] (by decide +kernel) (by decide +kernel)) (goodIn_sub (fun _ h => List.mem_cons_of_mem _ (List.mem_append_left _ (List.mem_append_right _ h))) (by decide +kernel))
set_option maxRecDepth 20000 in
theorem gX3_takeTurn_X2_connects : GoodIn wsX3_takeTurn (wsV RX3 47 RX2 yX2_connects wsX2_connects) := goodIn_app (goodIn_of _ (by decide +kernel)) ggX3_takeTurn_X2_connects
set_option maxRecDepth 20000 in
theorem ggX3_takeTurn_X3_send : GoodIn wsX3_takeTurn wsX3_send := goodIn_ca (goodIn_r _ [80, 1, 81, 82, 83, 84, 85, 15, 86, 17, 18, 19, 20, 21, 22, 23, 24, 25, 26, 27, 28, 29, 30, 31, 32, 33, 34, 35, 36, 37, 38, 39, 40, 41, 42, 43, 44, 45, 46, 47, 48, 49, 87, 88, 89, 90, 96, 97, 98, 99, 100, 101, 102, 103, 104, 105, 106, 107, 108, 109, 110, 111, 112] (by decide +kernel) (by decide +kernel)) (goodIn_sub (fun _ h => List.mem_cons_of_mem _ (List.mem_append_left _ (List.mem_append_right _ h))) (by decide +kernel))
set_option maxRecDepth 20000 in
theorem gX3_takeTurn_X3_send : GoodIn wsX3_takeTurn (wsV RX3 82 RX3 yX3_send wsX3_send) := goodIn_app (goodIn_of _ (by decide +kernel)) ggX3_takeTurn_X3_send
set_option maxRecDepth 20000 in
theorem ggX3_takeTurn_X3_helpersReach : GoodIn wsX3_takeTurn wsX3_helpersReach := goodIn_ca (goodIn_ca (goodIn_r _ [94, 1, 95, 2, 12, 13, 14, 15, 16, 17, 18, 19, 20, 62, 63, 64, 6, 65, 66, 67, 68, 69, 70, 71, 72, 73, 74, 75, 76, 50, 51, 52, 53, 54, 55, 56, 57, 58, 59, 60, 61, 96, 97, 98, 99, 100, 101, 102, 103, 104, 105, 106, 107, 108, 109, 110, 111, 112, 113, 114, 115, 116] (by decide +kernel) (by decide +kernel)) (goodIn_sub (fun _ h => List.mem_cons_of_mem _ (List.mem_append_left _ (List.mem_append_right _ h))) (by decide +kernel))) (goodIn_sub (fun _ h => List.mem_cons_of_mem _ (List.mem_append_right _ h)) (by decide +kernel))
set_option maxRecDepth 20000 in
theorem gX3_takeTurn_X3_helpersReach : GoodIn wsX3_takeTurn (wsV RX3 85 RX3 yX3_helpersReach wsX3_helpersReach) := goodIn_app (goodIn_of _ (by decide +kernel)) ggX3_takeTurn_X3_helpersReach
set_option maxRecDepth 20000 in
theorem ggX3_takeTurn_X1_toldIncarnation : GoodIn wsX3_takeTurn wsX1_toldIncarnation := goodIn_ca (goodIn_r _ [24, 25, 26, 18, 19, 20, 103, 104, 105, 106, 107, 108, 109, 110, 111, 112] (by decide +kernel) (by decide +kernel)) (goodIn_sub (fun _ h => List.mem_cons_of_mem _ (List.mem_append_left _ (List.mem_append_right _ h))) (by decide +kernel))
set_option maxRecDepth 20000 in
theorem gX3_takeTurn_X1_toldIncarnation : GoodIn wsX3_takeTurn (wsV RX3 59 RX1 yX1_toldIncarnation wsX1_toldIncarnation) := goodIn_app (goodIn_of _ (by decide +kernel)) ggX3_takeTurn_X1_toldIncarnation
set_option maxRecDepth 20000 in
theorem ggX3_takeTurn_X1_takeIn : GoodIn wsX3_takeTurn wsX1_takeIn := goodIn_ca (goodIn_r _ [30, 25, 31, 32, 33, 18, 19, 20, 34, 35, 36, 15, 37, 17, 26, 38, 39, 40, 41, 42, 43, 44, 45, 46, 47, 48, 49, 103, 104, 105, 106, 107, 108, 109, 110, 111, 112] (by decide +kernel) (by decide +kernel)) (goodIn_sub (fun _ h => List.mem_cons_of_mem _ (List.mem_append_left _ (List.mem_append_right _ h))) (by decide +kernel))
set_option maxRecDepth 20000 in
theorem gX3_takeTurn_X1_takeIn : GoodIn wsX3_takeTurn (wsV RX3 62 RX1 yX1_takeIn wsX1_takeIn) := goodIn_app (goodIn_of _ (by decide +kernel)) ggX3_takeTurn_X1_takeIn
theorem dX3_takeTurn_0 : decode cX3_takeTurn 0 = .ok (.aload_n 0, 1) := by decide +kernel
theorem dX3_takeTurn_1 : decode cX3_takeTurn 1 = .ok (.iload_n 1, 1) := by decide +kernel
theorem dX3_takeTurn_2 : decode cX3_takeTurn 2 = .ok (.invokevirtual 72, 3) := by decide +kernel
theorem dX3_takeTurn_5 : decode cX3_takeTurn 5 = .ok (.aload_n 0, 1) := by decide +kernel
theorem dX3_takeTurn_6 : decode cX3_takeTurn 6 = .ok (.aload_n 0, 1) := by decide +kernel
theorem dX3_takeTurn_7 : decode cX3_takeTurn 7 = .ok (.getfield 21, 3) := by decide +kernel
theorem dX3_takeTurn_10 : decode cX3_takeTurn 10 = .ok (.iload_n 1, 1) := by decide +kernel
theorem dX3_takeTurn_11 : decode cX3_takeTurn 11 = .ok (.iconst 1, 1) := by decide +kernel
theorem dX3_takeTurn_12 : decode cX3_takeTurn 12 = .ok (.invokevirtual 75, 3) := by decide +kernel
theorem dX3_takeTurn_15 : decode cX3_takeTurn 15 = .ok (.aload_n 0, 1) := by decide +kernel
theorem dX3_takeTurn_16 : decode cX3_takeTurn 16 = .ok (.getfield 21, 3) := by decide +kernel
theorem dX3_takeTurn_19 : decode cX3_takeTurn 19 = .ok (.iload_n 1, 1) := by decide +kernel
theorem dX3_takeTurn_20 : decode cX3_takeTurn 20 = .ok (.iconst 2, 1) := by decide +kernel
theorem dX3_takeTurn_21 : decode cX3_takeTurn 21 = .ok (.invokevirtual 75, 3) := by decide +kernel
theorem dX3_takeTurn_24 : decode cX3_takeTurn 24 = .ok (.ior, 1) := by decide +kernel
theorem dX3_takeTurn_25 : decode cX3_takeTurn 25 = .ok (.invokevirtual 78, 3) := by decide +kernel
theorem dX3_takeTurn_28 : decode cX3_takeTurn 28 = .ok (.istore_n 2, 1) := by decide +kernel
theorem dX3_takeTurn_29 : decode cX3_takeTurn 29 = .ok (.iload_n 2, 1) := by decide +kernel
theorem dX3_takeTurn_30 : decode cX3_takeTurn 30 = .ok (.iconst (-1), 1) := by decide +kernel
theorem dX3_takeTurn_31 : decode cX3_takeTurn 31 = .ok (.if_icmp .ne 4, 3) := by decide +kernel
theorem dX3_takeTurn_34 : decode cX3_takeTurn 34 = .ok (.return_, 1) := by decide +kernel
theorem dX3_takeTurn_35 : decode cX3_takeTurn 35 = .ok (.aload_n 0, 1) := by decide +kernel
theorem dX3_takeTurn_36 : decode cX3_takeTurn 36 = .ok (.getfield 12, 3) := by decide +kernel
theorem dX3_takeTurn_39 : decode cX3_takeTurn 39 = .ok (.iload_n 1, 1) := by decide +kernel
theorem dX3_takeTurn_40 : decode cX3_takeTurn 40 = .ok (.iload_n 2, 1) := by decide +kernel
theorem dX3_takeTurn_41 : decode cX3_takeTurn 41 = .ok (.invokevirtual 47, 3) := by decide +kernel
theorem dX3_takeTurn_44 : decode cX3_takeTurn 44 = .ok (.ifCond .eq 18, 3) := by decide +kernel
theorem dX3_takeTurn_47 : decode cX3_takeTurn 47 = .ok (.aload_n 0, 1) := by decide +kernel
theorem dX3_takeTurn_48 : decode cX3_takeTurn 48 = .ok (.iload_n 1, 1) := by decide +kernel
theorem dX3_takeTurn_49 : decode cX3_takeTurn 49 = .ok (.iload_n 2, 1) := by decide +kernel
theorem dX3_takeTurn_50 : decode cX3_takeTurn 50 = .ok (.invokevirtual 82, 3) := by decide +kernel
theorem dX3_takeTurn_53 : decode cX3_takeTurn 53 = .ok (.aload_n 0, 1) := by decide +kernel
theorem dX3_takeTurn_54 : decode cX3_takeTurn 54 = .ok (.iload_n 2, 1) := by decide +kernel
theorem dX3_takeTurn_55 : decode cX3_takeTurn 55 = .ok (.iload_n 1, 1) := by decide +kernel
theorem dX3_takeTurn_56 : decode cX3_takeTurn 56 = .ok (.invokevirtual 82, 3) := by decide +kernel
theorem dX3_takeTurn_59 : decode cX3_takeTurn 59 = .ok (.goto 32, 3) := by decide +kernel
theorem dX3_takeTurn_62 : decode cX3_takeTurn 62 = .ok (.aload_n 0, 1) := by decide +kernel
theorem dX3_takeTurn_63 : decode cX3_takeTurn 63 = .ok (.iload_n 1, 1) := by decide +kernel
theorem dX3_takeTurn_64 : decode cX3_takeTurn 64 = .ok (.iload_n 2, 1) := by decide +kernel
theorem dX3_takeTurn_65 : decode cX3_takeTurn 65 = .ok (.invokevirtual 85, 3) := by decide +kernel
theorem dX3_takeTurn_68 : decode cX3_takeTurn 68 = .ok (.ifCond .ne 23, 3) := by decide +kernel
theorem dX3_takeTurn_71 : decode cX3_takeTurn 71 = .ok (.aload_n 0, 1) := by decide +kernel
theorem dX3_takeTurn_72 : decode cX3_takeTurn 72 = .ok (.getfield 21, 3) := by decide +kernel
theorem dX3_takeTurn_75 : decode cX3_takeTurn 75 = .ok (.iload_n 1, 1) := by decide +kernel
theorem dX3_takeTurn_76 : decode cX3_takeTurn 76 = .ok (.iload_n 2, 1) := by decide +kernel
theorem dX3_takeTurn_77 : decode cX3_takeTurn 77 = .ok (.iconst 2, 1) := by decide +kernel
theorem dX3_takeTurn_78 : decode cX3_takeTurn 78 = .ok (.aload_n 0, 1) := by decide +kernel
theorem dX3_takeTurn_79 : decode cX3_takeTurn 79 = .ok (.getfield 21, 3) := by decide +kernel
theorem dX3_takeTurn_82 : decode cX3_takeTurn 82 = .ok (.iload_n 1, 1) := by decide +kernel
theorem dX3_takeTurn_83 : decode cX3_takeTurn 83 = .ok (.iload_n 2, 1) := by decide +kernel
theorem dX3_takeTurn_84 : decode cX3_takeTurn 84 = .ok (.invokevirtual 59, 3) := by decide +kernel
theorem dX3_takeTurn_87 : decode cX3_takeTurn 87 = .ok (.invokevirtual 62, 3) := by decide +kernel
theorem dX3_takeTurn_90 : decode cX3_takeTurn 90 = .ok (.pop, 1) := by decide +kernel
theorem dX3_takeTurn_91 : decode cX3_takeTurn 91 = .ok (.return_, 1) := by decide +kernel
set_option maxRecDepth 20000 in
theorem ggX3_declareOverdue_X1_nodesInState : GoodIn wsX3_declareOverdue wsX1_nodesInState := goodIn_ca (goodIn_r _ [11, 12, 13, 14, 15, 64, 65, 66, 67, 68, 69, 70, 71, 72, 73] (by decide +kernel) (by decide +kernel)) (goodIn_sub (fun _ h => List.mem_cons_of_mem _ (List.mem_append_right _ h)) (by decide +kernel))
set_option maxRecDepth 20000 in
theorem gX3_declareOverdue_X1_nodesInState : GoodIn wsX3_declareOverdue (wsV RX3 75 RX1 yX1_nodesInState wsX1_nodesInState) := goodIn_app (goodIn_of _ (by decide +kernel)) ggX3_declareOverdue_X1_nodesInState
set_option maxRecDepth 20000 in
theorem ggX3_declareOverdue_X4_pair : GoodIn wsX3_declareOverdue wsX4_pair := goodIn_r _ [15] (by decide +kernel) (by decide +kernel)
set_option maxRecDepth 20000 in
theorem gX3_declareOverdue_X4_pair_n91 : GoodIn wsX3_declareOverdue (wsX4_pair) := ggX3_declareOverdue_X4_pair
set_option maxRecDepth 20000 in
theorem ggX3_declareOverdue_X1_toldIncarnation : GoodIn wsX3_declareOverdue wsX1_toldIncarnation := goodIn_ca (goodIn_r _ [19, 20, 21, 13, 14, 15, 64, 65, 66, 67, 68, 69, 70, 71, 72, 73] (by decide +kernel) (by decide +kernel)) (goodIn_sub (fun _ h => List.mem_cons_of_mem _ (List.mem_append_right _ h)) (by decide +kernel))
set_option maxRecDepth 20000 in
theorem gX3_declareOverdue_X1_toldIncarnation : GoodIn wsX3_declareOverdue (wsV RX3 59 RX1 yX1_toldIncarnation wsX1_toldIncarnation) := goodIn_app (goodIn_of _ (by decide +kernel)) ggX3_declareOverdue_X1_toldIncarnation
set_option maxRecDepth 20000 in
theorem ggX3_declareOverdue_X1_takeIn : GoodIn wsX3_declareOverdue wsX1_takeIn := goodIn_ca (goodIn_r _ [25, 20, 26, 27, 28, 13, 14, 15, 29, 30, 31, 10, 32, 12, 21, 33, 34, 35, 36, 37, 38, 39, 40, 41, 42, 43, 44, 64, 65, 66, 67, 68, 69, 70, 71, 72, 73] (by decide +kernel) (by decide +kernel)) (goodIn_sub (fun _ h => List.mem_cons_of_mem _ (List.mem_append_right _ h)) (by decide +kernel))
set_option maxRecDepth 20000 in
theorem gX3_declareOverdue_X1_takeIn : GoodIn wsX3_declareOverdue (wsV RX3 62 RX1 yX1_takeIn wsX1_takeIn) := goodIn_app (goodIn_of _ (by decide +kernel)) ggX3_declareOverdue_X1_takeIn
set_option maxRecDepth 20000 in
theorem ggX3_declareOverdue_X2_connects : GoodIn wsX3_declareOverdue wsX2_connects := goodIn_ca (goodIn_r _ [49, 50, 51, 52, 53, 48, 54, 55, 56, 13, 14, 15, 74, 75, 76, 77] (by decide +kernel) (by decide +kernel)) (goodIn_sub (fun _ h => List.mem_cons_of_mem _ (List.mem_append_right _ h)) (by decide +kernel))
set_option maxRecDepth 20000 in
theorem gX3_declareOverdue_X2_connects : GoodIn wsX3_declareOverdue (wsV RX3 47 RX2 yX2_connects wsX2_connects) := goodIn_app (goodIn_of _ (by decide +kernel)) ggX3_declareOverdue_X2_connects
theorem dX3_declareOverdue_0 : decode cX3_declareOverdue 0 = .ok (.aload_n 0, 1) := by decide +kernel
theorem dX3_declareOverdue_1 : decode cX3_declareOverdue 1 = .ok (.getfield 21, 3) := by decide +kernel
theorem dX3_declareOverdue_4 : decode cX3_declareOverdue 4 = .ok (.iload_n 1, 1) := by decide +kernel
theorem dX3_declareOverdue_5 : decode cX3_declareOverdue 5 = .ok (.iconst 2, 1) := by decide +kernel
theorem dX3_declareOverdue_6 : decode cX3_declareOverdue 6 = .ok (.invokevirtual 75, 3) := by decide +kernel
theorem dX3_declareOverdue_9 : decode cX3_declareOverdue 9 = .ok (.istore_n 2, 1) := by decide +kernel
theorem dX3_declareOverdue_10 : decode cX3_declareOverdue 10 = .ok (.iconst 0, 1) := by decide +kernel
theorem dX3_declareOverdue_11 : decode cX3_declareOverdue 11 = .ok (.istore_n 3, 1) := by decide +kernel
theorem dX3_declareOverdue_12 : decode cX3_declareOverdue 12 = .ok (.iload_n 3, 1) := by decide +kernel
theorem dX3_declareOverdue_13 : decode cX3_declareOverdue 13 = .ok (.bipush 8, 2) := by decide +kernel
theorem dX3_declareOverdue_15 : decode cX3_declareOverdue 15 = .ok (.if_icmp .ge 93, 3) := by decide +kernel
theorem dX3_declareOverdue_18 : decode cX3_declareOverdue 18 = .ok (.iload_n 2, 1) := by decide +kernel
theorem dX3_declareOverdue_19 : decode cX3_declareOverdue 19 = .ok (.iload_n 3, 1) := by decide +kernel
theorem dX3_declareOverdue_20 : decode cX3_declareOverdue 20 = .ok (.ishr, 1) := by decide +kernel
theorem dX3_declareOverdue_21 : decode cX3_declareOverdue 21 = .ok (.iconst 1, 1) := by decide +kernel
theorem dX3_declareOverdue_22 : decode cX3_declareOverdue 22 = .ok (.iand, 1) := by decide +kernel
theorem dX3_declareOverdue_23 : decode cX3_declareOverdue 23 = .ok (.iconst 1, 1) := by decide +kernel
theorem dX3_declareOverdue_24 : decode cX3_declareOverdue 24 = .ok (.if_icmp .ne 78, 3) := by decide +kernel
theorem dX3_declareOverdue_27 : decode cX3_declareOverdue 27 = .ok (.aload_n 0, 1) := by decide +kernel
theorem dX3_declareOverdue_28 : decode cX3_declareOverdue 28 = .ok (.getfield 21, 3) := by decide +kernel
theorem dX3_declareOverdue_31 : decode cX3_declareOverdue 31 = .ok (.getfield 88, 3) := by decide +kernel
theorem dX3_declareOverdue_34 : decode cX3_declareOverdue 34 = .ok (.iload_n 1, 1) := by decide +kernel
theorem dX3_declareOverdue_35 : decode cX3_declareOverdue 35 = .ok (.iload_n 3, 1) := by decide +kernel
theorem dX3_declareOverdue_36 : decode cX3_declareOverdue 36 = .ok (.invokestatic 91, 3) := by decide +kernel
theorem dX3_declareOverdue_39 : decode cX3_declareOverdue 39 = .ok (.iaload, 1) := by decide +kernel
theorem dX3_declareOverdue_40 : decode cX3_declareOverdue 40 = .ok (.aload_n 0, 1) := by decide +kernel
theorem dX3_declareOverdue_41 : decode cX3_declareOverdue 41 = .ok (.getfield 21, 3) := by decide +kernel
theorem dX3_declareOverdue_44 : decode cX3_declareOverdue 44 = .ok (.getfield 66, 3) := by decide +kernel
theorem dX3_declareOverdue_47 : decode cX3_declareOverdue 47 = .ok (.if_icmp .gt 55, 3) := by decide +kernel
theorem dX3_declareOverdue_50 : decode cX3_declareOverdue 50 = .ok (.aload_n 0, 1) := by decide +kernel
theorem dX3_declareOverdue_51 : decode cX3_declareOverdue 51 = .ok (.getfield 21, 3) := by decide +kernel
theorem dX3_declareOverdue_54 : decode cX3_declareOverdue 54 = .ok (.iload_n 1, 1) := by decide +kernel
theorem dX3_declareOverdue_55 : decode cX3_declareOverdue 55 = .ok (.iload_n 3, 1) := by decide +kernel
theorem dX3_declareOverdue_56 : decode cX3_declareOverdue 56 = .ok (.iconst 3, 1) := by decide +kernel
theorem dX3_declareOverdue_57 : decode cX3_declareOverdue 57 = .ok (.aload_n 0, 1) := by decide +kernel
theorem dX3_declareOverdue_58 : decode cX3_declareOverdue 58 = .ok (.getfield 21, 3) := by decide +kernel
theorem dX3_declareOverdue_61 : decode cX3_declareOverdue 61 = .ok (.iload_n 1, 1) := by decide +kernel
theorem dX3_declareOverdue_62 : decode cX3_declareOverdue 62 = .ok (.iload_n 3, 1) := by decide +kernel
theorem dX3_declareOverdue_63 : decode cX3_declareOverdue 63 = .ok (.invokevirtual 59, 3) := by decide +kernel
theorem dX3_declareOverdue_66 : decode cX3_declareOverdue 66 = .ok (.invokevirtual 62, 3) := by decide +kernel
theorem dX3_declareOverdue_69 : decode cX3_declareOverdue 69 = .ok (.pop, 1) := by decide +kernel
theorem dX3_declareOverdue_70 : decode cX3_declareOverdue 70 = .ok (.aload_n 0, 1) := by decide +kernel
theorem dX3_declareOverdue_71 : decode cX3_declareOverdue 71 = .ok (.dup, 1) := by decide +kernel
theorem dX3_declareOverdue_72 : decode cX3_declareOverdue 72 = .ok (.getfield 94, 3) := by decide +kernel
theorem dX3_declareOverdue_75 : decode cX3_declareOverdue 75 = .ok (.iconst 1, 1) := by decide +kernel
theorem dX3_declareOverdue_76 : decode cX3_declareOverdue 76 = .ok (.iadd, 1) := by decide +kernel
theorem dX3_declareOverdue_77 : decode cX3_declareOverdue 77 = .ok (.putfield 94, 3) := by decide +kernel
theorem dX3_declareOverdue_80 : decode cX3_declareOverdue 80 = .ok (.aload_n 0, 1) := by decide +kernel
theorem dX3_declareOverdue_81 : decode cX3_declareOverdue 81 = .ok (.getfield 12, 3) := by decide +kernel
theorem dX3_declareOverdue_84 : decode cX3_declareOverdue 84 = .ok (.iload_n 1, 1) := by decide +kernel
theorem dX3_declareOverdue_85 : decode cX3_declareOverdue 85 = .ok (.iload_n 3, 1) := by decide +kernel
theorem dX3_declareOverdue_86 : decode cX3_declareOverdue 86 = .ok (.invokevirtual 47, 3) := by decide +kernel
theorem dX3_declareOverdue_89 : decode cX3_declareOverdue 89 = .ok (.ifCond .eq 13, 3) := by decide +kernel
theorem dX3_declareOverdue_92 : decode cX3_declareOverdue 92 = .ok (.aload_n 0, 1) := by decide +kernel
theorem dX3_declareOverdue_93 : decode cX3_declareOverdue 93 = .ok (.dup, 1) := by decide +kernel
theorem dX3_declareOverdue_94 : decode cX3_declareOverdue 94 = .ok (.getfield 97, 3) := by decide +kernel
theorem dX3_declareOverdue_97 : decode cX3_declareOverdue 97 = .ok (.iconst 1, 1) := by decide +kernel
theorem dX3_declareOverdue_98 : decode cX3_declareOverdue 98 = .ok (.iadd, 1) := by decide +kernel
theorem dX3_declareOverdue_99 : decode cX3_declareOverdue 99 = .ok (.putfield 97, 3) := by decide +kernel
theorem dX3_declareOverdue_102 : decode cX3_declareOverdue 102 = .ok (.iinc 3 1, 3) := by decide +kernel
theorem dX3_declareOverdue_105 : decode cX3_declareOverdue 105 = .ok (.goto (-93), 3) := by decide +kernel
theorem dX3_declareOverdue_108 : decode cX3_declareOverdue 108 = .ok (.return_, 1) := by decide +kernel
set_option maxRecDepth 20000 in
theorem ggX3_helpersReach_X1_nodesInState : GoodIn wsX3_helpersReach wsX1_nodesInState := goodIn_ca (goodIn_r _ [8, 9, 10, 11, 12, 48, 49, 50, 51, 52, 53, 54, 55, 56, 57] (by decide +kernel) (by decide +kernel)) (goodIn_sub (fun _ h => List.mem_cons_of_mem _ (List.mem_append_left _ (List.mem_append_right _ h))) (by decide +kernel))
set_option maxRecDepth 20000 in
theorem gX3_helpersReach_X1_nodesInState : GoodIn wsX3_helpersReach (wsV RX3 75 RX1 yX1_nodesInState wsX1_nodesInState) := goodIn_app (goodIn_of _ (by decide +kernel)) ggX3_helpersReach_X1_nodesInState
set_option maxRecDepth 20000 in
theorem ggX3_helpersReach_X3_drawFrom : GoodIn wsX3_helpersReach wsX3_drawFrom := goodIn_ca (goodIn_r _ [17, 18, 19, 20, 21, 22, 23, 24, 25, 26, 27, 28, 41, 42, 43, 44, 45, 46, 47] (by decide +kernel) (by decide +kernel)) (goodIn_sub (fun _ h => List.mem_cons_of_mem _ (List.mem_append_right _ h)) (by decide +kernel))
set_option maxRecDepth 20000 in
theorem gX3_helpersReach_X3_drawFrom : GoodIn wsX3_helpersReach (wsV RX3 78 RX3 yX3_drawFrom wsX3_drawFrom) := goodIn_app (goodIn_of _ (by decide +kernel)) ggX3_helpersReach_X3_drawFrom
set_option maxRecDepth 20000 in
theorem ggX3_helpersReach_X2_connects : GoodIn wsX3_helpersReach wsX2_connects := goodIn_ca (goodIn_r _ [33, 34, 35, 36, 37, 32, 38, 39, 40, 10, 11, 12, 58, 59, 60, 61] (by decide +kernel) (by decide +kernel)) (goodIn_sub (fun _ h => List.mem_cons_of_mem _ (List.mem_append_left _ (List.mem_append_right _ h))) (by decide +kernel))
set_option maxRecDepth 20000 in
theorem gX3_helpersReach_X2_connects : GoodIn wsX3_helpersReach (wsV RX3 47 RX2 yX2_connects wsX2_connects) := goodIn_app (goodIn_of _ (by decide +kernel)) ggX3_helpersReach_X2_connects
theorem dX3_helpersReach_0 : decode cX3_helpersReach 0 = .ok (.iconst 0, 1) := by decide +kernel
theorem dX3_helpersReach_1 : decode cX3_helpersReach 1 = .ok (.istore_n 3, 1) := by decide +kernel
theorem dX3_helpersReach_2 : decode cX3_helpersReach 2 = .ok (.aload_n 0, 1) := by decide +kernel
theorem dX3_helpersReach_3 : decode cX3_helpersReach 3 = .ok (.getfield 21, 3) := by decide +kernel
theorem dX3_helpersReach_6 : decode cX3_helpersReach 6 = .ok (.iload_n 1, 1) := by decide +kernel
theorem dX3_helpersReach_7 : decode cX3_helpersReach 7 = .ok (.iconst 1, 1) := by decide +kernel
theorem dX3_helpersReach_8 : decode cX3_helpersReach 8 = .ok (.invokevirtual 75, 3) := by decide +kernel
theorem dX3_helpersReach_11 : decode cX3_helpersReach 11 = .ok (.iconst 1, 1) := by decide +kernel
theorem dX3_helpersReach_12 : decode cX3_helpersReach 12 = .ok (.iload_n 2, 1) := by decide +kernel
theorem dX3_helpersReach_13 : decode cX3_helpersReach 13 = .ok (.ishl, 1) := by decide +kernel
theorem dX3_helpersReach_14 : decode cX3_helpersReach 14 = .ok (.iconst (-1), 1) := by decide +kernel
theorem dX3_helpersReach_15 : decode cX3_helpersReach 15 = .ok (.ixor, 1) := by decide +kernel
theorem dX3_helpersReach_16 : decode cX3_helpersReach 16 = .ok (.iand, 1) := by decide +kernel
theorem dX3_helpersReach_17 : decode cX3_helpersReach 17 = .ok (.istore 4, 2) := by decide +kernel
theorem dX3_helpersReach_19 : decode cX3_helpersReach 19 = .ok (.iconst 0, 1) := by decide +kernel
theorem dX3_helpersReach_20 : decode cX3_helpersReach 20 = .ok (.istore 5, 2) := by decide +kernel
theorem dX3_helpersReach_22 : decode cX3_helpersReach 22 = .ok (.iload 5, 2) := by decide +kernel
theorem dX3_helpersReach_24 : decode cX3_helpersReach 24 = .ok (.aload_n 0, 1) := by decide +kernel
theorem dX3_helpersReach_25 : decode cX3_helpersReach 25 = .ok (.getfield 25, 3) := by decide +kernel
theorem dX3_helpersReach_28 : decode cX3_helpersReach 28 = .ok (.if_icmp .ge 64, 3) := by decide +kernel
theorem dX3_helpersReach_31 : decode cX3_helpersReach 31 = .ok (.aload_n 0, 1) := by decide +kernel
theorem dX3_helpersReach_32 : decode cX3_helpersReach 32 = .ok (.iload 4, 2) := by decide +kernel
theorem dX3_helpersReach_34 : decode cX3_helpersReach 34 = .ok (.invokevirtual 78, 3) := by decide +kernel
theorem dX3_helpersReach_37 : decode cX3_helpersReach 37 = .ok (.istore 6, 2) := by decide +kernel
theorem dX3_helpersReach_39 : decode cX3_helpersReach 39 = .ok (.iload 6, 2) := by decide +kernel
theorem dX3_helpersReach_41 : decode cX3_helpersReach 41 = .ok (.iconst (-1), 1) := by decide +kernel
theorem dX3_helpersReach_42 : decode cX3_helpersReach 42 = .ok (.if_icmp .ne 5, 3) := by decide +kernel
theorem dX3_helpersReach_45 : decode cX3_helpersReach 45 = .ok (.iload_n 3, 1) := by decide +kernel
theorem dX3_helpersReach_46 : decode cX3_helpersReach 46 = .ok (.ireturn, 1) := by decide +kernel
theorem dX3_helpersReach_47 : decode cX3_helpersReach 47 = .ok (.iload 4, 2) := by decide +kernel
theorem dX3_helpersReach_49 : decode cX3_helpersReach 49 = .ok (.iconst 1, 1) := by decide +kernel
theorem dX3_helpersReach_50 : decode cX3_helpersReach 50 = .ok (.iload 6, 2) := by decide +kernel
theorem dX3_helpersReach_52 : decode cX3_helpersReach 52 = .ok (.ishl, 1) := by decide +kernel
theorem dX3_helpersReach_53 : decode cX3_helpersReach 53 = .ok (.iconst (-1), 1) := by decide +kernel
theorem dX3_helpersReach_54 : decode cX3_helpersReach 54 = .ok (.ixor, 1) := by decide +kernel
theorem dX3_helpersReach_55 : decode cX3_helpersReach 55 = .ok (.iand, 1) := by decide +kernel
theorem dX3_helpersReach_56 : decode cX3_helpersReach 56 = .ok (.istore 4, 2) := by decide +kernel
theorem dX3_helpersReach_58 : decode cX3_helpersReach 58 = .ok (.aload_n 0, 1) := by decide +kernel
theorem dX3_helpersReach_59 : decode cX3_helpersReach 59 = .ok (.getfield 12, 3) := by decide +kernel
theorem dX3_helpersReach_62 : decode cX3_helpersReach 62 = .ok (.iload_n 1, 1) := by decide +kernel
theorem dX3_helpersReach_63 : decode cX3_helpersReach 63 = .ok (.iload 6, 2) := by decide +kernel
theorem dX3_helpersReach_65 : decode cX3_helpersReach 65 = .ok (.invokevirtual 47, 3) := by decide +kernel
theorem dX3_helpersReach_68 : decode cX3_helpersReach 68 = .ok (.ifCond .eq 18, 3) := by decide +kernel
theorem dX3_helpersReach_71 : decode cX3_helpersReach 71 = .ok (.aload_n 0, 1) := by decide +kernel
theorem dX3_helpersReach_72 : decode cX3_helpersReach 72 = .ok (.getfield 12, 3) := by decide +kernel
theorem dX3_helpersReach_75 : decode cX3_helpersReach 75 = .ok (.iload 6, 2) := by decide +kernel
theorem dX3_helpersReach_77 : decode cX3_helpersReach 77 = .ok (.iload_n 2, 1) := by decide +kernel
theorem dX3_helpersReach_78 : decode cX3_helpersReach 78 = .ok (.invokevirtual 47, 3) := by decide +kernel
theorem dX3_helpersReach_81 : decode cX3_helpersReach 81 = .ok (.ifCond .eq 5, 3) := by decide +kernel
theorem dX3_helpersReach_84 : decode cX3_helpersReach 84 = .ok (.iconst 1, 1) := by decide +kernel
theorem dX3_helpersReach_85 : decode cX3_helpersReach 85 = .ok (.istore_n 3, 1) := by decide +kernel
theorem dX3_helpersReach_86 : decode cX3_helpersReach 86 = .ok (.iinc 5 1, 3) := by decide +kernel
theorem dX3_helpersReach_89 : decode cX3_helpersReach 89 = .ok (.goto (-67), 3) := by decide +kernel
theorem dX3_helpersReach_92 : decode cX3_helpersReach 92 = .ok (.iload_n 3, 1) := by decide +kernel
theorem dX3_helpersReach_93 : decode cX3_helpersReach 93 = .ok (.ireturn, 1) := by decide +kernel
set_option maxRecDepth 20000 in
theorem ggX3_drawFrom_J6_bitCount_0f7a4 : GoodIn wsX3_drawFrom wsJ6_bitCount_0f7a4 := goodIn_r _ [8, 9, 10, 11] (by decide +kernel) (by decide +kernel)
set_option maxRecDepth 20000 in
theorem gX3_drawFrom_J6_bitCount_0f7a4 : GoodIn wsX3_drawFrom (va_wsS RX3 100 yJ6_bitCount_0f7a4 wsJ6_bitCount_0f7a4) := goodIn_app (goodIn_of _ (by decide +kernel)) ggX3_drawFrom_J6_bitCount_0f7a4
theorem dX3_drawFrom_0 : decode cX3_drawFrom 0 = .ok (.iload_n 1, 1) := by decide +kernel
theorem dX3_drawFrom_1 : decode cX3_drawFrom 1 = .ok (.invokestatic 100, 3) := by decide +kernel
theorem dX3_drawFrom_4 : decode cX3_drawFrom 4 = .ok (.istore_n 2, 1) := by decide +kernel
theorem dX3_drawFrom_5 : decode cX3_drawFrom 5 = .ok (.iload_n 2, 1) := by decide +kernel
theorem dX3_drawFrom_6 : decode cX3_drawFrom 6 = .ok (.ifCond .ne 5, 3) := by decide +kernel
theorem dX3_drawFrom_9 : decode cX3_drawFrom 9 = .ok (.iconst (-1), 1) := by decide +kernel
theorem dX3_drawFrom_10 : decode cX3_drawFrom 10 = .ok (.ireturn, 1) := by decide +kernel
theorem dX3_drawFrom_11 : decode cX3_drawFrom 11 = .ok (.aload_n 0, 1) := by decide +kernel
theorem dX3_drawFrom_12 : decode cX3_drawFrom 12 = .ok (.aload_n 0, 1) := by decide +kernel
theorem dX3_drawFrom_13 : decode cX3_drawFrom 13 = .ok (.getfield 29, 3) := by decide +kernel
theorem dX3_drawFrom_16 : decode cX3_drawFrom 16 = .ok (.i2l, 1) := by decide +kernel
theorem dX3_drawFrom_17 : decode cX3_drawFrom 17 = .ok (.ldc2_w 105, 3) := by decide +kernel
theorem dX3_drawFrom_20 : decode cX3_drawFrom 20 = .ok (.lmul, 1) := by decide +kernel
theorem dX3_drawFrom_21 : decode cX3_drawFrom 21 = .ok (.ldc2_w 107, 3) := by decide +kernel
theorem dX3_drawFrom_24 : decode cX3_drawFrom 24 = .ok (.ladd, 1) := by decide +kernel
theorem dX3_drawFrom_25 : decode cX3_drawFrom 25 = .ok (.ldc2_w 109, 3) := by decide +kernel
theorem dX3_drawFrom_28 : decode cX3_drawFrom 28 = .ok (.lrem, 1) := by decide +kernel
theorem dX3_drawFrom_29 : decode cX3_drawFrom 29 = .ok (.l2i, 1) := by decide +kernel
theorem dX3_drawFrom_30 : decode cX3_drawFrom 30 = .ok (.putfield 29, 3) := by decide +kernel
theorem dX3_drawFrom_33 : decode cX3_drawFrom 33 = .ok (.aload_n 0, 1) := by decide +kernel
theorem dX3_drawFrom_34 : decode cX3_drawFrom 34 = .ok (.getfield 29, 3) := by decide +kernel
theorem dX3_drawFrom_37 : decode cX3_drawFrom 37 = .ok (.sipush 256, 3) := by decide +kernel
theorem dX3_drawFrom_40 : decode cX3_drawFrom 40 = .ok (.idiv, 1) := by decide +kernel
theorem dX3_drawFrom_41 : decode cX3_drawFrom 41 = .ok (.iload_n 2, 1) := by decide +kernel
theorem dX3_drawFrom_42 : decode cX3_drawFrom 42 = .ok (.irem, 1) := by decide +kernel
theorem dX3_drawFrom_43 : decode cX3_drawFrom 43 = .ok (.istore_n 3, 1) := by decide +kernel
theorem dX3_drawFrom_44 : decode cX3_drawFrom 44 = .ok (.iconst 0, 1) := by decide +kernel
theorem dX3_drawFrom_45 : decode cX3_drawFrom 45 = .ok (.istore 4, 2) := by decide +kernel
theorem dX3_drawFrom_47 : decode cX3_drawFrom 47 = .ok (.iload 4, 2) := by decide +kernel
theorem dX3_drawFrom_49 : decode cX3_drawFrom 49 = .ok (.bipush 8, 2) := by decide +kernel
theorem dX3_drawFrom_51 : decode cX3_drawFrom 51 = .ok (.if_icmp .ge 29, 3) := by decide +kernel
theorem dX3_drawFrom_54 : decode cX3_drawFrom 54 = .ok (.iload_n 1, 1) := by decide +kernel
theorem dX3_drawFrom_55 : decode cX3_drawFrom 55 = .ok (.iload 4, 2) := by decide +kernel
theorem dX3_drawFrom_57 : decode cX3_drawFrom 57 = .ok (.ishr, 1) := by decide +kernel
theorem dX3_drawFrom_58 : decode cX3_drawFrom 58 = .ok (.iconst 1, 1) := by decide +kernel
theorem dX3_drawFrom_59 : decode cX3_drawFrom 59 = .ok (.iand, 1) := by decide +kernel
theorem dX3_drawFrom_60 : decode cX3_drawFrom 60 = .ok (.iconst 1, 1) := by decide +kernel
theorem dX3_drawFrom_61 : decode cX3_drawFrom 61 = .ok (.if_icmp .ne 13, 3) := by decide +kernel
theorem dX3_drawFrom_64 : decode cX3_drawFrom 64 = .ok (.iload_n 3, 1) := by decide +kernel
theorem dX3_drawFrom_65 : decode cX3_drawFrom 65 = .ok (.ifCond .ne 6, 3) := by decide +kernel
theorem dX3_drawFrom_68 : decode cX3_drawFrom 68 = .ok (.iload 4, 2) := by decide +kernel
theorem dX3_drawFrom_70 : decode cX3_drawFrom 70 = .ok (.ireturn, 1) := by decide +kernel
theorem dX3_drawFrom_71 : decode cX3_drawFrom 71 = .ok (.iinc 3 (-1), 3) := by decide +kernel
theorem dX3_drawFrom_74 : decode cX3_drawFrom 74 = .ok (.iinc 4 1, 3) := by decide +kernel
theorem dX3_drawFrom_77 : decode cX3_drawFrom 77 = .ok (.goto (-30), 3) := by decide +kernel
theorem dX3_drawFrom_80 : decode cX3_drawFrom 80 = .ok (.iconst (-1), 1) := by decide +kernel
theorem dX3_drawFrom_81 : decode cX3_drawFrom 81 = .ok (.ireturn, 1) := by decide +kernel
set_option maxRecDepth 20000 in
theorem ggX3_send_X1_toldState : GoodIn wsX3_send wsX1_toldState := goodIn_ca (goodIn_r _ [8, 9, 10, 11, 12, 53, 54, 55, 56, 57, 58, 59, 60, 61, 62] (by decide +kernel) (by decide +kernel)) (goodIn_sub (fun _ h => List.mem_cons_of_mem _ (List.mem_append_right _ h)) (by decide +kernel))
set_option maxRecDepth 20000 in
theorem gX3_send_X1_toldState : GoodIn wsX3_send (wsV RX3 55 RX1 yX1_toldState wsX1_toldState) := goodIn_app (goodIn_of _ (by decide +kernel)) ggX3_send_X1_toldState
set_option maxRecDepth 20000 in
theorem ggX3_send_X1_toldIncarnation : GoodIn wsX3_send wsX1_toldIncarnation := goodIn_ca (goodIn_r _ [16, 17, 18, 10, 11, 12, 53, 54, 55, 56, 57, 58, 59, 60, 61, 62] (by decide +kernel) (by decide +kernel)) (goodIn_sub (fun _ h => List.mem_cons_of_mem _ (List.mem_append_right _ h)) (by decide +kernel))
set_option maxRecDepth 20000 in
theorem gX3_send_X1_toldIncarnation : GoodIn wsX3_send (wsV RX3 59 RX1 yX1_toldIncarnation wsX1_toldIncarnation) := goodIn_app (goodIn_of _ (by decide +kernel)) ggX3_send_X1_toldIncarnation
set_option maxRecDepth 20000 in
theorem ggX3_send_X1_takeIn : GoodIn wsX3_send wsX1_takeIn := goodIn_ca (goodIn_r _ [22, 17, 23, 24, 25, 10, 11, 12, 26, 27, 28, 7, 29, 9, 18, 30, 31, 32, 33, 34, 35, 36, 37, 38, 39, 40, 41, 53, 54, 55, 56, 57, 58, 59, 60, 61, 62] (by decide +kernel) (by decide +kernel)) (goodIn_sub (fun _ h => List.mem_cons_of_mem _ (List.mem_append_right _ h)) (by decide +kernel))
set_option maxRecDepth 20000 in
theorem gX3_send_X1_takeIn : GoodIn wsX3_send (wsV RX3 62 RX1 yX1_takeIn wsX1_takeIn) := goodIn_app (goodIn_of _ (by decide +kernel)) ggX3_send_X1_takeIn
set_option maxRecDepth 20000 in
theorem ggX3_send_X1_mostUrgent : GoodIn wsX3_send wsX1_mostUrgent := goodIn_ca (goodIn_r _ [45, 24, 10, 11, 12, 53, 54, 55, 56, 57, 58, 59, 60, 61, 62] (by decide +kernel) (by decide +kernel)) (goodIn_sub (fun _ h => List.mem_cons_of_mem _ (List.mem_append_right _ h)) (by decide +kernel))
set_option maxRecDepth 20000 in
theorem gX3_send_X1_mostUrgent : GoodIn wsX3_send (wsV RX3 111 RX1 yX1_mostUrgent wsX1_mostUrgent) := goodIn_app (goodIn_of _ (by decide +kernel)) ggX3_send_X1_mostUrgent
set_option maxRecDepth 20000 in
theorem ggX3_send_X4_pair : GoodIn wsX3_send wsX4_pair := goodIn_r _ [12] (by decide +kernel) (by decide +kernel)
set_option maxRecDepth 20000 in
theorem gX3_send_X4_pair_n91 : GoodIn wsX3_send (wsX4_pair) := ggX3_send_X4_pair
theorem dX3_send_0 : decode cX3_send 0 = .ok (.iconst 0, 1) := by decide +kernel
theorem dX3_send_1 : decode cX3_send 1 = .ok (.istore_n 3, 1) := by decide +kernel
theorem dX3_send_2 : decode cX3_send 2 = .ok (.aload_n 0, 1) := by decide +kernel
theorem dX3_send_3 : decode cX3_send 3 = .ok (.getfield 21, 3) := by decide +kernel
theorem dX3_send_6 : decode cX3_send 6 = .ok (.iload_n 1, 1) := by decide +kernel
theorem dX3_send_7 : decode cX3_send 7 = .ok (.iload_n 2, 1) := by decide +kernel
theorem dX3_send_8 : decode cX3_send 8 = .ok (.invokevirtual 55, 3) := by decide +kernel
theorem dX3_send_11 : decode cX3_send 11 = .ok (.istore 4, 2) := by decide +kernel
theorem dX3_send_13 : decode cX3_send 13 = .ok (.iload 4, 2) := by decide +kernel
theorem dX3_send_15 : decode cX3_send 15 = .ok (.iconst 2, 1) := by decide +kernel
theorem dX3_send_16 : decode cX3_send 16 = .ok (.if_icmp .eq 9, 3) := by decide +kernel
theorem dX3_send_19 : decode cX3_send 19 = .ok (.iload 4, 2) := by decide +kernel
theorem dX3_send_21 : decode cX3_send 21 = .ok (.iconst 3, 1) := by decide +kernel
theorem dX3_send_22 : decode cX3_send 22 = .ok (.if_icmp .ne 7, 3) := by decide +kernel
theorem dX3_send_25 : decode cX3_send 25 = .ok (.iconst 1, 1) := by decide +kernel
theorem dX3_send_26 : decode cX3_send 26 = .ok (.goto 4, 3) := by decide +kernel
theorem dX3_send_29 : decode cX3_send 29 = .ok (.iconst 0, 1) := by decide +kernel
theorem dX3_send_30 : decode cX3_send 30 = .ok (.istore 5, 2) := by decide +kernel
theorem dX3_send_32 : decode cX3_send 32 = .ok (.iload 5, 2) := by decide +kernel
theorem dX3_send_34 : decode cX3_send 34 = .ok (.ifCond .eq 24, 3) := by decide +kernel
theorem dX3_send_37 : decode cX3_send 37 = .ok (.aload_n 0, 1) := by decide +kernel
theorem dX3_send_38 : decode cX3_send 38 = .ok (.getfield 21, 3) := by decide +kernel
theorem dX3_send_41 : decode cX3_send 41 = .ok (.iload_n 2, 1) := by decide +kernel
theorem dX3_send_42 : decode cX3_send 42 = .ok (.iload_n 2, 1) := by decide +kernel
theorem dX3_send_43 : decode cX3_send 43 = .ok (.iload 4, 2) := by decide +kernel
theorem dX3_send_45 : decode cX3_send 45 = .ok (.aload_n 0, 1) := by decide +kernel
theorem dX3_send_46 : decode cX3_send 46 = .ok (.getfield 21, 3) := by decide +kernel
theorem dX3_send_49 : decode cX3_send 49 = .ok (.iload_n 1, 1) := by decide +kernel
theorem dX3_send_50 : decode cX3_send 50 = .ok (.iload_n 2, 1) := by decide +kernel
theorem dX3_send_51 : decode cX3_send 51 = .ok (.invokevirtual 59, 3) := by decide +kernel
theorem dX3_send_54 : decode cX3_send 54 = .ok (.invokevirtual 62, 3) := by decide +kernel
theorem dX3_send_57 : decode cX3_send 57 = .ok (.pop, 1) := by decide +kernel
theorem dX3_send_58 : decode cX3_send 58 = .ok (.iconst 0, 1) := by decide +kernel
theorem dX3_send_59 : decode cX3_send 59 = .ok (.istore 6, 2) := by decide +kernel
theorem dX3_send_61 : decode cX3_send 61 = .ok (.iload 6, 2) := by decide +kernel
theorem dX3_send_63 : decode cX3_send 63 = .ok (.iconst 3, 1) := by decide +kernel
theorem dX3_send_64 : decode cX3_send 64 = .ok (.if_icmp .ge 96, 3) := by decide +kernel
theorem dX3_send_67 : decode cX3_send 67 = .ok (.aload_n 0, 1) := by decide +kernel
theorem dX3_send_68 : decode cX3_send 68 = .ok (.getfield 21, 3) := by decide +kernel
theorem dX3_send_71 : decode cX3_send 71 = .ok (.iload_n 1, 1) := by decide +kernel
theorem dX3_send_72 : decode cX3_send 72 = .ok (.iload_n 3, 1) := by decide +kernel
theorem dX3_send_73 : decode cX3_send 73 = .ok (.invokevirtual 111, 3) := by decide +kernel
theorem dX3_send_76 : decode cX3_send 76 = .ok (.istore 7, 2) := by decide +kernel
theorem dX3_send_78 : decode cX3_send 78 = .ok (.iload 7, 2) := by decide +kernel
theorem dX3_send_80 : decode cX3_send 80 = .ok (.iconst (-1), 1) := by decide +kernel
theorem dX3_send_81 : decode cX3_send 81 = .ok (.if_icmp .ne 6, 3) := by decide +kernel
theorem dX3_send_84 : decode cX3_send 84 = .ok (.goto 76, 3) := by decide +kernel
theorem dX3_send_87 : decode cX3_send 87 = .ok (.iload_n 3, 1) := by decide +kernel
theorem dX3_send_88 : decode cX3_send 88 = .ok (.iconst 1, 1) := by decide +kernel
theorem dX3_send_89 : decode cX3_send 89 = .ok (.iload 7, 2) := by decide +kernel
theorem dX3_send_91 : decode cX3_send 91 = .ok (.ishl, 1) := by decide +kernel
theorem dX3_send_92 : decode cX3_send 92 = .ok (.ior, 1) := by decide +kernel
theorem dX3_send_93 : decode cX3_send 93 = .ok (.istore_n 3, 1) := by decide +kernel
theorem dX3_send_94 : decode cX3_send 94 = .ok (.aload_n 0, 1) := by decide +kernel
theorem dX3_send_95 : decode cX3_send 95 = .ok (.getfield 21, 3) := by decide +kernel
theorem dX3_send_98 : decode cX3_send 98 = .ok (.getfield 114, 3) := by decide +kernel
theorem dX3_send_101 : decode cX3_send 101 = .ok (.iload_n 1, 1) := by decide +kernel
theorem dX3_send_102 : decode cX3_send 102 = .ok (.iload 7, 2) := by decide +kernel
theorem dX3_send_104 : decode cX3_send 104 = .ok (.invokestatic 91, 3) := by decide +kernel
theorem dX3_send_107 : decode cX3_send 107 = .ok (.dup2, 1) := by decide +kernel
theorem dX3_send_108 : decode cX3_send 108 = .ok (.iaload, 1) := by decide +kernel
theorem dX3_send_109 : decode cX3_send 109 = .ok (.iconst 1, 1) := by decide +kernel
theorem dX3_send_110 : decode cX3_send 110 = .ok (.isub, 1) := by decide +kernel
theorem dX3_send_111 : decode cX3_send 111 = .ok (.iastore, 1) := by decide +kernel
theorem dX3_send_112 : decode cX3_send 112 = .ok (.iload 5, 2) := by decide +kernel
theorem dX3_send_114 : decode cX3_send 114 = .ok (.ifCond .eq 9, 3) := by decide +kernel
theorem dX3_send_117 : decode cX3_send 117 = .ok (.iload 7, 2) := by decide +kernel
theorem dX3_send_119 : decode cX3_send 119 = .ok (.iload_n 2, 1) := by decide +kernel
theorem dX3_send_120 : decode cX3_send 120 = .ok (.if_icmp .eq 34, 3) := by decide +kernel
theorem dX3_send_123 : decode cX3_send 123 = .ok (.aload_n 0, 1) := by decide +kernel
theorem dX3_send_124 : decode cX3_send 124 = .ok (.getfield 21, 3) := by decide +kernel
theorem dX3_send_127 : decode cX3_send 127 = .ok (.iload_n 2, 1) := by decide +kernel
theorem dX3_send_128 : decode cX3_send 128 = .ok (.iload 7, 2) := by decide +kernel
theorem dX3_send_130 : decode cX3_send 130 = .ok (.aload_n 0, 1) := by decide +kernel
theorem dX3_send_131 : decode cX3_send 131 = .ok (.getfield 21, 3) := by decide +kernel
theorem dX3_send_134 : decode cX3_send 134 = .ok (.iload_n 1, 1) := by decide +kernel
theorem dX3_send_135 : decode cX3_send 135 = .ok (.iload 7, 2) := by decide +kernel
theorem dX3_send_137 : decode cX3_send 137 = .ok (.invokevirtual 55, 3) := by decide +kernel
theorem dX3_send_140 : decode cX3_send 140 = .ok (.aload_n 0, 1) := by decide +kernel
theorem dX3_send_141 : decode cX3_send 141 = .ok (.getfield 21, 3) := by decide +kernel
theorem dX3_send_144 : decode cX3_send 144 = .ok (.iload_n 1, 1) := by decide +kernel
theorem dX3_send_145 : decode cX3_send 145 = .ok (.iload 7, 2) := by decide +kernel
theorem dX3_send_147 : decode cX3_send 147 = .ok (.invokevirtual 59, 3) := by decide +kernel
theorem dX3_send_150 : decode cX3_send 150 = .ok (.invokevirtual 62, 3) := by decide +kernel
theorem dX3_send_153 : decode cX3_send 153 = .ok (.pop, 1) := by decide +kernel
theorem dX3_send_154 : decode cX3_send 154 = .ok (.iinc 6 1, 3) := by decide +kernel
theorem dX3_send_157 : decode cX3_send 157 = .ok (.goto (-96), 3) := by decide +kernel
theorem dX3_send_160 : decode cX3_send 160 = .ok (.aload_n 0, 1) := by decide +kernel
theorem dX3_send_161 : decode cX3_send 161 = .ok (.dup, 1) := by decide +kernel
theorem dX3_send_162 : decode cX3_send 162 = .ok (.getfield 117, 3) := by decide +kernel
theorem dX3_send_165 : decode cX3_send 165 = .ok (.iconst 1, 1) := by decide +kernel
theorem dX3_send_166 : decode cX3_send 166 = .ok (.iadd, 1) := by decide +kernel
theorem dX3_send_167 : decode cX3_send 167 = .ok (.putfield 117, 3) := by decide +kernel
theorem dX3_send_170 : decode cX3_send 170 = .ok (.return_, 1) := by decide +kernel
set_option maxRecDepth 20000 in
theorem ggX3_allAgree_X2_connects : GoodIn wsX3_allAgree wsX2_connects := goodIn_ca (goodIn_r _ [6, 7, 8, 9, 10, 5, 11, 12, 13, 14, 15, 16, 46, 47, 48, 49] (by decide +kernel) (by decide +kernel)) (goodIn_sub (fun _ h => List.mem_cons_of_mem _ (List.mem_append_right _ h)) (by decide +kernel))
set_option maxRecDepth 20000 in
theorem gX3_allAgree_X2_connects : GoodIn wsX3_allAgree (wsV RX3 47 RX2 yX2_connects wsX2_connects) := goodIn_app (goodIn_of _ (by decide +kernel)) ggX3_allAgree_X2_connects
set_option maxRecDepth 20000 in
theorem ggX3_allAgree_X3_twoAgree : GoodIn wsX3_allAgree wsX3_twoAgree := goodIn_ca (goodIn_r _ [21, 22, 23, 24, 25, 26, 27, 28, 29, 30, 14, 15, 16, 31, 32, 33, 34, 35, 36, 37, 38, 39, 40, 41, 42, 43, 44, 45, 50, 51, 52, 53, 54, 55, 56, 57, 58, 59] (by decide +kernel) (by decide +kernel)) (goodIn_sub (fun _ h => List.mem_cons_of_mem _ (List.mem_append_right _ h)) (by decide +kernel))
set_option maxRecDepth 20000 in
theorem gX3_allAgree_X3_twoAgree : GoodIn wsX3_allAgree (wsV RX3 120 RX3 yX3_twoAgree wsX3_twoAgree) := goodIn_app (goodIn_of _ (by decide +kernel)) ggX3_allAgree_X3_twoAgree
theorem dX3_allAgree_0 : decode cX3_allAgree 0 = .ok (.iconst 0, 1) := by decide +kernel
theorem dX3_allAgree_1 : decode cX3_allAgree 1 = .ok (.istore_n 1, 1) := by decide +kernel
theorem dX3_allAgree_2 : decode cX3_allAgree 2 = .ok (.iload_n 1, 1) := by decide +kernel
theorem dX3_allAgree_3 : decode cX3_allAgree 3 = .ok (.bipush 8, 2) := by decide +kernel
theorem dX3_allAgree_5 : decode cX3_allAgree 5 = .ok (.if_icmp .ge 48, 3) := by decide +kernel
theorem dX3_allAgree_8 : decode cX3_allAgree 8 = .ok (.iload_n 1, 1) := by decide +kernel
theorem dX3_allAgree_9 : decode cX3_allAgree 9 = .ok (.iconst 1, 1) := by decide +kernel
theorem dX3_allAgree_10 : decode cX3_allAgree 10 = .ok (.iadd, 1) := by decide +kernel
theorem dX3_allAgree_11 : decode cX3_allAgree 11 = .ok (.istore_n 2, 1) := by decide +kernel
theorem dX3_allAgree_12 : decode cX3_allAgree 12 = .ok (.iload_n 2, 1) := by decide +kernel
theorem dX3_allAgree_13 : decode cX3_allAgree 13 = .ok (.bipush 8, 2) := by decide +kernel
theorem dX3_allAgree_15 : decode cX3_allAgree 15 = .ok (.if_icmp .ge 32, 3) := by decide +kernel
theorem dX3_allAgree_18 : decode cX3_allAgree 18 = .ok (.aload_n 0, 1) := by decide +kernel
theorem dX3_allAgree_19 : decode cX3_allAgree 19 = .ok (.getfield 12, 3) := by decide +kernel
theorem dX3_allAgree_22 : decode cX3_allAgree 22 = .ok (.iload_n 1, 1) := by decide +kernel
theorem dX3_allAgree_23 : decode cX3_allAgree 23 = .ok (.iload_n 2, 1) := by decide +kernel
theorem dX3_allAgree_24 : decode cX3_allAgree 24 = .ok (.invokevirtual 47, 3) := by decide +kernel
theorem dX3_allAgree_27 : decode cX3_allAgree 27 = .ok (.ifCond .eq 14, 3) := by decide +kernel
theorem dX3_allAgree_30 : decode cX3_allAgree 30 = .ok (.aload_n 0, 1) := by decide +kernel
theorem dX3_allAgree_31 : decode cX3_allAgree 31 = .ok (.iload_n 1, 1) := by decide +kernel
theorem dX3_allAgree_32 : decode cX3_allAgree 32 = .ok (.iload_n 2, 1) := by decide +kernel
theorem dX3_allAgree_33 : decode cX3_allAgree 33 = .ok (.invokevirtual 120, 3) := by decide +kernel
theorem dX3_allAgree_36 : decode cX3_allAgree 36 = .ok (.ifCond .ne 5, 3) := by decide +kernel
theorem dX3_allAgree_39 : decode cX3_allAgree 39 = .ok (.iconst 0, 1) := by decide +kernel
theorem dX3_allAgree_40 : decode cX3_allAgree 40 = .ok (.ireturn, 1) := by decide +kernel
theorem dX3_allAgree_41 : decode cX3_allAgree 41 = .ok (.iinc 2 1, 3) := by decide +kernel
theorem dX3_allAgree_44 : decode cX3_allAgree 44 = .ok (.goto (-32), 3) := by decide +kernel
theorem dX3_allAgree_47 : decode cX3_allAgree 47 = .ok (.iinc 1 1, 3) := by decide +kernel
theorem dX3_allAgree_50 : decode cX3_allAgree 50 = .ok (.goto (-48), 3) := by decide +kernel
theorem dX3_allAgree_53 : decode cX3_allAgree 53 = .ok (.iconst 1, 1) := by decide +kernel
theorem dX3_allAgree_54 : decode cX3_allAgree 54 = .ok (.ireturn, 1) := by decide +kernel
set_option maxRecDepth 20000 in
theorem ggX3_twoAgree_X1_isUpToDate : GoodIn wsX3_twoAgree wsX1_isUpToDate := goodIn_ca (goodIn_r _ [6, 7, 8, 9, 10, 11, 12, 28, 29, 30, 31, 32, 33, 34, 35, 36, 37] (by decide +kernel) (by decide +kernel)) (goodIn_sub (fun _ h => List.mem_cons_of_mem _ (List.mem_append_right _ h)) (by decide +kernel))
set_option maxRecDepth 20000 in
theorem gX3_twoAgree_X1_isUpToDate : GoodIn wsX3_twoAgree (wsV RX3 123 RX1 yX1_isUpToDate wsX1_isUpToDate) := goodIn_app (goodIn_of _ (by decide +kernel)) ggX3_twoAgree_X1_isUpToDate
set_option maxRecDepth 20000 in
theorem ggX3_twoAgree_X1_countDifferences : GoodIn wsX3_twoAgree wsX1_countDifferences := goodIn_ca (goodIn_r _ [16, 10, 11, 12, 17, 18, 19, 5, 20, 7, 8, 28, 29, 30, 31, 32, 33, 34, 35, 36, 37] (by decide +kernel) (by decide +kernel)) (goodIn_sub (fun _ h => List.mem_cons_of_mem _ (List.mem_append_right _ h)) (by decide +kernel))
set_option maxRecDepth 20000 in
theorem gX3_twoAgree_X1_countDifferences : GoodIn wsX3_twoAgree (wsV RX3 126 RX1 yX1_countDifferences wsX1_countDifferences) := goodIn_app (goodIn_of _ (by decide +kernel)) ggX3_twoAgree_X1_countDifferences
theorem dX3_twoAgree_0 : decode cX3_twoAgree 0 = .ok (.aload_n 0, 1) := by decide +kernel
theorem dX3_twoAgree_1 : decode cX3_twoAgree 1 = .ok (.getfield 21, 3) := by decide +kernel
theorem dX3_twoAgree_4 : decode cX3_twoAgree 4 = .ok (.iload_n 1, 1) := by decide +kernel
theorem dX3_twoAgree_5 : decode cX3_twoAgree 5 = .ok (.iload_n 2, 1) := by decide +kernel
theorem dX3_twoAgree_6 : decode cX3_twoAgree 6 = .ok (.invokevirtual 123, 3) := by decide +kernel
theorem dX3_twoAgree_9 : decode cX3_twoAgree 9 = .ok (.ifCond .eq 31, 3) := by decide +kernel
theorem dX3_twoAgree_12 : decode cX3_twoAgree 12 = .ok (.aload_n 0, 1) := by decide +kernel
theorem dX3_twoAgree_13 : decode cX3_twoAgree 13 = .ok (.getfield 21, 3) := by decide +kernel
theorem dX3_twoAgree_16 : decode cX3_twoAgree 16 = .ok (.iload_n 2, 1) := by decide +kernel
theorem dX3_twoAgree_17 : decode cX3_twoAgree 17 = .ok (.iload_n 1, 1) := by decide +kernel
theorem dX3_twoAgree_18 : decode cX3_twoAgree 18 = .ok (.invokevirtual 123, 3) := by decide +kernel
theorem dX3_twoAgree_21 : decode cX3_twoAgree 21 = .ok (.ifCond .eq 19, 3) := by decide +kernel
theorem dX3_twoAgree_24 : decode cX3_twoAgree 24 = .ok (.aload_n 0, 1) := by decide +kernel
theorem dX3_twoAgree_25 : decode cX3_twoAgree 25 = .ok (.getfield 21, 3) := by decide +kernel
theorem dX3_twoAgree_28 : decode cX3_twoAgree 28 = .ok (.iload_n 1, 1) := by decide +kernel
theorem dX3_twoAgree_29 : decode cX3_twoAgree 29 = .ok (.iload_n 2, 1) := by decide +kernel
theorem dX3_twoAgree_30 : decode cX3_twoAgree 30 = .ok (.invokevirtual 126, 3) := by decide +kernel
theorem dX3_twoAgree_33 : decode cX3_twoAgree 33 = .ok (.ifCond .ne 7, 3) := by decide +kernel
theorem dX3_twoAgree_36 : decode cX3_twoAgree 36 = .ok (.iconst 1, 1) := by decide +kernel
theorem dX3_twoAgree_37 : decode cX3_twoAgree 37 = .ok (.goto 4, 3) := by decide +kernel
theorem dX3_twoAgree_40 : decode cX3_twoAgree 40 = .ok (.iconst 0, 1) := by decide +kernel
theorem dX3_twoAgree_41 : decode cX3_twoAgree 41 = .ok (.ireturn, 1) := by decide +kernel
set_option maxRecDepth 20000 in
theorem ggX3_countDisagreements_X2_connects : GoodIn wsX3_countDisagreements wsX2_connects := goodIn_ca (goodIn_r _ [7, 8, 9, 10, 11, 6, 12, 13, 14, 15, 16, 17, 36, 37, 38, 39] (by decide +kernel) (by decide +kernel)) (goodIn_sub (fun _ h => List.mem_cons_of_mem _ (List.mem_append_right _ h)) (by decide +kernel))
set_option maxRecDepth 20000 in
theorem gX3_countDisagreements_X2_connects : GoodIn wsX3_countDisagreements (wsV RX3 47 RX2 yX2_connects wsX2_connects) := goodIn_app (goodIn_of _ (by decide +kernel)) ggX3_countDisagreements_X2_connects
set_option maxRecDepth 20000 in
theorem ggX3_countDisagreements_X1_countDifferences : GoodIn wsX3_countDisagreements wsX1_countDifferences := goodIn_ca (goodIn_r _ [22, 15, 16, 17, 23, 24, 25, 21, 26, 27, 28, 40, 41, 42, 43, 44, 45, 46, 47, 48, 49] (by decide +kernel) (by decide +kernel)) (goodIn_sub (fun _ h => List.mem_cons_of_mem _ (List.mem_append_right _ h)) (by decide +kernel))
set_option maxRecDepth 20000 in
theorem gX3_countDisagreements_X1_countDifferences : GoodIn wsX3_countDisagreements (wsV RX3 126 RX1 yX1_countDifferences wsX1_countDifferences) := goodIn_app (goodIn_of _ (by decide +kernel)) ggX3_countDisagreements_X1_countDifferences
theorem dX3_countDisagreements_0 : decode cX3_countDisagreements 0 = .ok (.iconst 0, 1) := by decide +kernel
theorem dX3_countDisagreements_1 : decode cX3_countDisagreements 1 = .ok (.istore_n 1, 1) := by decide +kernel
theorem dX3_countDisagreements_2 : decode cX3_countDisagreements 2 = .ok (.iconst 0, 1) := by decide +kernel
theorem dX3_countDisagreements_3 : decode cX3_countDisagreements 3 = .ok (.istore_n 2, 1) := by decide +kernel
theorem dX3_countDisagreements_4 : decode cX3_countDisagreements 4 = .ok (.iload_n 2, 1) := by decide +kernel
theorem dX3_countDisagreements_5 : decode cX3_countDisagreements 5 = .ok (.bipush 8, 2) := by decide +kernel
theorem dX3_countDisagreements_7 : decode cX3_countDisagreements 7 = .ok (.if_icmp .ge 49, 3) := by decide +kernel
theorem dX3_countDisagreements_10 : decode cX3_countDisagreements 10 = .ok (.iload_n 2, 1) := by decide +kernel
theorem dX3_countDisagreements_11 : decode cX3_countDisagreements 11 = .ok (.iconst 1, 1) := by decide +kernel
theorem dX3_countDisagreements_12 : decode cX3_countDisagreements 12 = .ok (.iadd, 1) := by decide +kernel
theorem dX3_countDisagreements_13 : decode cX3_countDisagreements 13 = .ok (.istore_n 3, 1) := by decide +kernel
theorem dX3_countDisagreements_14 : decode cX3_countDisagreements 14 = .ok (.iload_n 3, 1) := by decide +kernel
theorem dX3_countDisagreements_15 : decode cX3_countDisagreements 15 = .ok (.bipush 8, 2) := by decide +kernel
theorem dX3_countDisagreements_17 : decode cX3_countDisagreements 17 = .ok (.if_icmp .ge 33, 3) := by decide +kernel
theorem dX3_countDisagreements_20 : decode cX3_countDisagreements 20 = .ok (.aload_n 0, 1) := by decide +kernel
theorem dX3_countDisagreements_21 : decode cX3_countDisagreements 21 = .ok (.getfield 12, 3) := by decide +kernel
theorem dX3_countDisagreements_24 : decode cX3_countDisagreements 24 = .ok (.iload_n 2, 1) := by decide +kernel
theorem dX3_countDisagreements_25 : decode cX3_countDisagreements 25 = .ok (.iload_n 3, 1) := by decide +kernel
theorem dX3_countDisagreements_26 : decode cX3_countDisagreements 26 = .ok (.invokevirtual 47, 3) := by decide +kernel
theorem dX3_countDisagreements_29 : decode cX3_countDisagreements 29 = .ok (.ifCond .eq 15, 3) := by decide +kernel
theorem dX3_countDisagreements_32 : decode cX3_countDisagreements 32 = .ok (.iload_n 1, 1) := by decide +kernel
theorem dX3_countDisagreements_33 : decode cX3_countDisagreements 33 = .ok (.aload_n 0, 1) := by decide +kernel
theorem dX3_countDisagreements_34 : decode cX3_countDisagreements 34 = .ok (.getfield 21, 3) := by decide +kernel
theorem dX3_countDisagreements_37 : decode cX3_countDisagreements 37 = .ok (.iload_n 2, 1) := by decide +kernel
theorem dX3_countDisagreements_38 : decode cX3_countDisagreements 38 = .ok (.iload_n 3, 1) := by decide +kernel
theorem dX3_countDisagreements_39 : decode cX3_countDisagreements 39 = .ok (.invokevirtual 126, 3) := by decide +kernel
theorem dX3_countDisagreements_42 : decode cX3_countDisagreements 42 = .ok (.iadd, 1) := by decide +kernel
theorem dX3_countDisagreements_43 : decode cX3_countDisagreements 43 = .ok (.istore_n 1, 1) := by decide +kernel
theorem dX3_countDisagreements_44 : decode cX3_countDisagreements 44 = .ok (.iinc 3 1, 3) := by decide +kernel
theorem dX3_countDisagreements_47 : decode cX3_countDisagreements 47 = .ok (.goto (-33), 3) := by decide +kernel
theorem dX3_countDisagreements_50 : decode cX3_countDisagreements 50 = .ok (.iinc 2 1, 3) := by decide +kernel
theorem dX3_countDisagreements_53 : decode cX3_countDisagreements 53 = .ok (.goto (-49), 3) := by decide +kernel
theorem dX3_countDisagreements_56 : decode cX3_countDisagreements 56 = .ok (.iload_n 1, 1) := by decide +kernel
theorem dX3_countDisagreements_57 : decode cX3_countDisagreements 57 = .ok (.ireturn, 1) := by decide +kernel
set_option maxRecDepth 20000 in
theorem ggX3_copyFrom_X2_copyFrom : GoodIn wsX3_copyFrom wsX2_copyFrom := goodIn_ca (goodIn_r _ [12, 13, 14, 15, 16, 43, 44, 45, 46] (by decide +kernel) (by decide +kernel)) (goodIn_sub (fun _ h => List.mem_cons_of_mem _ (List.mem_append_right _ h)) (by decide +kernel))
set_option maxRecDepth 20000 in
theorem gX3_copyFrom_X2_copyFrom : GoodIn wsX3_copyFrom (wsV RX3 129 RX2 yX2_copyFrom wsX2_copyFrom) := goodIn_app (goodIn_of _ (by decide +kernel)) ggX3_copyFrom_X2_copyFrom
set_option maxRecDepth 20000 in
theorem ggX3_copyFrom_X1_copyFrom : GoodIn wsX3_copyFrom wsX1_copyFrom := goodIn_r _ [21, 22, 23, 24, 25, 26, 27, 28, 29, 30, 31, 32, 33, 34, 35, 47, 48, 49, 50, 51, 52, 53, 54, 55, 56] (by decide +kernel) (by decide +kernel)
set_option maxRecDepth 20000 in
theorem gX3_copyFrom_X1_copyFrom : GoodIn wsX3_copyFrom (wsV RX3 133 RX1 yX1_copyFrom wsX1_copyFrom) := goodIn_app (goodIn_of _ (by decide +kernel)) ggX3_copyFrom_X1_copyFrom
theorem dX3_copyFrom_0 : decode cX3_copyFrom 0 = .ok (.aload_n 0, 1) := by decide +kernel
theorem dX3_copyFrom_1 : decode cX3_copyFrom 1 = .ok (.getfield 12, 3) := by decide +kernel
theorem dX3_copyFrom_4 : decode cX3_copyFrom 4 = .ok (.aload_n 1, 1) := by decide +kernel
theorem dX3_copyFrom_5 : decode cX3_copyFrom 5 = .ok (.getfield 12, 3) := by decide +kernel
theorem dX3_copyFrom_8 : decode cX3_copyFrom 8 = .ok (.invokevirtual 129, 3) := by decide +kernel
theorem dX3_copyFrom_11 : decode cX3_copyFrom 11 = .ok (.aload_n 0, 1) := by decide +kernel
theorem dX3_copyFrom_12 : decode cX3_copyFrom 12 = .ok (.getfield 21, 3) := by decide +kernel
theorem dX3_copyFrom_15 : decode cX3_copyFrom 15 = .ok (.aload_n 1, 1) := by decide +kernel
theorem dX3_copyFrom_16 : decode cX3_copyFrom 16 = .ok (.getfield 21, 3) := by decide +kernel
theorem dX3_copyFrom_19 : decode cX3_copyFrom 19 = .ok (.invokevirtual 133, 3) := by decide +kernel
theorem dX3_copyFrom_22 : decode cX3_copyFrom 22 = .ok (.aload_n 0, 1) := by decide +kernel
theorem dX3_copyFrom_23 : decode cX3_copyFrom 23 = .ok (.aload_n 1, 1) := by decide +kernel
theorem dX3_copyFrom_24 : decode cX3_copyFrom 24 = .ok (.getfield 25, 3) := by decide +kernel
theorem dX3_copyFrom_27 : decode cX3_copyFrom 27 = .ok (.putfield 25, 3) := by decide +kernel
theorem dX3_copyFrom_30 : decode cX3_copyFrom 30 = .ok (.aload_n 0, 1) := by decide +kernel
theorem dX3_copyFrom_31 : decode cX3_copyFrom 31 = .ok (.aload_n 1, 1) := by decide +kernel
theorem dX3_copyFrom_32 : decode cX3_copyFrom 32 = .ok (.getfield 29, 3) := by decide +kernel
theorem dX3_copyFrom_35 : decode cX3_copyFrom 35 = .ok (.putfield 29, 3) := by decide +kernel
theorem dX3_copyFrom_38 : decode cX3_copyFrom 38 = .ok (.aload_n 0, 1) := by decide +kernel
theorem dX3_copyFrom_39 : decode cX3_copyFrom 39 = .ok (.aload_n 1, 1) := by decide +kernel
theorem dX3_copyFrom_40 : decode cX3_copyFrom 40 = .ok (.getfield 94, 3) := by decide +kernel
theorem dX3_copyFrom_43 : decode cX3_copyFrom 43 = .ok (.putfield 94, 3) := by decide +kernel
theorem dX3_copyFrom_46 : decode cX3_copyFrom 46 = .ok (.aload_n 0, 1) := by decide +kernel
theorem dX3_copyFrom_47 : decode cX3_copyFrom 47 = .ok (.aload_n 1, 1) := by decide +kernel
theorem dX3_copyFrom_48 : decode cX3_copyFrom 48 = .ok (.getfield 97, 3) := by decide +kernel
theorem dX3_copyFrom_51 : decode cX3_copyFrom 51 = .ok (.putfield 97, 3) := by decide +kernel
theorem dX3_copyFrom_54 : decode cX3_copyFrom 54 = .ok (.aload_n 0, 1) := by decide +kernel
theorem dX3_copyFrom_55 : decode cX3_copyFrom 55 = .ok (.aload_n 1, 1) := by decide +kernel
theorem dX3_copyFrom_56 : decode cX3_copyFrom 56 = .ok (.getfield 117, 3) := by decide +kernel
theorem dX3_copyFrom_59 : decode cX3_copyFrom 59 = .ok (.putfield 117, 3) := by decide +kernel
theorem dX3_copyFrom_62 : decode cX3_copyFrom 62 = .ok (.return_, 1) := by decide +kernel
set_option maxRecDepth 20000 in
theorem ggX4_init_X3_init : GoodIn wsX4_init wsX3_init := goodIn_r _ [15, 16, 2, 3, 17, 18, 19, 20, 21, 22, 23, 24, 25, 26, 27, 28, 29, 30, 31, 32, 33, 34, 35, 36, 37, 38, 39, 40, 41, 42, 43, 44, 45, 66, 67, 68, 69, 51, 52, 53, 54, 55, 56, 57, 70, 71, 72, 73, 74, 75, 76, 77, 78, 79] (by decide +kernel) (by decide +kernel)
set_option maxRecDepth 20000 in
theorem gX4_init_X3_init_n9 : GoodIn wsX4_init (wsX3_init) := ggX4_init_X3_init
set_option maxRecDepth 20000 in
theorem ggX4_init_X0_init : GoodIn wsX4_init wsX0_init := goodIn_r _ [47, 48, 2, 3, 49, 50, 64, 65] (by decide +kernel) (by decide +kernel)
set_option maxRecDepth 20000 in
theorem gX4_init_X0_init_n21 : GoodIn wsX4_init (wsX0_init) := ggX4_init_X0_init
theorem dX4_init_0 : decode cX4_init 0 = .ok (.aload_n 0, 1) := by decide +kernel
theorem dX4_init_1 : decode cX4_init 1 = .ok (.invokespecial 1, 3) := by decide +kernel
theorem dX4_init_4 : decode cX4_init 4 = .ok (.aload_n 0, 1) := by decide +kernel
theorem dX4_init_5 : decode cX4_init 5 = .ok (.new 7, 3) := by decide +kernel
theorem dX4_init_8 : decode cX4_init 8 = .ok (.dup, 1) := by decide +kernel
theorem dX4_init_9 : decode cX4_init 9 = .ok (.invokespecial 9, 3) := by decide +kernel
theorem dX4_init_12 : decode cX4_init 12 = .ok (.putfield 10, 3) := by decide +kernel
theorem dX4_init_15 : decode cX4_init 15 = .ok (.aload_n 0, 1) := by decide +kernel
theorem dX4_init_16 : decode cX4_init 16 = .ok (.new 7, 3) := by decide +kernel
theorem dX4_init_19 : decode cX4_init 19 = .ok (.dup, 1) := by decide +kernel
theorem dX4_init_20 : decode cX4_init 20 = .ok (.invokespecial 9, 3) := by decide +kernel
theorem dX4_init_23 : decode cX4_init 23 = .ok (.putfield 16, 3) := by decide +kernel
theorem dX4_init_26 : decode cX4_init 26 = .ok (.aload_n 0, 1) := by decide +kernel
theorem dX4_init_27 : decode cX4_init 27 = .ok (.new 19, 3) := by decide +kernel
theorem dX4_init_30 : decode cX4_init 30 = .ok (.dup, 1) := by decide +kernel
theorem dX4_init_31 : decode cX4_init 31 = .ok (.invokespecial 21, 3) := by decide +kernel
theorem dX4_init_34 : decode cX4_init 34 = .ok (.putfield 22, 3) := by decide +kernel
theorem dX4_init_37 : decode cX4_init 37 = .ok (.aload_n 0, 1) := by decide +kernel
theorem dX4_init_38 : decode cX4_init 38 = .ok (.iconst 0, 1) := by decide +kernel
theorem dX4_init_39 : decode cX4_init 39 = .ok (.putfield 26, 3) := by decide +kernel
theorem dX4_init_42 : decode cX4_init 42 = .ok (.return_, 1) := by decide +kernel
theorem dX4_setPatience_0 : decode cX4_setPatience 0 = .ok (.iload_n 1, 1) := by decide +kernel
theorem dX4_setPatience_1 : decode cX4_setPatience 1 = .ok (.iconst 1, 1) := by decide +kernel
theorem dX4_setPatience_2 : decode cX4_setPatience 2 = .ok (.if_icmp .lt 9, 3) := by decide +kernel
theorem dX4_setPatience_5 : decode cX4_setPatience 5 = .ok (.iload_n 1, 1) := by decide +kernel
theorem dX4_setPatience_6 : decode cX4_setPatience 6 = .ok (.bipush 20, 2) := by decide +kernel
theorem dX4_setPatience_8 : decode cX4_setPatience 8 = .ok (.if_icmp .le 13, 3) := by decide +kernel
theorem dX4_setPatience_11 : decode cX4_setPatience 11 = .ok (.new 30, 3) := by decide +kernel
theorem dX4_setPatience_14 : decode cX4_setPatience 14 = .ok (.dup, 1) := by decide +kernel
theorem dX4_setPatience_15 : decode cX4_setPatience 15 = .ok (.ldc 32, 2) := by decide +kernel
theorem dX4_setPatience_17 : decode cX4_setPatience 17 = .ok (.invokespecial 34, 3) := by decide +kernel
theorem dX4_setPatience_20 : decode cX4_setPatience 20 = .ok (.athrow, 1) := by decide +kernel
theorem dX4_setPatience_21 : decode cX4_setPatience 21 = .ok (.aload_n 0, 1) := by decide +kernel
theorem dX4_setPatience_22 : decode cX4_setPatience 22 = .ok (.getfield 10, 3) := by decide +kernel
theorem dX4_setPatience_25 : decode cX4_setPatience 25 = .ok (.getfield 37, 3) := by decide +kernel
theorem dX4_setPatience_28 : decode cX4_setPatience 28 = .ok (.getfield 41, 3) := by decide +kernel
theorem dX4_setPatience_31 : decode cX4_setPatience 31 = .ok (.istore_n 2, 1) := by decide +kernel
theorem dX4_setPatience_32 : decode cX4_setPatience 32 = .ok (.aload_n 0, 1) := by decide +kernel
theorem dX4_setPatience_33 : decode cX4_setPatience 33 = .ok (.getfield 10, 3) := by decide +kernel
theorem dX4_setPatience_36 : decode cX4_setPatience 36 = .ok (.getfield 37, 3) := by decide +kernel
theorem dX4_setPatience_39 : decode cX4_setPatience 39 = .ok (.iload_n 1, 1) := by decide +kernel
theorem dX4_setPatience_40 : decode cX4_setPatience 40 = .ok (.putfield 41, 3) := by decide +kernel
theorem dX4_setPatience_43 : decode cX4_setPatience 43 = .ok (.iload_n 2, 1) := by decide +kernel
theorem dX4_setPatience_44 : decode cX4_setPatience 44 = .ok (.ireturn, 1) := by decide +kernel
theorem dX4_setFanOut_0 : decode cX4_setFanOut 0 = .ok (.iload_n 1, 1) := by decide +kernel
theorem dX4_setFanOut_1 : decode cX4_setFanOut 1 = .ok (.iconst 1, 1) := by decide +kernel
theorem dX4_setFanOut_2 : decode cX4_setFanOut 2 = .ok (.if_icmp .lt 9, 3) := by decide +kernel
theorem dX4_setFanOut_5 : decode cX4_setFanOut 5 = .ok (.iload_n 1, 1) := by decide +kernel
theorem dX4_setFanOut_6 : decode cX4_setFanOut 6 = .ok (.bipush 9, 2) := by decide +kernel
theorem dX4_setFanOut_8 : decode cX4_setFanOut 8 = .ok (.if_icmp .le 13, 3) := by decide +kernel
theorem dX4_setFanOut_11 : decode cX4_setFanOut 11 = .ok (.new 30, 3) := by decide +kernel
theorem dX4_setFanOut_14 : decode cX4_setFanOut 14 = .ok (.dup, 1) := by decide +kernel
theorem dX4_setFanOut_15 : decode cX4_setFanOut 15 = .ok (.ldc 46, 2) := by decide +kernel
theorem dX4_setFanOut_17 : decode cX4_setFanOut 17 = .ok (.invokespecial 34, 3) := by decide +kernel
theorem dX4_setFanOut_20 : decode cX4_setFanOut 20 = .ok (.athrow, 1) := by decide +kernel
theorem dX4_setFanOut_21 : decode cX4_setFanOut 21 = .ok (.aload_n 0, 1) := by decide +kernel
theorem dX4_setFanOut_22 : decode cX4_setFanOut 22 = .ok (.getfield 10, 3) := by decide +kernel
theorem dX4_setFanOut_25 : decode cX4_setFanOut 25 = .ok (.getfield 37, 3) := by decide +kernel
theorem dX4_setFanOut_28 : decode cX4_setFanOut 28 = .ok (.getfield 48, 3) := by decide +kernel
theorem dX4_setFanOut_31 : decode cX4_setFanOut 31 = .ok (.istore_n 2, 1) := by decide +kernel
theorem dX4_setFanOut_32 : decode cX4_setFanOut 32 = .ok (.aload_n 0, 1) := by decide +kernel
theorem dX4_setFanOut_33 : decode cX4_setFanOut 33 = .ok (.getfield 10, 3) := by decide +kernel
theorem dX4_setFanOut_36 : decode cX4_setFanOut 36 = .ok (.getfield 37, 3) := by decide +kernel
theorem dX4_setFanOut_39 : decode cX4_setFanOut 39 = .ok (.iload_n 1, 1) := by decide +kernel
theorem dX4_setFanOut_40 : decode cX4_setFanOut 40 = .ok (.putfield 48, 3) := by decide +kernel
theorem dX4_setFanOut_43 : decode cX4_setFanOut 43 = .ok (.iload_n 2, 1) := by decide +kernel
theorem dX4_setFanOut_44 : decode cX4_setFanOut 44 = .ok (.ireturn, 1) := by decide +kernel
theorem dX4_setHelpers_0 : decode cX4_setHelpers 0 = .ok (.iload_n 1, 1) := by decide +kernel
theorem dX4_setHelpers_1 : decode cX4_setHelpers 1 = .ok (.ifCond .lt 8, 3) := by decide +kernel
theorem dX4_setHelpers_4 : decode cX4_setHelpers 4 = .ok (.iload_n 1, 1) := by decide +kernel
theorem dX4_setHelpers_5 : decode cX4_setHelpers 5 = .ok (.iconst 3, 1) := by decide +kernel
theorem dX4_setHelpers_6 : decode cX4_setHelpers 6 = .ok (.if_icmp .le 13, 3) := by decide +kernel
theorem dX4_setHelpers_9 : decode cX4_setHelpers 9 = .ok (.new 30, 3) := by decide +kernel
theorem dX4_setHelpers_12 : decode cX4_setHelpers 12 = .ok (.dup, 1) := by decide +kernel
theorem dX4_setHelpers_13 : decode cX4_setHelpers 13 = .ok (.ldc 51, 2) := by decide +kernel
theorem dX4_setHelpers_15 : decode cX4_setHelpers 15 = .ok (.invokespecial 34, 3) := by decide +kernel
theorem dX4_setHelpers_18 : decode cX4_setHelpers 18 = .ok (.athrow, 1) := by decide +kernel
theorem dX4_setHelpers_19 : decode cX4_setHelpers 19 = .ok (.aload_n 0, 1) := by decide +kernel
theorem dX4_setHelpers_20 : decode cX4_setHelpers 20 = .ok (.getfield 10, 3) := by decide +kernel
theorem dX4_setHelpers_23 : decode cX4_setHelpers 23 = .ok (.getfield 53, 3) := by decide +kernel
theorem dX4_setHelpers_26 : decode cX4_setHelpers 26 = .ok (.istore_n 2, 1) := by decide +kernel
theorem dX4_setHelpers_27 : decode cX4_setHelpers 27 = .ok (.aload_n 0, 1) := by decide +kernel
theorem dX4_setHelpers_28 : decode cX4_setHelpers 28 = .ok (.getfield 10, 3) := by decide +kernel
theorem dX4_setHelpers_31 : decode cX4_setHelpers 31 = .ok (.iload_n 1, 1) := by decide +kernel
theorem dX4_setHelpers_32 : decode cX4_setHelpers 32 = .ok (.putfield 53, 3) := by decide +kernel
theorem dX4_setHelpers_35 : decode cX4_setHelpers 35 = .ok (.iload_n 2, 1) := by decide +kernel
theorem dX4_setHelpers_36 : decode cX4_setHelpers 36 = .ok (.ireturn, 1) := by decide +kernel
theorem dX4_setSeed_0 : decode cX4_setSeed 0 = .ok (.iload_n 1, 1) := by decide +kernel
theorem dX4_setSeed_1 : decode cX4_setSeed 1 = .ok (.ifCond .ge 13, 3) := by decide +kernel
theorem dX4_setSeed_4 : decode cX4_setSeed 4 = .ok (.new 30, 3) := by decide +kernel
theorem dX4_setSeed_7 : decode cX4_setSeed 7 = .ok (.dup, 1) := by decide +kernel
theorem dX4_setSeed_8 : decode cX4_setSeed 8 = .ok (.ldc 56, 2) := by decide +kernel
theorem dX4_setSeed_10 : decode cX4_setSeed 10 = .ok (.invokespecial 34, 3) := by decide +kernel
theorem dX4_setSeed_13 : decode cX4_setSeed 13 = .ok (.athrow, 1) := by decide +kernel
theorem dX4_setSeed_14 : decode cX4_setSeed 14 = .ok (.aload_n 0, 1) := by decide +kernel
theorem dX4_setSeed_15 : decode cX4_setSeed 15 = .ok (.getfield 10, 3) := by decide +kernel
theorem dX4_setSeed_18 : decode cX4_setSeed 18 = .ok (.getfield 58, 3) := by decide +kernel
theorem dX4_setSeed_21 : decode cX4_setSeed 21 = .ok (.istore_n 2, 1) := by decide +kernel
theorem dX4_setSeed_22 : decode cX4_setSeed 22 = .ok (.aload_n 0, 1) := by decide +kernel
theorem dX4_setSeed_23 : decode cX4_setSeed 23 = .ok (.getfield 10, 3) := by decide +kernel
theorem dX4_setSeed_26 : decode cX4_setSeed 26 = .ok (.iload_n 1, 1) := by decide +kernel
theorem dX4_setSeed_27 : decode cX4_setSeed 27 = .ok (.putfield 58, 3) := by decide +kernel
theorem dX4_setSeed_30 : decode cX4_setSeed 30 = .ok (.iload_n 2, 1) := by decide +kernel
theorem dX4_setSeed_31 : decode cX4_setSeed 31 = .ok (.ireturn, 1) := by decide +kernel
theorem dX4_seed_0 : decode cX4_seed 0 = .ok (.aload_n 0, 1) := by decide +kernel
theorem dX4_seed_1 : decode cX4_seed 1 = .ok (.getfield 10, 3) := by decide +kernel
theorem dX4_seed_4 : decode cX4_seed 4 = .ok (.getfield 58, 3) := by decide +kernel
theorem dX4_seed_7 : decode cX4_seed 7 = .ok (.ireturn, 1) := by decide +kernel
set_option maxRecDepth 20000 in
theorem ggX4_join_X4_requireNode : GoodIn wsX4_join wsX4_requireNode := goodIn_ca (goodIn_r _ [13, 14, 15] (by decide +kernel) (by decide +kernel)) (goodIn_sub (fun _ h => List.mem_cons_of_mem _ (List.mem_append_right _ h)) (by decide +kernel))
set_option maxRecDepth 20000 in
theorem gX4_join_X4_requireNode : GoodIn wsX4_join (va_wsS RX4 61 yX4_requireNode wsX4_requireNode) := goodIn_app (goodIn_of _ (by decide +kernel)) ggX4_join_X4_requireNode
set_option maxRecDepth 20000 in
theorem ggX4_join_X2_wouldConnect : GoodIn wsX4_join wsX2_wouldConnect := goodIn_ca (goodIn_r _ [20, 21, 22, 23, 24, 12, 25, 98, 99, 100, 101] (by decide +kernel) (by decide +kernel)) (goodIn_sub (fun _ h => List.mem_cons_of_mem _ (List.mem_append_left _ (List.mem_append_left _ (List.mem_append_left _ (List.mem_append_right _ h))))) (by decide +kernel))
set_option maxRecDepth 20000 in
theorem gX4_join_X2_wouldConnect : GoodIn wsX4_join (wsV RX4 80 RX2 yX2_wouldConnect wsX2_wouldConnect) := goodIn_app (goodIn_of _ (by decide +kernel)) ggX4_join_X2_wouldConnect
set_option maxRecDepth 20000 in
theorem ggX4_join_X3_admit : GoodIn wsX4_join wsX3_admit := goodIn_ca (goodIn_r _ [30, 31, 32, 33, 34, 35, 36, 37, 38, 39, 40, 41, 42, 43, 44, 24, 12, 25, 45, 46, 47, 19, 48, 21, 49, 17, 18, 20, 22, 23, 50, 51, 52, 29, 53, 54, 55, 56, 57, 58, 59, 60, 61, 62, 63, 64, 65, 66, 67, 68, 69, 70, 71, 72, 73, 74, 75, 76, 77, 78, 79, 80, 81, 82, 83, 91, 92, 93, 94, 95, 96, 97, 98, 99, 100, 101, 102, 103, 104, 105, 106, 107, 108, 109, 110, 111] (by decide +kernel) (by decide +kernel)) (goodIn_sub (fun _ h => List.mem_cons_of_mem _ (List.mem_append_left _ (List.mem_append_left _ (List.mem_append_left _ (List.mem_append_right _ h))))) (by decide +kernel))
set_option maxRecDepth 20000 in
theorem gX4_join_X3_admit : GoodIn wsX4_join (wsV RX4 86 RX3 yX3_admit wsX3_admit) := goodIn_app (goodIn_of _ (by decide +kernel)) ggX4_join_X3_admit
set_option maxRecDepth 20000 in
theorem ggX4_join_X1_endQuiet : GoodIn wsX4_join wsX1_endQuiet := goodIn_r _ [82, 77, 83, 102, 103, 104, 105, 106, 107, 108, 109, 110, 111] (by decide +kernel) (by decide +kernel)
set_option maxRecDepth 20000 in
theorem gX4_join_X1_endQuiet : GoodIn wsX4_join (wsV RX4 90 RX1 yX1_endQuiet wsX1_endQuiet) := goodIn_app (goodIn_of _ (by decide +kernel)) ggX4_join_X1_endQuiet
theorem dX4_join_0 : decode cX4_join 0 = .ok (.iload_n 1, 1) := by decide +kernel
theorem dX4_join_1 : decode cX4_join 1 = .ok (.invokestatic 61, 3) := by decide +kernel
theorem dX4_join_4 : decode cX4_join 4 = .ok (.iload_n 2, 1) := by decide +kernel
theorem dX4_join_5 : decode cX4_join 5 = .ok (.invokestatic 61, 3) := by decide +kernel
theorem dX4_join_8 : decode cX4_join 8 = .ok (.aload_n 0, 1) := by decide +kernel
theorem dX4_join_9 : decode cX4_join 9 = .ok (.getfield 10, 3) := by decide +kernel
theorem dX4_join_12 : decode cX4_join 12 = .ok (.getfield 65, 3) := by decide +kernel
theorem dX4_join_15 : decode cX4_join 15 = .ok (.getfield 69, 3) := by decide +kernel
theorem dX4_join_18 : decode cX4_join 18 = .ok (.iload_n 1, 1) := by decide +kernel
theorem dX4_join_19 : decode cX4_join 19 = .ok (.baload, 1) := by decide +kernel
theorem dX4_join_20 : decode cX4_join 20 = .ok (.ifCond .eq 13, 3) := by decide +kernel
theorem dX4_join_23 : decode cX4_join 23 = .ok (.new 75, 3) := by decide +kernel
theorem dX4_join_26 : decode cX4_join 26 = .ok (.dup, 1) := by decide +kernel
theorem dX4_join_27 : decode cX4_join 27 = .ok (.ldc 77, 2) := by decide +kernel
theorem dX4_join_29 : decode cX4_join 29 = .ok (.invokespecial 79, 3) := by decide +kernel
theorem dX4_join_32 : decode cX4_join 32 = .ok (.athrow, 1) := by decide +kernel
theorem dX4_join_33 : decode cX4_join 33 = .ok (.iload_n 2, 1) := by decide +kernel
theorem dX4_join_34 : decode cX4_join 34 = .ok (.iload_n 1, 1) := by decide +kernel
theorem dX4_join_35 : decode cX4_join 35 = .ok (.if_icmp .eq 28, 3) := by decide +kernel
theorem dX4_join_38 : decode cX4_join 38 = .ok (.aload_n 0, 1) := by decide +kernel
theorem dX4_join_39 : decode cX4_join 39 = .ok (.getfield 10, 3) := by decide +kernel
theorem dX4_join_42 : decode cX4_join 42 = .ok (.getfield 65, 3) := by decide +kernel
theorem dX4_join_45 : decode cX4_join 45 = .ok (.iload_n 1, 1) := by decide +kernel
theorem dX4_join_46 : decode cX4_join 46 = .ok (.iload_n 2, 1) := by decide +kernel
theorem dX4_join_47 : decode cX4_join 47 = .ok (.invokevirtual 80, 3) := by decide +kernel
theorem dX4_join_50 : decode cX4_join 50 = .ok (.ifCond .ne 13, 3) := by decide +kernel
theorem dX4_join_53 : decode cX4_join 53 = .ok (.new 30, 3) := by decide +kernel
theorem dX4_join_56 : decode cX4_join 56 = .ok (.dup, 1) := by decide +kernel
theorem dX4_join_57 : decode cX4_join 57 = .ok (.ldc 84, 2) := by decide +kernel
theorem dX4_join_59 : decode cX4_join 59 = .ok (.invokespecial 34, 3) := by decide +kernel
theorem dX4_join_62 : decode cX4_join 62 = .ok (.athrow, 1) := by decide +kernel
theorem dX4_join_63 : decode cX4_join 63 = .ok (.aload_n 0, 1) := by decide +kernel
theorem dX4_join_64 : decode cX4_join 64 = .ok (.getfield 10, 3) := by decide +kernel
theorem dX4_join_67 : decode cX4_join 67 = .ok (.iload_n 1, 1) := by decide +kernel
theorem dX4_join_68 : decode cX4_join 68 = .ok (.iload_n 2, 1) := by decide +kernel
theorem dX4_join_69 : decode cX4_join 69 = .ok (.invokevirtual 86, 3) := by decide +kernel
theorem dX4_join_72 : decode cX4_join 72 = .ok (.aload_n 0, 1) := by decide +kernel
theorem dX4_join_73 : decode cX4_join 73 = .ok (.getfield 10, 3) := by decide +kernel
theorem dX4_join_76 : decode cX4_join 76 = .ok (.getfield 37, 3) := by decide +kernel
theorem dX4_join_79 : decode cX4_join 79 = .ok (.invokevirtual 90, 3) := by decide +kernel
theorem dX4_join_82 : decode cX4_join 82 = .ok (.aload_n 0, 1) := by decide +kernel
theorem dX4_join_83 : decode cX4_join 83 = .ok (.getfield 10, 3) := by decide +kernel
theorem dX4_join_86 : decode cX4_join 86 = .ok (.getfield 37, 3) := by decide +kernel
theorem dX4_join_89 : decode cX4_join 89 = .ok (.getfield 93, 3) := by decide +kernel
theorem dX4_join_92 : decode cX4_join 92 = .ok (.iload_n 1, 1) := by decide +kernel
theorem dX4_join_93 : decode cX4_join 93 = .ok (.iaload, 1) := by decide +kernel
theorem dX4_join_94 : decode cX4_join 94 = .ok (.ireturn, 1) := by decide +kernel
set_option maxRecDepth 20000 in
theorem ggX4_crash_X4_requireNode : GoodIn wsX4_crash wsX4_requireNode := goodIn_ca (goodIn_r _ [10, 11, 12] (by decide +kernel) (by decide +kernel)) (goodIn_sub (fun _ h => List.mem_cons_of_mem _ (List.mem_append_right _ h)) (by decide +kernel))
set_option maxRecDepth 20000 in
theorem gX4_crash_X4_requireNode : GoodIn wsX4_crash (va_wsS RX4 61 yX4_requireNode wsX4_requireNode) := goodIn_app (goodIn_of _ (by decide +kernel)) ggX4_crash_X4_requireNode
set_option maxRecDepth 20000 in
theorem ggX4_crash_X1_endQuiet : GoodIn wsX4_crash wsX1_endQuiet := goodIn_r _ [17, 18, 19, 43, 44, 45, 46, 47, 48, 49, 50, 51, 52] (by decide +kernel) (by decide +kernel)
set_option maxRecDepth 20000 in
theorem gX4_crash_X1_endQuiet : GoodIn wsX4_crash (wsV RX4 90 RX1 yX1_endQuiet wsX1_endQuiet) := goodIn_app (goodIn_of _ (by decide +kernel)) ggX4_crash_X1_endQuiet
set_option maxRecDepth 20000 in
theorem ggX4_crash_X2_countUp : GoodIn wsX4_crash wsX2_countUp := goodIn_ca (goodIn_r _ [24, 25, 39, 40, 41, 42] (by decide +kernel) (by decide +kernel)) (goodIn_sub (fun _ h => List.mem_cons_of_mem _ (List.mem_append_left _ (List.mem_append_left _ (List.mem_append_right _ h)))) (by decide +kernel))
set_option maxRecDepth 20000 in
theorem gX4_crash_X2_countUp : GoodIn wsX4_crash (wsV RX4 99 RX2 yX2_countUp wsX2_countUp) := goodIn_app (goodIn_of _ (by decide +kernel)) ggX4_crash_X2_countUp
theorem dX4_crash_0 : decode cX4_crash 0 = .ok (.iload_n 1, 1) := by decide +kernel
theorem dX4_crash_1 : decode cX4_crash 1 = .ok (.invokestatic 61, 3) := by decide +kernel
theorem dX4_crash_4 : decode cX4_crash 4 = .ok (.aload_n 0, 1) := by decide +kernel
theorem dX4_crash_5 : decode cX4_crash 5 = .ok (.getfield 10, 3) := by decide +kernel
theorem dX4_crash_8 : decode cX4_crash 8 = .ok (.getfield 65, 3) := by decide +kernel
theorem dX4_crash_11 : decode cX4_crash 11 = .ok (.getfield 69, 3) := by decide +kernel
theorem dX4_crash_14 : decode cX4_crash 14 = .ok (.iload_n 1, 1) := by decide +kernel
theorem dX4_crash_15 : decode cX4_crash 15 = .ok (.baload, 1) := by decide +kernel
theorem dX4_crash_16 : decode cX4_crash 16 = .ok (.ifCond .ne 13, 3) := by decide +kernel
theorem dX4_crash_19 : decode cX4_crash 19 = .ok (.new 75, 3) := by decide +kernel
theorem dX4_crash_22 : decode cX4_crash 22 = .ok (.dup, 1) := by decide +kernel
theorem dX4_crash_23 : decode cX4_crash 23 = .ok (.ldc 97, 2) := by decide +kernel
theorem dX4_crash_25 : decode cX4_crash 25 = .ok (.invokespecial 79, 3) := by decide +kernel
theorem dX4_crash_28 : decode cX4_crash 28 = .ok (.athrow, 1) := by decide +kernel
theorem dX4_crash_29 : decode cX4_crash 29 = .ok (.aload_n 0, 1) := by decide +kernel
theorem dX4_crash_30 : decode cX4_crash 30 = .ok (.getfield 10, 3) := by decide +kernel
theorem dX4_crash_33 : decode cX4_crash 33 = .ok (.getfield 65, 3) := by decide +kernel
theorem dX4_crash_36 : decode cX4_crash 36 = .ok (.getfield 69, 3) := by decide +kernel
theorem dX4_crash_39 : decode cX4_crash 39 = .ok (.iload_n 1, 1) := by decide +kernel
theorem dX4_crash_40 : decode cX4_crash 40 = .ok (.iconst 0, 1) := by decide +kernel
theorem dX4_crash_41 : decode cX4_crash 41 = .ok (.bastore, 1) := by decide +kernel
theorem dX4_crash_42 : decode cX4_crash 42 = .ok (.aload_n 0, 1) := by decide +kernel
theorem dX4_crash_43 : decode cX4_crash 43 = .ok (.getfield 10, 3) := by decide +kernel
theorem dX4_crash_46 : decode cX4_crash 46 = .ok (.getfield 37, 3) := by decide +kernel
theorem dX4_crash_49 : decode cX4_crash 49 = .ok (.invokevirtual 90, 3) := by decide +kernel
theorem dX4_crash_52 : decode cX4_crash 52 = .ok (.aload_n 0, 1) := by decide +kernel
theorem dX4_crash_53 : decode cX4_crash 53 = .ok (.getfield 10, 3) := by decide +kernel
theorem dX4_crash_56 : decode cX4_crash 56 = .ok (.getfield 65, 3) := by decide +kernel
theorem dX4_crash_59 : decode cX4_crash 59 = .ok (.invokevirtual 99, 3) := by decide +kernel
theorem dX4_crash_62 : decode cX4_crash 62 = .ok (.ireturn, 1) := by decide +kernel
set_option maxRecDepth 20000 in
theorem ggX4_move_X4_requireNode : GoodIn wsX4_move wsX4_requireNode := goodIn_ca (goodIn_r _ [10, 11, 12] (by decide +kernel) (by decide +kernel)) (goodIn_sub (fun _ h => List.mem_cons_of_mem _ (List.mem_append_right _ h)) (by decide +kernel))
set_option maxRecDepth 20000 in
theorem gX4_move_X4_requireNode : GoodIn wsX4_move (va_wsS RX4 61 yX4_requireNode wsX4_requireNode) := goodIn_app (goodIn_of _ (by decide +kernel)) ggX4_move_X4_requireNode
set_option maxRecDepth 20000 in
theorem ggX4_move_X1_endQuiet : GoodIn wsX4_move wsX1_endQuiet := goodIn_r _ [17, 18, 19, 37, 38, 39, 40, 41, 42, 43, 44, 45, 46] (by decide +kernel) (by decide +kernel)
set_option maxRecDepth 20000 in
theorem gX4_move_X1_endQuiet : GoodIn wsX4_move (wsV RX4 90 RX1 yX1_endQuiet wsX1_endQuiet) := goodIn_app (goodIn_of _ (by decide +kernel)) ggX4_move_X1_endQuiet
theorem dX4_move_0 : decode cX4_move 0 = .ok (.iload_n 1, 1) := by decide +kernel
theorem dX4_move_1 : decode cX4_move 1 = .ok (.invokestatic 61, 3) := by decide +kernel
theorem dX4_move_4 : decode cX4_move 4 = .ok (.iload_n 2, 1) := by decide +kernel
theorem dX4_move_5 : decode cX4_move 5 = .ok (.ifCond .lt 8, 3) := by decide +kernel
theorem dX4_move_8 : decode cX4_move 8 = .ok (.iload_n 2, 1) := by decide +kernel
theorem dX4_move_9 : decode cX4_move 9 = .ok (.iconst 4, 1) := by decide +kernel
theorem dX4_move_10 : decode cX4_move 10 = .ok (.if_icmp .lt 13, 3) := by decide +kernel
theorem dX4_move_13 : decode cX4_move 13 = .ok (.new 30, 3) := by decide +kernel
theorem dX4_move_16 : decode cX4_move 16 = .ok (.dup, 1) := by decide +kernel
theorem dX4_move_17 : decode cX4_move 17 = .ok (.ldc 103, 2) := by decide +kernel
theorem dX4_move_19 : decode cX4_move 19 = .ok (.invokespecial 34, 3) := by decide +kernel
theorem dX4_move_22 : decode cX4_move 22 = .ok (.athrow, 1) := by decide +kernel
theorem dX4_move_23 : decode cX4_move 23 = .ok (.aload_n 0, 1) := by decide +kernel
theorem dX4_move_24 : decode cX4_move 24 = .ok (.getfield 10, 3) := by decide +kernel
theorem dX4_move_27 : decode cX4_move 27 = .ok (.getfield 65, 3) := by decide +kernel
theorem dX4_move_30 : decode cX4_move 30 = .ok (.getfield 105, 3) := by decide +kernel
theorem dX4_move_33 : decode cX4_move 33 = .ok (.iload_n 1, 1) := by decide +kernel
theorem dX4_move_34 : decode cX4_move 34 = .ok (.iaload, 1) := by decide +kernel
theorem dX4_move_35 : decode cX4_move 35 = .ok (.istore_n 3, 1) := by decide +kernel
theorem dX4_move_36 : decode cX4_move 36 = .ok (.aload_n 0, 1) := by decide +kernel
theorem dX4_move_37 : decode cX4_move 37 = .ok (.getfield 10, 3) := by decide +kernel
theorem dX4_move_40 : decode cX4_move 40 = .ok (.getfield 65, 3) := by decide +kernel
theorem dX4_move_43 : decode cX4_move 43 = .ok (.getfield 105, 3) := by decide +kernel
theorem dX4_move_46 : decode cX4_move 46 = .ok (.iload_n 1, 1) := by decide +kernel
theorem dX4_move_47 : decode cX4_move 47 = .ok (.iload_n 2, 1) := by decide +kernel
theorem dX4_move_48 : decode cX4_move 48 = .ok (.iastore, 1) := by decide +kernel
theorem dX4_move_49 : decode cX4_move 49 = .ok (.aload_n 0, 1) := by decide +kernel
theorem dX4_move_50 : decode cX4_move 50 = .ok (.getfield 10, 3) := by decide +kernel
theorem dX4_move_53 : decode cX4_move 53 = .ok (.getfield 37, 3) := by decide +kernel
theorem dX4_move_56 : decode cX4_move 56 = .ok (.invokevirtual 90, 3) := by decide +kernel
theorem dX4_move_59 : decode cX4_move 59 = .ok (.iload_n 3, 1) := by decide +kernel
theorem dX4_move_60 : decode cX4_move 60 = .ok (.ireturn, 1) := by decide +kernel
set_option maxRecDepth 20000 in
theorem ggX4_cut_X4_requireTwoNodes : GoodIn wsX4_cut wsX4_requireTwoNodes := goodIn_ca (goodIn_ca (goodIn_r _ [8, 9, 10, 11, 12, 7, 13, 14, 15] (by decide +kernel) (by decide +kernel)) (goodIn_sub (fun _ h => List.mem_cons_of_mem _ (List.mem_append_left _ (List.mem_append_right _ h))) (by decide +kernel))) (goodIn_sub (fun _ h => List.mem_cons_of_mem _ (List.mem_append_right _ h)) (by decide +kernel))
set_option maxRecDepth 20000 in
theorem gX4_cut_X4_requireTwoNodes : GoodIn wsX4_cut (va_wsS RX4 108 yX4_requireTwoNodes wsX4_requireTwoNodes) := goodIn_app (goodIn_of _ (by decide +kernel)) ggX4_cut_X4_requireTwoNodes
set_option maxRecDepth 20000 in
theorem ggX4_cut_X4_pair : GoodIn wsX4_cut wsX4_pair := goodIn_r _ [18] (by decide +kernel) (by decide +kernel)
set_option maxRecDepth 20000 in
theorem gX4_cut_X4_pair : GoodIn wsX4_cut (va_wsS RX4 114 yX4_pair wsX4_pair) := goodIn_app (goodIn_of _ (by decide +kernel)) ggX4_cut_X4_pair
set_option maxRecDepth 20000 in
theorem ggX4_cut_X2_setCut : GoodIn wsX4_cut wsX2_setCut := goodIn_ca (goodIn_r _ [23, 24, 17, 7, 18, 45, 46, 47, 48] (by decide +kernel) (by decide +kernel)) (goodIn_sub (fun _ h => List.mem_cons_of_mem _ (List.mem_append_left _ (List.mem_append_left _ (List.mem_append_right _ h)))) (by decide +kernel))
set_option maxRecDepth 20000 in
theorem gX4_cut_X2_setCut : GoodIn wsX4_cut (wsV RX4 118 RX2 yX2_setCut wsX2_setCut) := goodIn_app (goodIn_of _ (by decide +kernel)) ggX4_cut_X2_setCut
set_option maxRecDepth 20000 in
theorem ggX4_cut_X1_endQuiet : GoodIn wsX4_cut wsX1_endQuiet := goodIn_r _ [29, 30, 31, 49, 50, 51, 52, 53, 54, 55, 56, 57, 58] (by decide +kernel) (by decide +kernel)
set_option maxRecDepth 20000 in
theorem gX4_cut_X1_endQuiet : GoodIn wsX4_cut (wsV RX4 90 RX1 yX1_endQuiet wsX1_endQuiet) := goodIn_app (goodIn_of _ (by decide +kernel)) ggX4_cut_X1_endQuiet
theorem dX4_cut_0 : decode cX4_cut 0 = .ok (.iload_n 1, 1) := by decide +kernel
theorem dX4_cut_1 : decode cX4_cut 1 = .ok (.iload_n 2, 1) := by decide +kernel
theorem dX4_cut_2 : decode cX4_cut 2 = .ok (.invokestatic 108, 3) := by decide +kernel
theorem dX4_cut_5 : decode cX4_cut 5 = .ok (.aload_n 0, 1) := by decide +kernel
theorem dX4_cut_6 : decode cX4_cut 6 = .ok (.getfield 10, 3) := by decide +kernel
theorem dX4_cut_9 : decode cX4_cut 9 = .ok (.getfield 65, 3) := by decide +kernel
theorem dX4_cut_12 : decode cX4_cut 12 = .ok (.getfield 111, 3) := by decide +kernel
theorem dX4_cut_15 : decode cX4_cut 15 = .ok (.iload_n 1, 1) := by decide +kernel
theorem dX4_cut_16 : decode cX4_cut 16 = .ok (.iload_n 2, 1) := by decide +kernel
theorem dX4_cut_17 : decode cX4_cut 17 = .ok (.invokestatic 114, 3) := by decide +kernel
theorem dX4_cut_20 : decode cX4_cut 20 = .ok (.baload, 1) := by decide +kernel
theorem dX4_cut_21 : decode cX4_cut 21 = .ok (.istore 4, 2) := by decide +kernel
theorem dX4_cut_23 : decode cX4_cut 23 = .ok (.aload_n 0, 1) := by decide +kernel
theorem dX4_cut_24 : decode cX4_cut 24 = .ok (.getfield 10, 3) := by decide +kernel
theorem dX4_cut_27 : decode cX4_cut 27 = .ok (.getfield 65, 3) := by decide +kernel
theorem dX4_cut_30 : decode cX4_cut 30 = .ok (.iload_n 1, 1) := by decide +kernel
theorem dX4_cut_31 : decode cX4_cut 31 = .ok (.iload_n 2, 1) := by decide +kernel
theorem dX4_cut_32 : decode cX4_cut 32 = .ok (.iload_n 3, 1) := by decide +kernel
theorem dX4_cut_33 : decode cX4_cut 33 = .ok (.invokevirtual 118, 3) := by decide +kernel
theorem dX4_cut_36 : decode cX4_cut 36 = .ok (.aload_n 0, 1) := by decide +kernel
theorem dX4_cut_37 : decode cX4_cut 37 = .ok (.getfield 10, 3) := by decide +kernel
theorem dX4_cut_40 : decode cX4_cut 40 = .ok (.getfield 37, 3) := by decide +kernel
theorem dX4_cut_43 : decode cX4_cut 43 = .ok (.invokevirtual 90, 3) := by decide +kernel
theorem dX4_cut_46 : decode cX4_cut 46 = .ok (.iload 4, 2) := by decide +kernel
theorem dX4_cut_48 : decode cX4_cut 48 = .ok (.ireturn, 1) := by decide +kernel
set_option maxRecDepth 20000 in
theorem ggX4_rounds_X3_play : GoodIn wsX4_rounds wsX3_play := goodIn_ca (goodIn_ca (goodIn_r _ [10, 11, 12, 13, 14, 15, 16, 17, 9, 18, 19, 20, 21, 22, 23, 24, 25, 26, 27, 28, 29, 30, 31, 32, 33, 34, 35, 36, 37, 38, 39, 40, 41, 42, 43, 44, 45, 46, 47, 48, 49, 50, 51, 52, 53, 54, 55, 56, 57, 58, 59, 60, 61, 62, 63, 64, 65, 66, 67, 68, 69, 70, 71, 72, 73, 74, 75, 76, 77, 78, 79, 80, 81, 82, 83, 84, 85, 86, 87, 88, 89, 90, 91, 92, 93, 94, 95, 96, 97, 98, 99, 100, 101, 102, 103, 104, 105, 106, 107, 108, 109, 116, 117, 118, 119, 120, 121, 122, 123, 124, 125, 126, 127, 128, 129, 130, 131, 132, 133, 134, 135, 136] (by decide +kernel) (by decide +kernel)) (goodIn_sub (fun _ h => List.mem_cons_of_mem _ (List.mem_append_left _ (List.mem_append_right _ h))) (by decide +kernel))) (goodIn_sub (fun _ h => List.mem_cons_of_mem _ (List.mem_append_right _ h)) (by decide +kernel))
set_option maxRecDepth 20000 in
theorem gX4_rounds_X3_play : GoodIn wsX4_rounds (wsV RX4 124 RX3 yX3_play wsX3_play) := goodIn_app (goodIn_of _ (by decide +kernel)) ggX4_rounds_X3_play
theorem dX4_rounds_0 : decode cX4_rounds 0 = .ok (.iload_n 1, 1) := by decide +kernel
theorem dX4_rounds_1 : decode cX4_rounds 1 = .ok (.iconst 1, 1) := by decide +kernel
theorem dX4_rounds_2 : decode cX4_rounds 2 = .ok (.if_icmp .lt 9, 3) := by decide +kernel
theorem dX4_rounds_5 : decode cX4_rounds 5 = .ok (.iload_n 1, 1) := by decide +kernel
theorem dX4_rounds_6 : decode cX4_rounds 6 = .ok (.bipush 50, 2) := by decide +kernel
theorem dX4_rounds_8 : decode cX4_rounds 8 = .ok (.if_icmp .le 13, 3) := by decide +kernel
theorem dX4_rounds_11 : decode cX4_rounds 11 = .ok (.new 30, 3) := by decide +kernel
theorem dX4_rounds_14 : decode cX4_rounds 14 = .ok (.dup, 1) := by decide +kernel
theorem dX4_rounds_15 : decode cX4_rounds 15 = .ok (.ldc 122, 2) := by decide +kernel
theorem dX4_rounds_17 : decode cX4_rounds 17 = .ok (.invokespecial 34, 3) := by decide +kernel
theorem dX4_rounds_20 : decode cX4_rounds 20 = .ok (.athrow, 1) := by decide +kernel
theorem dX4_rounds_21 : decode cX4_rounds 21 = .ok (.aload_n 0, 1) := by decide +kernel
theorem dX4_rounds_22 : decode cX4_rounds 22 = .ok (.getfield 10, 3) := by decide +kernel
theorem dX4_rounds_25 : decode cX4_rounds 25 = .ok (.iload_n 1, 1) := by decide +kernel
theorem dX4_rounds_26 : decode cX4_rounds 26 = .ok (.invokevirtual 124, 3) := by decide +kernel
theorem dX4_rounds_29 : decode cX4_rounds 29 = .ok (.aload_n 0, 1) := by decide +kernel
theorem dX4_rounds_30 : decode cX4_rounds 30 = .ok (.getfield 10, 3) := by decide +kernel
theorem dX4_rounds_33 : decode cX4_rounds 33 = .ok (.getfield 37, 3) := by decide +kernel
theorem dX4_rounds_36 : decode cX4_rounds 36 = .ok (.getfield 127, 3) := by decide +kernel
theorem dX4_rounds_39 : decode cX4_rounds 39 = .ok (.ireturn, 1) := by decide +kernel
set_option maxRecDepth 20000 in
theorem ggX4_roundsUntilAgreement_X3_allAgree : GoodIn wsX4_roundsUntilAgreement wsX3_allAgree := goodIn_ca (goodIn_r _ [10, 11, 12, 13, 14, 15, 16, 17, 18, 19, 20, 21, 22, 23, 24, 25, 26, 27, 28, 29, 9, 30, 31, 32, 33, 34, 35, 36, 37, 38, 39, 40, 41, 42, 43, 44, 45, 46, 47, 136, 137, 138, 139, 140, 141, 142, 143, 144, 145, 146, 147, 148, 149, 150, 151, 152, 153, 154, 155, 156] (by decide +kernel) (by decide +kernel)) (goodIn_sub (fun _ h => List.mem_cons_of_mem _ (List.mem_append_left _ (List.mem_append_right _ h))) (by decide +kernel))
set_option maxRecDepth 20000 in
theorem gX4_roundsUntilAgreement_X3_allAgree : GoodIn wsX4_roundsUntilAgreement (wsV RX4 132 RX3 yX3_allAgree wsX3_allAgree) := goodIn_app (goodIn_of _ (by decide +kernel)) ggX4_roundsUntilAgreement_X3_allAgree
set_option maxRecDepth 20000 in
theorem ggX4_roundsUntilAgreement_X3_play : GoodIn wsX4_roundsUntilAgreement wsX3_play := goodIn_ca (goodIn_ca (goodIn_r _ [51, 31, 52, 11, 53, 54, 55, 56, 9, 57, 58, 59, 60, 61, 62, 63, 64, 65, 66, 67, 35, 68, 37, 24, 25, 26, 69, 70, 71, 72, 39, 38, 73, 74, 75, 76, 77, 78, 79, 80, 81, 82, 83, 84, 85, 86, 87, 88, 89, 90, 91, 92, 93, 94, 95, 12, 13, 14, 15, 16, 17, 18, 19, 20, 21, 22, 23, 96, 97, 98, 99, 100, 101, 102, 103, 104, 105, 106, 107, 108, 109, 110, 111, 112, 113, 114, 115, 116, 117, 118, 119, 120, 121, 122, 123, 124, 125, 126, 127, 128, 129, 136, 137, 138, 139, 140, 141, 142, 147, 148, 149, 150, 151, 152, 153, 154, 155, 156, 143, 144, 145, 146] (by decide +kernel) (by decide +kernel)) (goodIn_sub (fun _ h => List.mem_cons_of_mem _ (List.mem_append_left _ (List.mem_append_right _ h))) (by decide +kernel))) (goodIn_sub (fun _ h => List.mem_cons_of_mem _ (List.mem_append_right _ h)) (by decide +kernel))
set_option maxRecDepth 20000 in
theorem gX4_roundsUntilAgreement_X3_play : GoodIn wsX4_roundsUntilAgreement (wsV RX4 124 RX3 yX3_play wsX3_play) := goodIn_app (goodIn_of _ (by decide +kernel)) ggX4_roundsUntilAgreement_X3_play
theorem dX4_roundsUntilAgreement_0 : decode cX4_roundsUntilAgreement 0 = .ok (.iload_n 1, 1) := by decide +kernel
theorem dX4_roundsUntilAgreement_1 : decode cX4_roundsUntilAgreement 1 = .ok (.iconst 1, 1) := by decide +kernel
theorem dX4_roundsUntilAgreement_2 : decode cX4_roundsUntilAgreement 2 = .ok (.if_icmp .lt 9, 3) := by decide +kernel
theorem dX4_roundsUntilAgreement_5 : decode cX4_roundsUntilAgreement 5 = .ok (.iload_n 1, 1) := by decide +kernel
theorem dX4_roundsUntilAgreement_6 : decode cX4_roundsUntilAgreement 6 = .ok (.bipush 100, 2) := by decide +kernel
theorem dX4_roundsUntilAgreement_8 : decode cX4_roundsUntilAgreement 8 = .ok (.if_icmp .le 13, 3) := by decide +kernel
theorem dX4_roundsUntilAgreement_11 : decode cX4_roundsUntilAgreement 11 = .ok (.new 30, 3) := by decide +kernel
theorem dX4_roundsUntilAgreement_14 : decode cX4_roundsUntilAgreement 14 = .ok (.dup, 1) := by decide +kernel
theorem dX4_roundsUntilAgreement_15 : decode cX4_roundsUntilAgreement 15 = .ok (.ldc 130, 2) := by decide +kernel
theorem dX4_roundsUntilAgreement_17 : decode cX4_roundsUntilAgreement 17 = .ok (.invokespecial 34, 3) := by decide +kernel
theorem dX4_roundsUntilAgreement_20 : decode cX4_roundsUntilAgreement 20 = .ok (.athrow, 1) := by decide +kernel
theorem dX4_roundsUntilAgreement_21 : decode cX4_roundsUntilAgreement 21 = .ok (.iconst 0, 1) := by decide +kernel
theorem dX4_roundsUntilAgreement_22 : decode cX4_roundsUntilAgreement 22 = .ok (.istore_n 2, 1) := by decide +kernel
theorem dX4_roundsUntilAgreement_23 : decode cX4_roundsUntilAgreement 23 = .ok (.aload_n 0, 1) := by decide +kernel
theorem dX4_roundsUntilAgreement_24 : decode cX4_roundsUntilAgreement 24 = .ok (.getfield 10, 3) := by decide +kernel
theorem dX4_roundsUntilAgreement_27 : decode cX4_roundsUntilAgreement 27 = .ok (.invokevirtual 132, 3) := by decide +kernel
theorem dX4_roundsUntilAgreement_30 : decode cX4_roundsUntilAgreement 30 = .ok (.istore_n 3, 1) := by decide +kernel
theorem dX4_roundsUntilAgreement_31 : decode cX4_roundsUntilAgreement 31 = .ok (.iload_n 3, 1) := by decide +kernel
theorem dX4_roundsUntilAgreement_32 : decode cX4_roundsUntilAgreement 32 = .ok (.ifCond .ne 30, 3) := by decide +kernel
theorem dX4_roundsUntilAgreement_35 : decode cX4_roundsUntilAgreement 35 = .ok (.iload_n 2, 1) := by decide +kernel
theorem dX4_roundsUntilAgreement_36 : decode cX4_roundsUntilAgreement 36 = .ok (.iload_n 1, 1) := by decide +kernel
theorem dX4_roundsUntilAgreement_37 : decode cX4_roundsUntilAgreement 37 = .ok (.if_icmp .ge 25, 3) := by decide +kernel
theorem dX4_roundsUntilAgreement_40 : decode cX4_roundsUntilAgreement 40 = .ok (.aload_n 0, 1) := by decide +kernel
theorem dX4_roundsUntilAgreement_41 : decode cX4_roundsUntilAgreement 41 = .ok (.getfield 10, 3) := by decide +kernel
theorem dX4_roundsUntilAgreement_44 : decode cX4_roundsUntilAgreement 44 = .ok (.iconst 1, 1) := by decide +kernel
theorem dX4_roundsUntilAgreement_45 : decode cX4_roundsUntilAgreement 45 = .ok (.invokevirtual 124, 3) := by decide +kernel
theorem dX4_roundsUntilAgreement_48 : decode cX4_roundsUntilAgreement 48 = .ok (.iinc 2 1, 3) := by decide +kernel
theorem dX4_roundsUntilAgreement_51 : decode cX4_roundsUntilAgreement 51 = .ok (.aload_n 0, 1) := by decide +kernel
theorem dX4_roundsUntilAgreement_52 : decode cX4_roundsUntilAgreement 52 = .ok (.getfield 10, 3) := by decide +kernel
theorem dX4_roundsUntilAgreement_55 : decode cX4_roundsUntilAgreement 55 = .ok (.invokevirtual 132, 3) := by decide +kernel
theorem dX4_roundsUntilAgreement_58 : decode cX4_roundsUntilAgreement 58 = .ok (.istore_n 3, 1) := by decide +kernel
theorem dX4_roundsUntilAgreement_59 : decode cX4_roundsUntilAgreement 59 = .ok (.goto (-28), 3) := by decide +kernel
theorem dX4_roundsUntilAgreement_62 : decode cX4_roundsUntilAgreement 62 = .ok (.iload_n 3, 1) := by decide +kernel
theorem dX4_roundsUntilAgreement_63 : decode cX4_roundsUntilAgreement 63 = .ok (.ifCond .ne 13, 3) := by decide +kernel
theorem dX4_roundsUntilAgreement_66 : decode cX4_roundsUntilAgreement 66 = .ok (.new 136, 3) := by decide +kernel
theorem dX4_roundsUntilAgreement_69 : decode cX4_roundsUntilAgreement 69 = .ok (.dup, 1) := by decide +kernel
theorem dX4_roundsUntilAgreement_70 : decode cX4_roundsUntilAgreement 70 = .ok (.ldc 138, 2) := by decide +kernel
theorem dX4_roundsUntilAgreement_72 : decode cX4_roundsUntilAgreement 72 = .ok (.invokespecial 140, 3) := by decide +kernel
theorem dX4_roundsUntilAgreement_75 : decode cX4_roundsUntilAgreement 75 = .ok (.athrow, 1) := by decide +kernel
theorem dX4_roundsUntilAgreement_76 : decode cX4_roundsUntilAgreement 76 = .ok (.iload_n 2, 1) := by decide +kernel
theorem dX4_roundsUntilAgreement_77 : decode cX4_roundsUntilAgreement 77 = .ok (.ireturn, 1) := by decide +kernel
theorem dX4_round_0 : decode cX4_round 0 = .ok (.aload_n 0, 1) := by decide +kernel
theorem dX4_round_1 : decode cX4_round 1 = .ok (.getfield 10, 3) := by decide +kernel
theorem dX4_round_4 : decode cX4_round 4 = .ok (.getfield 37, 3) := by decide +kernel
theorem dX4_round_7 : decode cX4_round 7 = .ok (.getfield 127, 3) := by decide +kernel
theorem dX4_round_10 : decode cX4_round 10 = .ok (.ireturn, 1) := by decide +kernel
set_option maxRecDepth 20000 in
theorem ggX4_isUp_X4_requireNode : GoodIn wsX4_isUp wsX4_requireNode := goodIn_ca (goodIn_r _ [7, 8, 9] (by decide +kernel) (by decide +kernel)) (goodIn_sub (fun _ h => List.mem_cons_of_mem _ (List.mem_append_right _ h)) (by decide +kernel))
set_option maxRecDepth 20000 in
theorem gX4_isUp_X4_requireNode : GoodIn wsX4_isUp (va_wsS RX4 61 yX4_requireNode wsX4_requireNode) := goodIn_app (goodIn_of _ (by decide +kernel)) ggX4_isUp_X4_requireNode
theorem dX4_isUp_0 : decode cX4_isUp 0 = .ok (.iload_n 1, 1) := by decide +kernel
theorem dX4_isUp_1 : decode cX4_isUp 1 = .ok (.invokestatic 61, 3) := by decide +kernel
theorem dX4_isUp_4 : decode cX4_isUp 4 = .ok (.aload_n 0, 1) := by decide +kernel
theorem dX4_isUp_5 : decode cX4_isUp 5 = .ok (.getfield 10, 3) := by decide +kernel
theorem dX4_isUp_8 : decode cX4_isUp 8 = .ok (.getfield 65, 3) := by decide +kernel
theorem dX4_isUp_11 : decode cX4_isUp 11 = .ok (.getfield 69, 3) := by decide +kernel
theorem dX4_isUp_14 : decode cX4_isUp 14 = .ok (.iload_n 1, 1) := by decide +kernel
theorem dX4_isUp_15 : decode cX4_isUp 15 = .ok (.baload, 1) := by decide +kernel
theorem dX4_isUp_16 : decode cX4_isUp 16 = .ok (.ireturn, 1) := by decide +kernel
set_option maxRecDepth 20000 in
theorem ggX4_partition_X4_requireNode : GoodIn wsX4_partition wsX4_requireNode := goodIn_ca (goodIn_r _ [7, 8, 9] (by decide +kernel) (by decide +kernel)) (goodIn_sub (fun _ h => List.mem_cons_of_mem _ (List.mem_append_right _ h)) (by decide +kernel))
set_option maxRecDepth 20000 in
theorem gX4_partition_X4_requireNode : GoodIn wsX4_partition (va_wsS RX4 61 yX4_requireNode wsX4_requireNode) := goodIn_app (goodIn_of _ (by decide +kernel)) ggX4_partition_X4_requireNode
theorem dX4_partition_0 : decode cX4_partition 0 = .ok (.iload_n 1, 1) := by decide +kernel
theorem dX4_partition_1 : decode cX4_partition 1 = .ok (.invokestatic 61, 3) := by decide +kernel
theorem dX4_partition_4 : decode cX4_partition 4 = .ok (.aload_n 0, 1) := by decide +kernel
theorem dX4_partition_5 : decode cX4_partition 5 = .ok (.getfield 10, 3) := by decide +kernel
theorem dX4_partition_8 : decode cX4_partition 8 = .ok (.getfield 65, 3) := by decide +kernel
theorem dX4_partition_11 : decode cX4_partition 11 = .ok (.getfield 105, 3) := by decide +kernel
theorem dX4_partition_14 : decode cX4_partition 14 = .ok (.iload_n 1, 1) := by decide +kernel
theorem dX4_partition_15 : decode cX4_partition 15 = .ok (.iaload, 1) := by decide +kernel
theorem dX4_partition_16 : decode cX4_partition 16 = .ok (.ireturn, 1) := by decide +kernel
set_option maxRecDepth 20000 in
theorem ggX4_incarnation_X4_requireNode : GoodIn wsX4_incarnation wsX4_requireNode := goodIn_ca (goodIn_r _ [7, 8, 9] (by decide +kernel) (by decide +kernel)) (goodIn_sub (fun _ h => List.mem_cons_of_mem _ (List.mem_append_right _ h)) (by decide +kernel))
set_option maxRecDepth 20000 in
theorem gX4_incarnation_X4_requireNode : GoodIn wsX4_incarnation (va_wsS RX4 61 yX4_requireNode wsX4_requireNode) := goodIn_app (goodIn_of _ (by decide +kernel)) ggX4_incarnation_X4_requireNode
theorem dX4_incarnation_0 : decode cX4_incarnation 0 = .ok (.iload_n 1, 1) := by decide +kernel
theorem dX4_incarnation_1 : decode cX4_incarnation 1 = .ok (.invokestatic 61, 3) := by decide +kernel
theorem dX4_incarnation_4 : decode cX4_incarnation 4 = .ok (.aload_n 0, 1) := by decide +kernel
theorem dX4_incarnation_5 : decode cX4_incarnation 5 = .ok (.getfield 10, 3) := by decide +kernel
theorem dX4_incarnation_8 : decode cX4_incarnation 8 = .ok (.getfield 37, 3) := by decide +kernel
theorem dX4_incarnation_11 : decode cX4_incarnation 11 = .ok (.getfield 93, 3) := by decide +kernel
theorem dX4_incarnation_14 : decode cX4_incarnation 14 = .ok (.iload_n 1, 1) := by decide +kernel
theorem dX4_incarnation_15 : decode cX4_incarnation 15 = .ok (.iaload, 1) := by decide +kernel
theorem dX4_incarnation_16 : decode cX4_incarnation 16 = .ok (.ireturn, 1) := by decide +kernel
set_option maxRecDepth 20000 in
theorem ggX4_reaches_X4_requireNode : GoodIn wsX4_reaches wsX4_requireNode := goodIn_ca (goodIn_r _ [6, 7, 8] (by decide +kernel) (by decide +kernel)) (goodIn_sub (fun _ h => List.mem_cons_of_mem _ (List.mem_append_left _ (List.mem_append_right _ h))) (by decide +kernel))
set_option maxRecDepth 20000 in
theorem gX4_reaches_X4_requireNode : GoodIn wsX4_reaches (va_wsS RX4 61 yX4_requireNode wsX4_requireNode) := goodIn_app (goodIn_of _ (by decide +kernel)) ggX4_reaches_X4_requireNode
set_option maxRecDepth 20000 in
theorem ggX4_reaches_X2_connects : GoodIn wsX4_reaches wsX2_connects := goodIn_ca (goodIn_r _ [13, 14, 15, 16, 17, 12, 18, 19, 20, 21, 5, 22, 36, 37, 38, 39] (by decide +kernel) (by decide +kernel)) (goodIn_sub (fun _ h => List.mem_cons_of_mem _ (List.mem_append_right _ h)) (by decide +kernel))
set_option maxRecDepth 20000 in
theorem gX4_reaches_X2_connects : GoodIn wsX4_reaches (wsV RX4 141 RX2 yX2_connects wsX2_connects) := goodIn_app (goodIn_of _ (by decide +kernel)) ggX4_reaches_X2_connects
theorem dX4_reaches_0 : decode cX4_reaches 0 = .ok (.iload_n 1, 1) := by decide +kernel
theorem dX4_reaches_1 : decode cX4_reaches 1 = .ok (.invokestatic 61, 3) := by decide +kernel
theorem dX4_reaches_4 : decode cX4_reaches 4 = .ok (.iload_n 2, 1) := by decide +kernel
theorem dX4_reaches_5 : decode cX4_reaches 5 = .ok (.invokestatic 61, 3) := by decide +kernel
theorem dX4_reaches_8 : decode cX4_reaches 8 = .ok (.aload_n 0, 1) := by decide +kernel
theorem dX4_reaches_9 : decode cX4_reaches 9 = .ok (.getfield 10, 3) := by decide +kernel
theorem dX4_reaches_12 : decode cX4_reaches 12 = .ok (.getfield 65, 3) := by decide +kernel
theorem dX4_reaches_15 : decode cX4_reaches 15 = .ok (.iload_n 1, 1) := by decide +kernel
theorem dX4_reaches_16 : decode cX4_reaches 16 = .ok (.iload_n 2, 1) := by decide +kernel
theorem dX4_reaches_17 : decode cX4_reaches 17 = .ok (.invokevirtual 141, 3) := by decide +kernel
theorem dX4_reaches_20 : decode cX4_reaches 20 = .ok (.ireturn, 1) := by decide +kernel
set_option maxRecDepth 20000 in
theorem ggX4_view_X4_requireTwoNodes : GoodIn wsX4_view wsX4_requireTwoNodes := goodIn_ca (goodIn_ca (goodIn_r _ [7, 8, 9, 10, 11, 6, 12, 13, 14] (by decide +kernel) (by decide +kernel)) (goodIn_sub (fun _ h => List.mem_cons_of_mem _ (List.mem_append_left _ (List.mem_append_right _ h))) (by decide +kernel))) (goodIn_sub (fun _ h => List.mem_cons_of_mem _ (List.mem_append_right _ h)) (by decide +kernel))
set_option maxRecDepth 20000 in
theorem gX4_view_X4_requireTwoNodes : GoodIn wsX4_view (va_wsS RX4 108 yX4_requireTwoNodes wsX4_requireTwoNodes) := goodIn_app (goodIn_of _ (by decide +kernel)) ggX4_view_X4_requireTwoNodes
set_option maxRecDepth 20000 in
theorem ggX4_view_X4_pair : GoodIn wsX4_view wsX4_pair := goodIn_r _ [17] (by decide +kernel) (by decide +kernel)
set_option maxRecDepth 20000 in
theorem gX4_view_X4_pair : GoodIn wsX4_view (va_wsS RX4 114 yX4_pair wsX4_pair) := goodIn_app (goodIn_of _ (by decide +kernel)) ggX4_view_X4_pair
theorem dX4_view_0 : decode cX4_view 0 = .ok (.iload_n 1, 1) := by decide +kernel
theorem dX4_view_1 : decode cX4_view 1 = .ok (.iload_n 2, 1) := by decide +kernel
theorem dX4_view_2 : decode cX4_view 2 = .ok (.invokestatic 108, 3) := by decide +kernel
theorem dX4_view_5 : decode cX4_view 5 = .ok (.aload_n 0, 1) := by decide +kernel
theorem dX4_view_6 : decode cX4_view 6 = .ok (.getfield 10, 3) := by decide +kernel
theorem dX4_view_9 : decode cX4_view 9 = .ok (.getfield 37, 3) := by decide +kernel
theorem dX4_view_12 : decode cX4_view 12 = .ok (.getfield 144, 3) := by decide +kernel
theorem dX4_view_15 : decode cX4_view 15 = .ok (.iload_n 1, 1) := by decide +kernel
theorem dX4_view_16 : decode cX4_view 16 = .ok (.iload_n 2, 1) := by decide +kernel
theorem dX4_view_17 : decode cX4_view 17 = .ok (.invokestatic 114, 3) := by decide +kernel
theorem dX4_view_20 : decode cX4_view 20 = .ok (.iaload, 1) := by decide +kernel
theorem dX4_view_21 : decode cX4_view 21 = .ok (.ireturn, 1) := by decide +kernel
set_option maxRecDepth 20000 in
theorem ggX4_viewIncarnation_X4_requireTwoNodes : GoodIn wsX4_viewIncarnation wsX4_requireTwoNodes := goodIn_ca (goodIn_ca (goodIn_r _ [7, 8, 9, 10, 11, 6, 12, 13, 14] (by decide +kernel) (by decide +kernel)) (goodIn_sub (fun _ h => List.mem_cons_of_mem _ (List.mem_append_left _ (List.mem_append_right _ h))) (by decide +kernel))) (goodIn_sub (fun _ h => List.mem_cons_of_mem _ (List.mem_append_right _ h)) (by decide +kernel))
set_option maxRecDepth 20000 in
theorem gX4_viewIncarnation_X4_requireTwoNodes : GoodIn wsX4_viewIncarnation (va_wsS RX4 108 yX4_requireTwoNodes wsX4_requireTwoNodes) := goodIn_app (goodIn_of _ (by decide +kernel)) ggX4_viewIncarnation_X4_requireTwoNodes
set_option maxRecDepth 20000 in
theorem ggX4_viewIncarnation_X4_pair : GoodIn wsX4_viewIncarnation wsX4_pair := goodIn_r _ [17] (by decide +kernel) (by decide +kernel)
set_option maxRecDepth 20000 in
theorem gX4_viewIncarnation_X4_pair : GoodIn wsX4_viewIncarnation (va_wsS RX4 114 yX4_pair wsX4_pair) := goodIn_app (goodIn_of _ (by decide +kernel)) ggX4_viewIncarnation_X4_pair
theorem dX4_viewIncarnation_0 : decode cX4_viewIncarnation 0 = .ok (.iload_n 1, 1) := by decide +kernel
theorem dX4_viewIncarnation_1 : decode cX4_viewIncarnation 1 = .ok (.iload_n 2, 1) := by decide +kernel
theorem dX4_viewIncarnation_2 : decode cX4_viewIncarnation 2 = .ok (.invokestatic 108, 3) := by decide +kernel
theorem dX4_viewIncarnation_5 : decode cX4_viewIncarnation 5 = .ok (.aload_n 0, 1) := by decide +kernel
theorem dX4_viewIncarnation_6 : decode cX4_viewIncarnation 6 = .ok (.getfield 10, 3) := by decide +kernel
theorem dX4_viewIncarnation_9 : decode cX4_viewIncarnation 9 = .ok (.getfield 37, 3) := by decide +kernel
theorem dX4_viewIncarnation_12 : decode cX4_viewIncarnation 12 = .ok (.getfield 147, 3) := by decide +kernel
theorem dX4_viewIncarnation_15 : decode cX4_viewIncarnation 15 = .ok (.iload_n 1, 1) := by decide +kernel
theorem dX4_viewIncarnation_16 : decode cX4_viewIncarnation 16 = .ok (.iload_n 2, 1) := by decide +kernel
theorem dX4_viewIncarnation_17 : decode cX4_viewIncarnation 17 = .ok (.invokestatic 114, 3) := by decide +kernel
theorem dX4_viewIncarnation_20 : decode cX4_viewIncarnation 20 = .ok (.iaload, 1) := by decide +kernel
theorem dX4_viewIncarnation_21 : decode cX4_viewIncarnation 21 = .ok (.ireturn, 1) := by decide +kernel
set_option maxRecDepth 20000 in
theorem ggX4_deadline_X4_requireTwoNodes : GoodIn wsX4_deadline wsX4_requireTwoNodes := goodIn_ca (goodIn_ca (goodIn_r _ [10, 11, 12, 13, 14, 9, 15, 16, 17] (by decide +kernel) (by decide +kernel)) (goodIn_sub (fun _ h => List.mem_cons_of_mem _ (List.mem_append_left _ (List.mem_append_right _ h))) (by decide +kernel))) (goodIn_sub (fun _ h => List.mem_cons_of_mem _ (List.mem_append_right _ h)) (by decide +kernel))
set_option maxRecDepth 20000 in
theorem gX4_deadline_X4_requireTwoNodes : GoodIn wsX4_deadline (va_wsS RX4 108 yX4_requireTwoNodes wsX4_requireTwoNodes) := goodIn_app (goodIn_of _ (by decide +kernel)) ggX4_deadline_X4_requireTwoNodes
set_option maxRecDepth 20000 in
theorem ggX4_deadline_X4_pair : GoodIn wsX4_deadline wsX4_pair := goodIn_r _ [20] (by decide +kernel) (by decide +kernel)
set_option maxRecDepth 20000 in
theorem gX4_deadline_X4_pair : GoodIn wsX4_deadline (va_wsS RX4 114 yX4_pair wsX4_pair) := goodIn_app (goodIn_of _ (by decide +kernel)) ggX4_deadline_X4_pair
theorem dX4_deadline_0 : decode cX4_deadline 0 = .ok (.iload_n 1, 1) := by decide +kernel
theorem dX4_deadline_1 : decode cX4_deadline 1 = .ok (.iload_n 2, 1) := by decide +kernel
theorem dX4_deadline_2 : decode cX4_deadline 2 = .ok (.invokestatic 108, 3) := by decide +kernel
theorem dX4_deadline_5 : decode cX4_deadline 5 = .ok (.aload_n 0, 1) := by decide +kernel
theorem dX4_deadline_6 : decode cX4_deadline 6 = .ok (.getfield 10, 3) := by decide +kernel
theorem dX4_deadline_9 : decode cX4_deadline 9 = .ok (.getfield 37, 3) := by decide +kernel
theorem dX4_deadline_12 : decode cX4_deadline 12 = .ok (.getfield 144, 3) := by decide +kernel
theorem dX4_deadline_15 : decode cX4_deadline 15 = .ok (.iload_n 1, 1) := by decide +kernel
theorem dX4_deadline_16 : decode cX4_deadline 16 = .ok (.iload_n 2, 1) := by decide +kernel
theorem dX4_deadline_17 : decode cX4_deadline 17 = .ok (.invokestatic 114, 3) := by decide +kernel
theorem dX4_deadline_20 : decode cX4_deadline 20 = .ok (.iaload, 1) := by decide +kernel
theorem dX4_deadline_21 : decode cX4_deadline 21 = .ok (.iconst 2, 1) := by decide +kernel
theorem dX4_deadline_22 : decode cX4_deadline 22 = .ok (.if_icmp .eq 13, 3) := by decide +kernel
theorem dX4_deadline_25 : decode cX4_deadline 25 = .ok (.new 136, 3) := by decide +kernel
theorem dX4_deadline_28 : decode cX4_deadline 28 = .ok (.dup, 1) := by decide +kernel
theorem dX4_deadline_29 : decode cX4_deadline 29 = .ok (.ldc 150, 2) := by decide +kernel
theorem dX4_deadline_31 : decode cX4_deadline 31 = .ok (.invokespecial 140, 3) := by decide +kernel
theorem dX4_deadline_34 : decode cX4_deadline 34 = .ok (.athrow, 1) := by decide +kernel
theorem dX4_deadline_35 : decode cX4_deadline 35 = .ok (.aload_n 0, 1) := by decide +kernel
theorem dX4_deadline_36 : decode cX4_deadline 36 = .ok (.getfield 10, 3) := by decide +kernel
theorem dX4_deadline_39 : decode cX4_deadline 39 = .ok (.getfield 37, 3) := by decide +kernel
theorem dX4_deadline_42 : decode cX4_deadline 42 = .ok (.getfield 152, 3) := by decide +kernel
theorem dX4_deadline_45 : decode cX4_deadline 45 = .ok (.iload_n 1, 1) := by decide +kernel
theorem dX4_deadline_46 : decode cX4_deadline 46 = .ok (.iload_n 2, 1) := by decide +kernel
theorem dX4_deadline_47 : decode cX4_deadline 47 = .ok (.invokestatic 114, 3) := by decide +kernel
theorem dX4_deadline_50 : decode cX4_deadline 50 = .ok (.iaload, 1) := by decide +kernel
theorem dX4_deadline_51 : decode cX4_deadline 51 = .ok (.ireturn, 1) := by decide +kernel
set_option maxRecDepth 20000 in
theorem ggX4_counter_X4_requireNode : GoodIn wsX4_counter wsX4_requireNode := goodIn_ca (goodIn_r _ [7, 8, 9] (by decide +kernel) (by decide +kernel)) (goodIn_sub (fun _ h => List.mem_cons_of_mem _ (List.mem_append_right _ h)) (by decide +kernel))
set_option maxRecDepth 20000 in
theorem gX4_counter_X4_requireNode : GoodIn wsX4_counter (va_wsS RX4 61 yX4_requireNode wsX4_requireNode) := goodIn_app (goodIn_of _ (by decide +kernel)) ggX4_counter_X4_requireNode
set_option maxRecDepth 20000 in
theorem ggX4_counter_X4_pair : GoodIn wsX4_counter wsX4_pair := goodIn_r _ [12] (by decide +kernel) (by decide +kernel)
set_option maxRecDepth 20000 in
theorem gX4_counter_X4_pair : GoodIn wsX4_counter (va_wsS RX4 114 yX4_pair wsX4_pair) := goodIn_app (goodIn_of _ (by decide +kernel)) ggX4_counter_X4_pair
theorem dX4_counter_0 : decode cX4_counter 0 = .ok (.iload_n 1, 1) := by decide +kernel
theorem dX4_counter_1 : decode cX4_counter 1 = .ok (.invokestatic 61, 3) := by decide +kernel
theorem dX4_counter_4 : decode cX4_counter 4 = .ok (.iload_n 2, 1) := by decide +kernel
theorem dX4_counter_5 : decode cX4_counter 5 = .ok (.invokestatic 61, 3) := by decide +kernel
theorem dX4_counter_8 : decode cX4_counter 8 = .ok (.aload_n 0, 1) := by decide +kernel
theorem dX4_counter_9 : decode cX4_counter 9 = .ok (.getfield 10, 3) := by decide +kernel
theorem dX4_counter_12 : decode cX4_counter 12 = .ok (.getfield 37, 3) := by decide +kernel
theorem dX4_counter_15 : decode cX4_counter 15 = .ok (.getfield 155, 3) := by decide +kernel
theorem dX4_counter_18 : decode cX4_counter 18 = .ok (.iload_n 1, 1) := by decide +kernel
theorem dX4_counter_19 : decode cX4_counter 19 = .ok (.iload_n 2, 1) := by decide +kernel
theorem dX4_counter_20 : decode cX4_counter 20 = .ok (.invokestatic 114, 3) := by decide +kernel
theorem dX4_counter_23 : decode cX4_counter 23 = .ok (.iaload, 1) := by decide +kernel
theorem dX4_counter_24 : decode cX4_counter 24 = .ok (.ireturn, 1) := by decide +kernel
set_option maxRecDepth 20000 in
theorem ggX4_tell_X4_requireNode : GoodIn wsX4_tell wsX4_requireNode := goodIn_ca (goodIn_r _ [12, 13, 14] (by decide +kernel) (by decide +kernel)) (goodIn_sub (fun _ h => List.mem_cons_of_mem _ (List.mem_append_right _ h)) (by decide +kernel))
set_option maxRecDepth 20000 in
theorem gX4_tell_X4_requireNode : GoodIn wsX4_tell (va_wsS RX4 61 yX4_requireNode wsX4_requireNode) := goodIn_app (goodIn_of _ (by decide +kernel)) ggX4_tell_X4_requireNode
set_option maxRecDepth 20000 in
theorem ggX4_tell_X1_takeIn : GoodIn wsX4_tell wsX1_takeIn := goodIn_ca (goodIn_r _ [19, 20, 21, 22, 23, 24, 11, 25, 26, 27, 28, 18, 29, 30, 31, 32, 33, 34, 35, 36, 37, 38, 39, 40, 41, 42, 43, 62, 63, 64, 65, 66, 67, 68, 69, 70, 71] (by decide +kernel) (by decide +kernel)) (goodIn_sub (fun _ h => List.mem_cons_of_mem _ (List.mem_append_left _ (List.mem_append_left _ (List.mem_append_left _ (List.mem_append_right _ h))))) (by decide +kernel))
set_option maxRecDepth 20000 in
theorem gX4_tell_X1_takeIn : GoodIn wsX4_tell (wsV RX4 162 RX1 yX1_takeIn wsX1_takeIn) := goodIn_app (goodIn_of _ (by decide +kernel)) ggX4_tell_X1_takeIn
set_option maxRecDepth 20000 in
theorem ggX4_tell_X1_endQuiet : GoodIn wsX4_tell wsX1_endQuiet := goodIn_r _ [42, 37, 43, 62, 63, 64, 65, 66, 67, 68, 69, 70, 71] (by decide +kernel) (by decide +kernel)
set_option maxRecDepth 20000 in
theorem gX4_tell_X1_endQuiet : GoodIn wsX4_tell (wsV RX4 90 RX1 yX1_endQuiet wsX1_endQuiet) := goodIn_app (goodIn_of _ (by decide +kernel)) ggX4_tell_X1_endQuiet
theorem dX4_tell_0 : decode cX4_tell 0 = .ok (.iload_n 1, 1) := by decide +kernel
theorem dX4_tell_1 : decode cX4_tell 1 = .ok (.invokestatic 61, 3) := by decide +kernel
theorem dX4_tell_4 : decode cX4_tell 4 = .ok (.iload_n 2, 1) := by decide +kernel
theorem dX4_tell_5 : decode cX4_tell 5 = .ok (.invokestatic 61, 3) := by decide +kernel
theorem dX4_tell_8 : decode cX4_tell 8 = .ok (.aload_n 0, 1) := by decide +kernel
theorem dX4_tell_9 : decode cX4_tell 9 = .ok (.getfield 10, 3) := by decide +kernel
theorem dX4_tell_12 : decode cX4_tell 12 = .ok (.getfield 65, 3) := by decide +kernel
theorem dX4_tell_15 : decode cX4_tell 15 = .ok (.getfield 69, 3) := by decide +kernel
theorem dX4_tell_18 : decode cX4_tell 18 = .ok (.iload_n 1, 1) := by decide +kernel
theorem dX4_tell_19 : decode cX4_tell 19 = .ok (.baload, 1) := by decide +kernel
theorem dX4_tell_20 : decode cX4_tell 20 = .ok (.ifCond .ne 13, 3) := by decide +kernel
theorem dX4_tell_23 : decode cX4_tell 23 = .ok (.new 75, 3) := by decide +kernel
theorem dX4_tell_26 : decode cX4_tell 26 = .ok (.dup, 1) := by decide +kernel
theorem dX4_tell_27 : decode cX4_tell 27 = .ok (.ldc 97, 2) := by decide +kernel
theorem dX4_tell_29 : decode cX4_tell 29 = .ok (.invokespecial 79, 3) := by decide +kernel
theorem dX4_tell_32 : decode cX4_tell 32 = .ok (.athrow, 1) := by decide +kernel
theorem dX4_tell_33 : decode cX4_tell 33 = .ok (.iload_n 3, 1) := by decide +kernel
theorem dX4_tell_34 : decode cX4_tell 34 = .ok (.iconst 1, 1) := by decide +kernel
theorem dX4_tell_35 : decode cX4_tell 35 = .ok (.if_icmp .lt 8, 3) := by decide +kernel
theorem dX4_tell_38 : decode cX4_tell 38 = .ok (.iload_n 3, 1) := by decide +kernel
theorem dX4_tell_39 : decode cX4_tell 39 = .ok (.iconst 3, 1) := by decide +kernel
theorem dX4_tell_40 : decode cX4_tell 40 = .ok (.if_icmp .le 13, 3) := by decide +kernel
theorem dX4_tell_43 : decode cX4_tell 43 = .ok (.new 30, 3) := by decide +kernel
theorem dX4_tell_46 : decode cX4_tell 46 = .ok (.dup, 1) := by decide +kernel
theorem dX4_tell_47 : decode cX4_tell 47 = .ok (.ldc 158, 2) := by decide +kernel
theorem dX4_tell_49 : decode cX4_tell 49 = .ok (.invokespecial 34, 3) := by decide +kernel
theorem dX4_tell_52 : decode cX4_tell 52 = .ok (.athrow, 1) := by decide +kernel
theorem dX4_tell_53 : decode cX4_tell 53 = .ok (.iload 4, 2) := by decide +kernel
theorem dX4_tell_55 : decode cX4_tell 55 = .ok (.ifCond .lt 11, 3) := by decide +kernel
theorem dX4_tell_58 : decode cX4_tell 58 = .ok (.iload 4, 2) := by decide +kernel
theorem dX4_tell_60 : decode cX4_tell 60 = .ok (.sipush 1000, 3) := by decide +kernel
theorem dX4_tell_63 : decode cX4_tell 63 = .ok (.if_icmp .le 13, 3) := by decide +kernel
theorem dX4_tell_66 : decode cX4_tell 66 = .ok (.new 30, 3) := by decide +kernel
theorem dX4_tell_69 : decode cX4_tell 69 = .ok (.dup, 1) := by decide +kernel
theorem dX4_tell_70 : decode cX4_tell 70 = .ok (.ldc 160, 2) := by decide +kernel
theorem dX4_tell_72 : decode cX4_tell 72 = .ok (.invokespecial 34, 3) := by decide +kernel
theorem dX4_tell_75 : decode cX4_tell 75 = .ok (.athrow, 1) := by decide +kernel
theorem dX4_tell_76 : decode cX4_tell 76 = .ok (.aload_n 0, 1) := by decide +kernel
theorem dX4_tell_77 : decode cX4_tell 77 = .ok (.getfield 10, 3) := by decide +kernel
theorem dX4_tell_80 : decode cX4_tell 80 = .ok (.getfield 37, 3) := by decide +kernel
theorem dX4_tell_83 : decode cX4_tell 83 = .ok (.iload_n 1, 1) := by decide +kernel
theorem dX4_tell_84 : decode cX4_tell 84 = .ok (.iload_n 2, 1) := by decide +kernel
theorem dX4_tell_85 : decode cX4_tell 85 = .ok (.iload_n 3, 1) := by decide +kernel
theorem dX4_tell_86 : decode cX4_tell 86 = .ok (.iload 4, 2) := by decide +kernel
theorem dX4_tell_88 : decode cX4_tell 88 = .ok (.invokevirtual 162, 3) := by decide +kernel
theorem dX4_tell_91 : decode cX4_tell 91 = .ok (.istore 5, 2) := by decide +kernel
theorem dX4_tell_93 : decode cX4_tell 93 = .ok (.aload_n 0, 1) := by decide +kernel
theorem dX4_tell_94 : decode cX4_tell 94 = .ok (.getfield 10, 3) := by decide +kernel
theorem dX4_tell_97 : decode cX4_tell 97 = .ok (.getfield 37, 3) := by decide +kernel
theorem dX4_tell_100 : decode cX4_tell 100 = .ok (.invokevirtual 90, 3) := by decide +kernel
theorem dX4_tell_103 : decode cX4_tell 103 = .ok (.iload 5, 2) := by decide +kernel
theorem dX4_tell_105 : decode cX4_tell 105 = .ok (.ireturn, 1) := by decide +kernel
set_option maxRecDepth 20000 in
theorem ggX4_alive_X4_requireNode : GoodIn wsX4_alive wsX4_requireNode := goodIn_ca (goodIn_r _ [6, 7, 8] (by decide +kernel) (by decide +kernel)) (goodIn_sub (fun _ h => List.mem_cons_of_mem _ (List.mem_append_left _ (List.mem_append_right _ h))) (by decide +kernel))
set_option maxRecDepth 20000 in
theorem gX4_alive_X4_requireNode : GoodIn wsX4_alive (va_wsS RX4 61 yX4_requireNode wsX4_requireNode) := goodIn_app (goodIn_of _ (by decide +kernel)) ggX4_alive_X4_requireNode
set_option maxRecDepth 20000 in
theorem ggX4_alive_X1_nodesInState : GoodIn wsX4_alive wsX1_nodesInState := goodIn_ca (goodIn_r _ [13, 14, 15, 5, 16, 30, 31, 32, 33, 34, 35, 36, 37, 38, 39] (by decide +kernel) (by decide +kernel)) (goodIn_sub (fun _ h => List.mem_cons_of_mem _ (List.mem_append_right _ h)) (by decide +kernel))
set_option maxRecDepth 20000 in
theorem gX4_alive_X1_nodesInState : GoodIn wsX4_alive (wsV RX4 166 RX1 yX1_nodesInState wsX1_nodesInState) := goodIn_app (goodIn_of _ (by decide +kernel)) ggX4_alive_X1_nodesInState
theorem dX4_alive_0 : decode cX4_alive 0 = .ok (.iload_n 1, 1) := by decide +kernel
theorem dX4_alive_1 : decode cX4_alive 1 = .ok (.invokestatic 61, 3) := by decide +kernel
theorem dX4_alive_4 : decode cX4_alive 4 = .ok (.aload_n 0, 1) := by decide +kernel
theorem dX4_alive_5 : decode cX4_alive 5 = .ok (.getfield 10, 3) := by decide +kernel
theorem dX4_alive_8 : decode cX4_alive 8 = .ok (.getfield 37, 3) := by decide +kernel
theorem dX4_alive_11 : decode cX4_alive 11 = .ok (.iload_n 1, 1) := by decide +kernel
theorem dX4_alive_12 : decode cX4_alive 12 = .ok (.iconst 1, 1) := by decide +kernel
theorem dX4_alive_13 : decode cX4_alive 13 = .ok (.invokevirtual 166, 3) := by decide +kernel
theorem dX4_alive_16 : decode cX4_alive 16 = .ok (.ireturn, 1) := by decide +kernel
set_option maxRecDepth 20000 in
theorem ggX4_agree_X3_allAgree : GoodIn wsX4_agree wsX3_allAgree := goodIn_ca (goodIn_r _ [6, 7, 8, 9, 10, 11, 12, 13, 14, 15, 16, 17, 18, 19, 20, 21, 22, 23, 24, 25, 5, 26, 27, 28, 29, 30, 31, 32, 33, 34, 35, 36, 37, 38, 39, 40, 41, 42, 43, 50, 51, 52, 53, 54, 55, 56, 57, 58, 59, 60, 61, 62, 63, 64, 65, 66, 67, 68, 69, 70] (by decide +kernel) (by decide +kernel)) (goodIn_sub (fun _ h => List.mem_cons_of_mem _ (List.mem_append_right _ h)) (by decide +kernel))
set_option maxRecDepth 20000 in
theorem gX4_agree_X3_allAgree : GoodIn wsX4_agree (wsV RX4 132 RX3 yX3_allAgree wsX3_allAgree) := goodIn_app (goodIn_of _ (by decide +kernel)) ggX4_agree_X3_allAgree
theorem dX4_agree_0 : decode cX4_agree 0 = .ok (.aload_n 0, 1) := by decide +kernel
theorem dX4_agree_1 : decode cX4_agree 1 = .ok (.getfield 10, 3) := by decide +kernel
theorem dX4_agree_4 : decode cX4_agree 4 = .ok (.invokevirtual 132, 3) := by decide +kernel
theorem dX4_agree_7 : decode cX4_agree 7 = .ok (.ireturn, 1) := by decide +kernel
set_option maxRecDepth 20000 in
theorem ggX4_disagreements_X3_countDisagreements : GoodIn wsX4_disagreements wsX3_countDisagreements := goodIn_ca (goodIn_r _ [6, 7, 8, 9, 10, 11, 12, 13, 14, 15, 16, 17, 18, 19, 20, 21, 22, 23, 24, 25, 26, 27, 28, 29, 30, 31, 32, 33, 34, 41, 42, 43, 44, 45, 46, 47, 48, 49, 50, 51, 52, 53, 54, 55, 56, 57, 58, 59, 60, 61] (by decide +kernel) (by decide +kernel)) (goodIn_sub (fun _ h => List.mem_cons_of_mem _ (List.mem_append_right _ h)) (by decide +kernel))
set_option maxRecDepth 20000 in
theorem gX4_disagreements_X3_countDisagreements : GoodIn wsX4_disagreements (wsV RX4 169 RX3 yX3_countDisagreements wsX3_countDisagreements) := goodIn_app (goodIn_of _ (by decide +kernel)) ggX4_disagreements_X3_countDisagreements
theorem dX4_disagreements_0 : decode cX4_disagreements 0 = .ok (.aload_n 0, 1) := by decide +kernel
theorem dX4_disagreements_1 : decode cX4_disagreements 1 = .ok (.getfield 10, 3) := by decide +kernel
theorem dX4_disagreements_4 : decode cX4_disagreements 4 = .ok (.invokevirtual 169, 3) := by decide +kernel
theorem dX4_disagreements_7 : decode cX4_disagreements 7 = .ok (.ireturn, 1) := by decide +kernel
theorem dX4_declarations_0 : decode cX4_declarations 0 = .ok (.aload_n 0, 1) := by decide +kernel
theorem dX4_declarations_1 : decode cX4_declarations 1 = .ok (.getfield 10, 3) := by decide +kernel
theorem dX4_declarations_4 : decode cX4_declarations 4 = .ok (.getfield 172, 3) := by decide +kernel
theorem dX4_declarations_7 : decode cX4_declarations 7 = .ok (.ireturn, 1) := by decide +kernel
theorem dX4_falseDeclarations_0 : decode cX4_falseDeclarations 0 = .ok (.aload_n 0, 1) := by decide +kernel
theorem dX4_falseDeclarations_1 : decode cX4_falseDeclarations 1 = .ok (.getfield 10, 3) := by decide +kernel
theorem dX4_falseDeclarations_4 : decode cX4_falseDeclarations 4 = .ok (.getfield 175, 3) := by decide +kernel
theorem dX4_falseDeclarations_7 : decode cX4_falseDeclarations 7 = .ok (.ireturn, 1) := by decide +kernel
theorem dX4_refutations_0 : decode cX4_refutations 0 = .ok (.aload_n 0, 1) := by decide +kernel
theorem dX4_refutations_1 : decode cX4_refutations 1 = .ok (.getfield 10, 3) := by decide +kernel
theorem dX4_refutations_4 : decode cX4_refutations 4 = .ok (.getfield 37, 3) := by decide +kernel
theorem dX4_refutations_7 : decode cX4_refutations 7 = .ok (.getfield 178, 3) := by decide +kernel
theorem dX4_refutations_10 : decode cX4_refutations 10 = .ok (.ireturn, 1) := by decide +kernel
theorem dX4_messages_0 : decode cX4_messages 0 = .ok (.aload_n 0, 1) := by decide +kernel
theorem dX4_messages_1 : decode cX4_messages 1 = .ok (.getfield 10, 3) := by decide +kernel
theorem dX4_messages_4 : decode cX4_messages 4 = .ok (.getfield 181, 3) := by decide +kernel
theorem dX4_messages_7 : decode cX4_messages 7 = .ok (.ireturn, 1) := by decide +kernel
theorem dX4_quietRounds_0 : decode cX4_quietRounds 0 = .ok (.aload_n 0, 1) := by decide +kernel
theorem dX4_quietRounds_1 : decode cX4_quietRounds 1 = .ok (.getfield 10, 3) := by decide +kernel
theorem dX4_quietRounds_4 : decode cX4_quietRounds 4 = .ok (.getfield 37, 3) := by decide +kernel
theorem dX4_quietRounds_7 : decode cX4_quietRounds 7 = .ok (.getfield 127, 3) := by decide +kernel
theorem dX4_quietRounds_10 : decode cX4_quietRounds 10 = .ok (.aload_n 0, 1) := by decide +kernel
theorem dX4_quietRounds_11 : decode cX4_quietRounds 11 = .ok (.getfield 10, 3) := by decide +kernel
theorem dX4_quietRounds_14 : decode cX4_quietRounds 14 = .ok (.getfield 37, 3) := by decide +kernel
theorem dX4_quietRounds_17 : decode cX4_quietRounds 17 = .ok (.getfield 184, 3) := by decide +kernel
theorem dX4_quietRounds_20 : decode cX4_quietRounds 20 = .ok (.isub, 1) := by decide +kernel
theorem dX4_quietRounds_21 : decode cX4_quietRounds 21 = .ok (.ireturn, 1) := by decide +kernel
theorem dX4_appendCharacter_0 : decode cX4_appendCharacter 0 = .ok (.iload_n 1, 1) := by decide +kernel
theorem dX4_appendCharacter_1 : decode cX4_appendCharacter 1 = .ok (.bipush 33, 2) := by decide +kernel
theorem dX4_appendCharacter_3 : decode cX4_appendCharacter 3 = .ok (.if_icmp .lt 9, 3) := by decide +kernel
theorem dX4_appendCharacter_6 : decode cX4_appendCharacter 6 = .ok (.iload_n 1, 1) := by decide +kernel
theorem dX4_appendCharacter_7 : decode cX4_appendCharacter 7 = .ok (.bipush 126, 2) := by decide +kernel
theorem dX4_appendCharacter_9 : decode cX4_appendCharacter 9 = .ok (.if_icmp .le 13, 3) := by decide +kernel
theorem dX4_appendCharacter_12 : decode cX4_appendCharacter 12 = .ok (.new 30, 3) := by decide +kernel
theorem dX4_appendCharacter_15 : decode cX4_appendCharacter 15 = .ok (.dup, 1) := by decide +kernel
theorem dX4_appendCharacter_16 : decode cX4_appendCharacter 16 = .ok (.ldc 187, 2) := by decide +kernel
theorem dX4_appendCharacter_18 : decode cX4_appendCharacter 18 = .ok (.invokespecial 34, 3) := by decide +kernel
theorem dX4_appendCharacter_21 : decode cX4_appendCharacter 21 = .ok (.athrow, 1) := by decide +kernel
theorem dX4_appendCharacter_22 : decode cX4_appendCharacter 22 = .ok (.aload_n 0, 1) := by decide +kernel
theorem dX4_appendCharacter_23 : decode cX4_appendCharacter 23 = .ok (.getfield 22, 3) := by decide +kernel
theorem dX4_appendCharacter_26 : decode cX4_appendCharacter 26 = .ok (.getfield 189, 3) := by decide +kernel
theorem dX4_appendCharacter_29 : decode cX4_appendCharacter 29 = .ok (.bipush 40, 2) := by decide +kernel
theorem dX4_appendCharacter_31 : decode cX4_appendCharacter 31 = .ok (.if_icmp .lt 13, 3) := by decide +kernel
theorem dX4_appendCharacter_34 : decode cX4_appendCharacter 34 = .ok (.new 75, 3) := by decide +kernel
theorem dX4_appendCharacter_37 : decode cX4_appendCharacter 37 = .ok (.dup, 1) := by decide +kernel
theorem dX4_appendCharacter_38 : decode cX4_appendCharacter 38 = .ok (.ldc 192, 2) := by decide +kernel
theorem dX4_appendCharacter_40 : decode cX4_appendCharacter 40 = .ok (.invokespecial 79, 3) := by decide +kernel
theorem dX4_appendCharacter_43 : decode cX4_appendCharacter 43 = .ok (.athrow, 1) := by decide +kernel
theorem dX4_appendCharacter_44 : decode cX4_appendCharacter 44 = .ok (.aload_n 0, 1) := by decide +kernel
theorem dX4_appendCharacter_45 : decode cX4_appendCharacter 45 = .ok (.getfield 22, 3) := by decide +kernel
theorem dX4_appendCharacter_48 : decode cX4_appendCharacter 48 = .ok (.getfield 194, 3) := by decide +kernel
theorem dX4_appendCharacter_51 : decode cX4_appendCharacter 51 = .ok (.aload_n 0, 1) := by decide +kernel
theorem dX4_appendCharacter_52 : decode cX4_appendCharacter 52 = .ok (.getfield 22, 3) := by decide +kernel
theorem dX4_appendCharacter_55 : decode cX4_appendCharacter 55 = .ok (.getfield 189, 3) := by decide +kernel
theorem dX4_appendCharacter_58 : decode cX4_appendCharacter 58 = .ok (.iload_n 1, 1) := by decide +kernel
theorem dX4_appendCharacter_59 : decode cX4_appendCharacter 59 = .ok (.i2c, 1) := by decide +kernel
theorem dX4_appendCharacter_60 : decode cX4_appendCharacter 60 = .ok (.castore, 1) := by decide +kernel
theorem dX4_appendCharacter_61 : decode cX4_appendCharacter 61 = .ok (.aload_n 0, 1) := by decide +kernel
theorem dX4_appendCharacter_62 : decode cX4_appendCharacter 62 = .ok (.getfield 22, 3) := by decide +kernel
theorem dX4_appendCharacter_65 : decode cX4_appendCharacter 65 = .ok (.dup, 1) := by decide +kernel
theorem dX4_appendCharacter_66 : decode cX4_appendCharacter 66 = .ok (.getfield 189, 3) := by decide +kernel
theorem dX4_appendCharacter_69 : decode cX4_appendCharacter 69 = .ok (.iconst 1, 1) := by decide +kernel
theorem dX4_appendCharacter_70 : decode cX4_appendCharacter 70 = .ok (.iadd, 1) := by decide +kernel
theorem dX4_appendCharacter_71 : decode cX4_appendCharacter 71 = .ok (.putfield 189, 3) := by decide +kernel
theorem dX4_appendCharacter_74 : decode cX4_appendCharacter 74 = .ok (.aload_n 0, 1) := by decide +kernel
theorem dX4_appendCharacter_75 : decode cX4_appendCharacter 75 = .ok (.getfield 22, 3) := by decide +kernel
theorem dX4_appendCharacter_78 : decode cX4_appendCharacter 78 = .ok (.getfield 189, 3) := by decide +kernel
theorem dX4_appendCharacter_81 : decode cX4_appendCharacter 81 = .ok (.ireturn, 1) := by decide +kernel
set_option maxRecDepth 20000 in
theorem ggX4_runText_X0_findFault : GoodIn wsX4_runText wsX0_findFault := goodIn_ca (goodIn_r _ [13, 14, 15, 16, 17, 12, 18, 19, 20, 21, 22, 23, 24, 25, 26, 27, 28, 29, 30, 31, 32, 33, 197, 198] (by decide +kernel) (by decide +kernel)) (goodIn_sub (fun _ h => List.mem_cons_of_mem _ (List.mem_append_left _ (List.mem_append_left _ (List.mem_append_right _ h)))) (by decide +kernel))
set_option maxRecDepth 20000 in
theorem gX4_runText_X0_findFault : GoodIn wsX4_runText (wsV RX4 198 RX0 yX0_findFault wsX0_findFault) := goodIn_app (goodIn_of _ (by decide +kernel)) ggX4_runText_X0_findFault
set_option maxRecDepth 20000 in
theorem ggX4_runText_X4_carryOut : GoodIn wsX4_runText wsX4_carryOut := goodIn_ca (goodIn_ca (goodIn_ca (goodIn_ca (goodIn_ca (goodIn_r _ [38, 3, 1, 5, 39, 40, 41, 42, 12, 43, 19, 20, 21, 22, 14, 23, 44, 45, 46, 47, 37, 48, 4, 49, 50, 51, 52, 53, 54, 55, 56, 57, 58, 59, 60, 61, 62, 63, 64, 65, 66, 67, 68, 69, 70, 71, 72, 73, 2, 74, 75, 76, 77, 78, 79, 80, 81, 82, 83, 84, 85, 86, 87, 88, 89, 90, 91, 92, 93, 94, 95, 96, 97, 98, 99, 100, 101, 102, 103, 104, 105, 106, 107, 108, 109, 110, 111, 112, 113, 114, 115, 116, 117, 118, 119, 120, 121, 122, 123, 124, 125, 126, 127, 128, 129, 130, 131, 132, 133, 134, 135, 136, 137, 138, 139, 140, 141, 142, 143, 144, 145, 146, 147, 148, 149, 150, 151, 152, 153, 154, 155, 156, 157, 158, 159, 160, 161, 162, 163, 164, 165, 166, 167, 168, 169, 170, 171, 172, 173, 174, 175, 176, 177, 178, 179, 180, 181, 182, 183, 184, 185, 186, 187, 188, 189, 191, 192, 193, 194, 195, 196, 197, 198, 199, 200, 201, 202, 203, 204, 205, 206, 207, 208, 209, 210, 211, 212, 213, 214, 215, 216, 217, 218, 219] (by decide +kernel) (by decide +kernel)) (goodIn_sub (fun _ h => List.mem_cons_of_mem _ (List.mem_append_left _ (List.mem_append_left _ (List.mem_append_right _ h)))) (by decide +kernel))) (goodIn_sub (fun _ h => List.mem_cons_of_mem _ (List.mem_append_left _ (List.mem_append_left _ (List.mem_append_left _ (List.mem_append_right _ h))))) (by decide +kernel))) (goodIn_sub (fun _ h => List.mem_cons_of_mem _ (List.mem_append_left _ (List.mem_append_right _ h))) (by decide +kernel))) (goodIn_sub (fun _ h => List.mem_cons_of_mem _ (List.mem_append_left _ (List.mem_append_left _ (List.mem_append_left _ (List.mem_append_left _ (List.mem_append_right _ h)))))) (by decide +kernel))) (goodIn_sub (fun _ h => List.mem_cons_of_mem _ (List.mem_append_right _ h)) (by decide +kernel))
set_option maxRecDepth 20000 in
theorem gX4_runText_X4_carryOut : GoodIn wsX4_runText (wsV RX4 201 RX4 yX4_carryOut wsX4_carryOut) := goodIn_app (goodIn_of _ (by decide +kernel)) ggX4_runText_X4_carryOut
set_option maxRecDepth 20000 in
theorem ggX4_runText_X0_lengthOfCommand : GoodIn wsX4_runText wsX0_lengthOfCommand := goodIn_ca (goodIn_r _ [33, 19, 20, 21, 12, 22, 14, 23, 24, 25, 26, 197, 198] (by decide +kernel) (by decide +kernel)) (goodIn_sub (fun _ h => List.mem_cons_of_mem _ (List.mem_append_left _ (List.mem_append_left _ (List.mem_append_right _ h)))) (by decide +kernel))
set_option maxRecDepth 20000 in
theorem gX4_runText_X0_lengthOfCommand : GoodIn wsX4_runText (wsV RX4 205 RX0 yX0_lengthOfCommand wsX0_lengthOfCommand) := goodIn_app (goodIn_of _ (by decide +kernel)) ggX4_runText_X0_lengthOfCommand
theorem dX4_runText_0 : decode cX4_runText 0 = .ok (.aload_n 0, 1) := by decide +kernel
theorem dX4_runText_1 : decode cX4_runText 1 = .ok (.getfield 22, 3) := by decide +kernel
theorem dX4_runText_4 : decode cX4_runText 4 = .ok (.invokevirtual 198, 3) := by decide +kernel
theorem dX4_runText_7 : decode cX4_runText 7 = .ok (.istore_n 1, 1) := by decide +kernel
theorem dX4_runText_8 : decode cX4_runText 8 = .ok (.iload_n 1, 1) := by decide +kernel
theorem dX4_runText_9 : decode cX4_runText 9 = .ok (.iconst (-1), 1) := by decide +kernel
theorem dX4_runText_10 : decode cX4_runText 10 = .ok (.if_icmp .ne 7, 3) := by decide +kernel
theorem dX4_runText_13 : decode cX4_runText 13 = .ok (.iconst 0, 1) := by decide +kernel
theorem dX4_runText_14 : decode cX4_runText 14 = .ok (.goto 4, 3) := by decide +kernel
theorem dX4_runText_17 : decode cX4_runText 17 = .ok (.iconst 1, 1) := by decide +kernel
theorem dX4_runText_18 : decode cX4_runText 18 = .ok (.istore_n 2, 1) := by decide +kernel
theorem dX4_runText_19 : decode cX4_runText 19 = .ok (.iconst 0, 1) := by decide +kernel
theorem dX4_runText_20 : decode cX4_runText 20 = .ok (.istore_n 3, 1) := by decide +kernel
theorem dX4_runText_21 : decode cX4_runText 21 = .ok (.iconst 0, 1) := by decide +kernel
theorem dX4_runText_22 : decode cX4_runText 22 = .ok (.istore 4, 2) := by decide +kernel
theorem dX4_runText_24 : decode cX4_runText 24 = .ok (.iload_n 2, 1) := by decide +kernel
theorem dX4_runText_25 : decode cX4_runText 25 = .ok (.ifCond .ne 48, 3) := by decide +kernel
theorem dX4_runText_28 : decode cX4_runText 28 = .ok (.iload 4, 2) := by decide +kernel
theorem dX4_runText_30 : decode cX4_runText 30 = .ok (.aload_n 0, 1) := by decide +kernel
theorem dX4_runText_31 : decode cX4_runText 31 = .ok (.getfield 22, 3) := by decide +kernel
theorem dX4_runText_34 : decode cX4_runText 34 = .ok (.getfield 189, 3) := by decide +kernel
theorem dX4_runText_37 : decode cX4_runText 37 = .ok (.if_icmp .ge 36, 3) := by decide +kernel
theorem dX4_runText_40 : decode cX4_runText 40 = .ok (.aload_n 0, 1) := by decide +kernel
theorem dX4_runText_41 : decode cX4_runText 41 = .ok (.iload 4, 2) := by decide +kernel
theorem dX4_runText_43 : decode cX4_runText 43 = .ok (.invokevirtual 201, 3) := by decide +kernel
theorem dX4_runText_46 : decode cX4_runText 46 = .ok (.istore_n 2, 1) := by decide +kernel
theorem dX4_runText_47 : decode cX4_runText 47 = .ok (.iload_n 2, 1) := by decide +kernel
theorem dX4_runText_48 : decode cX4_runText 48 = .ok (.ifCond .ne 6, 3) := by decide +kernel
theorem dX4_runText_51 : decode cX4_runText 51 = .ok (.iinc 3 1, 3) := by decide +kernel
theorem dX4_runText_54 : decode cX4_runText 54 = .ok (.iload 4, 2) := by decide +kernel
theorem dX4_runText_56 : decode cX4_runText 56 = .ok (.aload_n 0, 1) := by decide +kernel
theorem dX4_runText_57 : decode cX4_runText 57 = .ok (.getfield 22, 3) := by decide +kernel
theorem dX4_runText_60 : decode cX4_runText 60 = .ok (.iload 4, 2) := by decide +kernel
theorem dX4_runText_62 : decode cX4_runText 62 = .ok (.invokevirtual 205, 3) := by decide +kernel
theorem dX4_runText_65 : decode cX4_runText 65 = .ok (.iconst 1, 1) := by decide +kernel
theorem dX4_runText_66 : decode cX4_runText 66 = .ok (.iadd, 1) := by decide +kernel
theorem dX4_runText_67 : decode cX4_runText 67 = .ok (.iadd, 1) := by decide +kernel
theorem dX4_runText_68 : decode cX4_runText 68 = .ok (.istore 4, 2) := by decide +kernel
theorem dX4_runText_70 : decode cX4_runText 70 = .ok (.goto (-46), 3) := by decide +kernel
theorem dX4_runText_73 : decode cX4_runText 73 = .ok (.aload_n 0, 1) := by decide +kernel
theorem dX4_runText_74 : decode cX4_runText 74 = .ok (.getfield 22, 3) := by decide +kernel
theorem dX4_runText_77 : decode cX4_runText 77 = .ok (.iconst 0, 1) := by decide +kernel
theorem dX4_runText_78 : decode cX4_runText 78 = .ok (.putfield 189, 3) := by decide +kernel
theorem dX4_runText_81 : decode cX4_runText 81 = .ok (.aload_n 0, 1) := by decide +kernel
theorem dX4_runText_82 : decode cX4_runText 82 = .ok (.iload_n 2, 1) := by decide +kernel
theorem dX4_runText_83 : decode cX4_runText 83 = .ok (.putfield 26, 3) := by decide +kernel
theorem dX4_runText_86 : decode cX4_runText 86 = .ok (.aload_n 0, 1) := by decide +kernel
theorem dX4_runText_87 : decode cX4_runText 87 = .ok (.iload_n 2, 1) := by decide +kernel
theorem dX4_runText_88 : decode cX4_runText 88 = .ok (.iconst 1, 1) := by decide +kernel
theorem dX4_runText_89 : decode cX4_runText 89 = .ok (.if_icmp .ne 7, 3) := by decide +kernel
theorem dX4_runText_92 : decode cX4_runText 92 = .ok (.iload_n 1, 1) := by decide +kernel
theorem dX4_runText_93 : decode cX4_runText 93 = .ok (.goto 4, 3) := by decide +kernel
theorem dX4_runText_96 : decode cX4_runText 96 = .ok (.iload_n 3, 1) := by decide +kernel
theorem dX4_runText_97 : decode cX4_runText 97 = .ok (.putfield 208, 3) := by decide +kernel
theorem dX4_runText_100 : decode cX4_runText 100 = .ok (.iload_n 2, 1) := by decide +kernel
theorem dX4_runText_101 : decode cX4_runText 101 = .ok (.iconst 1, 1) := by decide +kernel
theorem dX4_runText_102 : decode cX4_runText 102 = .ok (.if_icmp .ne 13, 3) := by decide +kernel
theorem dX4_runText_105 : decode cX4_runText 105 = .ok (.new 30, 3) := by decide +kernel
theorem dX4_runText_108 : decode cX4_runText 108 = .ok (.dup, 1) := by decide +kernel
theorem dX4_runText_109 : decode cX4_runText 109 = .ok (.ldc 211, 2) := by decide +kernel
theorem dX4_runText_111 : decode cX4_runText 111 = .ok (.invokespecial 34, 3) := by decide +kernel
theorem dX4_runText_114 : decode cX4_runText 114 = .ok (.athrow, 1) := by decide +kernel
theorem dX4_runText_115 : decode cX4_runText 115 = .ok (.iload_n 2, 1) := by decide +kernel
theorem dX4_runText_116 : decode cX4_runText 116 = .ok (.ifCond .eq 13, 3) := by decide +kernel
theorem dX4_runText_119 : decode cX4_runText 119 = .ok (.new 75, 3) := by decide +kernel
theorem dX4_runText_122 : decode cX4_runText 122 = .ok (.dup, 1) := by decide +kernel
theorem dX4_runText_123 : decode cX4_runText 123 = .ok (.ldc 213, 2) := by decide +kernel
theorem dX4_runText_125 : decode cX4_runText 125 = .ok (.invokespecial 79, 3) := by decide +kernel
theorem dX4_runText_128 : decode cX4_runText 128 = .ok (.athrow, 1) := by decide +kernel
theorem dX4_runText_129 : decode cX4_runText 129 = .ok (.iload_n 3, 1) := by decide +kernel
theorem dX4_runText_130 : decode cX4_runText 130 = .ok (.ireturn, 1) := by decide +kernel
theorem dX4_failure_0 : decode cX4_failure 0 = .ok (.iload_n 1, 1) := by decide +kernel
theorem dX4_failure_1 : decode cX4_failure 1 = .ok (.ifCond .lt 8, 3) := by decide +kernel
theorem dX4_failure_4 : decode cX4_failure 4 = .ok (.iload_n 1, 1) := by decide +kernel
theorem dX4_failure_5 : decode cX4_failure 5 = .ok (.iconst 1, 1) := by decide +kernel
theorem dX4_failure_6 : decode cX4_failure 6 = .ok (.if_icmp .le 13, 3) := by decide +kernel
theorem dX4_failure_9 : decode cX4_failure 9 = .ok (.new 30, 3) := by decide +kernel
theorem dX4_failure_12 : decode cX4_failure 12 = .ok (.dup, 1) := by decide +kernel
theorem dX4_failure_13 : decode cX4_failure 13 = .ok (.ldc 215, 2) := by decide +kernel
theorem dX4_failure_15 : decode cX4_failure 15 = .ok (.invokespecial 34, 3) := by decide +kernel
theorem dX4_failure_18 : decode cX4_failure 18 = .ok (.athrow, 1) := by decide +kernel
theorem dX4_failure_19 : decode cX4_failure 19 = .ok (.aload_n 0, 1) := by decide +kernel
theorem dX4_failure_20 : decode cX4_failure 20 = .ok (.getfield 26, 3) := by decide +kernel
theorem dX4_failure_23 : decode cX4_failure 23 = .ok (.ifCond .ne 13, 3) := by decide +kernel
theorem dX4_failure_26 : decode cX4_failure 26 = .ok (.new 136, 3) := by decide +kernel
theorem dX4_failure_29 : decode cX4_failure 29 = .ok (.dup, 1) := by decide +kernel
theorem dX4_failure_30 : decode cX4_failure 30 = .ok (.ldc 217, 2) := by decide +kernel
theorem dX4_failure_32 : decode cX4_failure 32 = .ok (.invokespecial 140, 3) := by decide +kernel
theorem dX4_failure_35 : decode cX4_failure 35 = .ok (.athrow, 1) := by decide +kernel
theorem dX4_failure_36 : decode cX4_failure 36 = .ok (.iload_n 1, 1) := by decide +kernel
theorem dX4_failure_37 : decode cX4_failure 37 = .ok (.ifCond .ne 10, 3) := by decide +kernel
theorem dX4_failure_40 : decode cX4_failure 40 = .ok (.aload_n 0, 1) := by decide +kernel
theorem dX4_failure_41 : decode cX4_failure 41 = .ok (.getfield 26, 3) := by decide +kernel
theorem dX4_failure_44 : decode cX4_failure 44 = .ok (.goto 7, 3) := by decide +kernel
theorem dX4_failure_47 : decode cX4_failure 47 = .ok (.aload_n 0, 1) := by decide +kernel
theorem dX4_failure_48 : decode cX4_failure 48 = .ok (.getfield 208, 3) := by decide +kernel
theorem dX4_failure_51 : decode cX4_failure 51 = .ok (.ireturn, 1) := by decide +kernel
set_option maxRecDepth 20000 in
theorem ggX4_averageCounter_X4_requireNode : GoodIn wsX4_averageCounter wsX4_requireNode := goodIn_ca (goodIn_r _ [7, 8, 9] (by decide +kernel) (by decide +kernel)) (goodIn_sub (fun _ h => List.mem_cons_of_mem _ (List.mem_append_left _ (List.mem_append_right _ h))) (by decide +kernel))
set_option maxRecDepth 20000 in
theorem gX4_averageCounter_X4_requireNode : GoodIn wsX4_averageCounter (va_wsS RX4 61 yX4_requireNode wsX4_requireNode) := goodIn_app (goodIn_of _ (by decide +kernel)) ggX4_averageCounter_X4_requireNode
set_option maxRecDepth 20000 in
theorem ggX4_averageCounter_X1_sumOfCounters : GoodIn wsX4_averageCounter wsX1_sumOfCounters := goodIn_ca (goodIn_r _ [14, 15, 16, 6, 17, 31, 32, 33, 34, 35, 36, 37, 38, 39, 40] (by decide +kernel) (by decide +kernel)) (goodIn_sub (fun _ h => List.mem_cons_of_mem _ (List.mem_append_right _ h)) (by decide +kernel))
set_option maxRecDepth 20000 in
theorem gX4_averageCounter_X1_sumOfCounters : GoodIn wsX4_averageCounter (wsV RX4 219 RX1 yX1_sumOfCounters wsX1_sumOfCounters) := goodIn_app (goodIn_of _ (by decide +kernel)) ggX4_averageCounter_X1_sumOfCounters
theorem dX4_averageCounter_0 : decode cX4_averageCounter 0 = .ok (.iload_n 1, 1) := by decide +kernel
theorem dX4_averageCounter_1 : decode cX4_averageCounter 1 = .ok (.invokestatic 61, 3) := by decide +kernel
theorem dX4_averageCounter_4 : decode cX4_averageCounter 4 = .ok (.aload_n 0, 1) := by decide +kernel
theorem dX4_averageCounter_5 : decode cX4_averageCounter 5 = .ok (.getfield 10, 3) := by decide +kernel
theorem dX4_averageCounter_8 : decode cX4_averageCounter 8 = .ok (.getfield 37, 3) := by decide +kernel
theorem dX4_averageCounter_11 : decode cX4_averageCounter 11 = .ok (.iload_n 1, 1) := by decide +kernel
theorem dX4_averageCounter_12 : decode cX4_averageCounter 12 = .ok (.invokevirtual 219, 3) := by decide +kernel
theorem dX4_averageCounter_15 : decode cX4_averageCounter 15 = .ok (.i2d, 1) := by decide +kernel
theorem dX4_averageCounter_16 : decode cX4_averageCounter 16 = .ok (.ldc2_w 222, 3) := by decide +kernel
theorem dX4_averageCounter_19 : decode cX4_averageCounter 19 = .ok (.ddiv, 1) := by decide +kernel
theorem dX4_averageCounter_20 : decode cX4_averageCounter 20 = .ok (.dreturn, 1) := by decide +kernel
theorem dX4_falseShare_0 : decode cX4_falseShare 0 = .ok (.aload_n 0, 1) := by decide +kernel
theorem dX4_falseShare_1 : decode cX4_falseShare 1 = .ok (.getfield 10, 3) := by decide +kernel
theorem dX4_falseShare_4 : decode cX4_falseShare 4 = .ok (.getfield 172, 3) := by decide +kernel
theorem dX4_falseShare_7 : decode cX4_falseShare 7 = .ok (.ifCond .ne 13, 3) := by decide +kernel
theorem dX4_falseShare_10 : decode cX4_falseShare 10 = .ok (.new 224, 3) := by decide +kernel
theorem dX4_falseShare_13 : decode cX4_falseShare 13 = .ok (.dup, 1) := by decide +kernel
theorem dX4_falseShare_14 : decode cX4_falseShare 14 = .ok (.ldc 226, 2) := by decide +kernel
theorem dX4_falseShare_16 : decode cX4_falseShare 16 = .ok (.invokespecial 228, 3) := by decide +kernel
theorem dX4_falseShare_19 : decode cX4_falseShare 19 = .ok (.athrow, 1) := by decide +kernel
theorem dX4_falseShare_20 : decode cX4_falseShare 20 = .ok (.aload_n 0, 1) := by decide +kernel
theorem dX4_falseShare_21 : decode cX4_falseShare 21 = .ok (.getfield 10, 3) := by decide +kernel
theorem dX4_falseShare_24 : decode cX4_falseShare 24 = .ok (.getfield 175, 3) := by decide +kernel
theorem dX4_falseShare_27 : decode cX4_falseShare 27 = .ok (.i2f, 1) := by decide +kernel
theorem dX4_falseShare_28 : decode cX4_falseShare 28 = .ok (.aload_n 0, 1) := by decide +kernel
theorem dX4_falseShare_29 : decode cX4_falseShare 29 = .ok (.getfield 10, 3) := by decide +kernel
theorem dX4_falseShare_32 : decode cX4_falseShare 32 = .ok (.getfield 172, 3) := by decide +kernel
theorem dX4_falseShare_35 : decode cX4_falseShare 35 = .ok (.i2f, 1) := by decide +kernel
theorem dX4_falseShare_36 : decode cX4_falseShare 36 = .ok (.fdiv, 1) := by decide +kernel
theorem dX4_falseShare_37 : decode cX4_falseShare 37 = .ok (.freturn, 1) := by decide +kernel
set_option maxRecDepth 20000 in
theorem ggX4_save_X3_copyFrom : GoodIn wsX4_save wsX3_copyFrom := goodIn_ca (goodIn_r _ [8, 9, 10, 11, 12, 13, 14, 15, 16, 17, 18, 19, 20, 21, 22, 23, 24, 25, 26, 27, 28, 29, 30, 31, 32, 33, 34, 35, 36, 37, 38, 39, 40, 41, 42, 43, 50, 51, 52, 53, 54, 55, 56, 57, 58, 59, 60, 61, 62, 63, 64, 65, 66, 67, 68, 69, 70] (by decide +kernel) (by decide +kernel)) (goodIn_sub (fun _ h => List.mem_cons_of_mem _ (List.mem_append_right _ h)) (by decide +kernel))
set_option maxRecDepth 20000 in
theorem gX4_save_X3_copyFrom : GoodIn wsX4_save (wsV RX4 229 RX3 yX3_copyFrom wsX3_copyFrom) := goodIn_app (goodIn_of _ (by decide +kernel)) ggX4_save_X3_copyFrom
theorem dX4_save_0 : decode cX4_save 0 = .ok (.aload_n 0, 1) := by decide +kernel
theorem dX4_save_1 : decode cX4_save 1 = .ok (.getfield 16, 3) := by decide +kernel
theorem dX4_save_4 : decode cX4_save 4 = .ok (.aload_n 0, 1) := by decide +kernel
theorem dX4_save_5 : decode cX4_save 5 = .ok (.getfield 10, 3) := by decide +kernel
theorem dX4_save_8 : decode cX4_save 8 = .ok (.invokevirtual 229, 3) := by decide +kernel
theorem dX4_save_11 : decode cX4_save 11 = .ok (.aload_n 0, 1) := by decide +kernel
theorem dX4_save_12 : decode cX4_save 12 = .ok (.iconst 1, 1) := by decide +kernel
theorem dX4_save_13 : decode cX4_save 13 = .ok (.putfield 233, 3) := by decide +kernel
theorem dX4_save_16 : decode cX4_save 16 = .ok (.return_, 1) := by decide +kernel
set_option maxRecDepth 20000 in
theorem ggX4_restore_X3_copyFrom : GoodIn wsX4_restore wsX3_copyFrom := goodIn_ca (goodIn_r _ [10, 11, 12, 13, 14, 15, 16, 17, 18, 19, 20, 21, 22, 23, 24, 25, 26, 27, 28, 29, 30, 31, 32, 33, 34, 35, 36, 37, 38, 39, 40, 41, 42, 43, 44, 45, 52, 53, 54, 55, 56, 57, 58, 59, 60, 61, 62, 63, 64, 65, 66, 67, 68, 69, 70, 71, 72] (by decide +kernel) (by decide +kernel)) (goodIn_sub (fun _ h => List.mem_cons_of_mem _ (List.mem_append_right _ h)) (by decide +kernel))
set_option maxRecDepth 20000 in
theorem gX4_restore_X3_copyFrom : GoodIn wsX4_restore (wsV RX4 229 RX3 yX3_copyFrom wsX3_copyFrom) := goodIn_app (goodIn_of _ (by decide +kernel)) ggX4_restore_X3_copyFrom
theorem dX4_restore_0 : decode cX4_restore 0 = .ok (.aload_n 0, 1) := by decide +kernel
theorem dX4_restore_1 : decode cX4_restore 1 = .ok (.getfield 233, 3) := by decide +kernel
theorem dX4_restore_4 : decode cX4_restore 4 = .ok (.ifCond .ne 13, 3) := by decide +kernel
theorem dX4_restore_7 : decode cX4_restore 7 = .ok (.new 75, 3) := by decide +kernel
theorem dX4_restore_10 : decode cX4_restore 10 = .ok (.dup, 1) := by decide +kernel
theorem dX4_restore_11 : decode cX4_restore 11 = .ok (.ldc 237, 2) := by decide +kernel
theorem dX4_restore_13 : decode cX4_restore 13 = .ok (.invokespecial 79, 3) := by decide +kernel
theorem dX4_restore_16 : decode cX4_restore 16 = .ok (.athrow, 1) := by decide +kernel
theorem dX4_restore_17 : decode cX4_restore 17 = .ok (.aload_n 0, 1) := by decide +kernel
theorem dX4_restore_18 : decode cX4_restore 18 = .ok (.getfield 10, 3) := by decide +kernel
theorem dX4_restore_21 : decode cX4_restore 21 = .ok (.aload_n 0, 1) := by decide +kernel
theorem dX4_restore_22 : decode cX4_restore 22 = .ok (.getfield 16, 3) := by decide +kernel
theorem dX4_restore_25 : decode cX4_restore 25 = .ok (.invokevirtual 229, 3) := by decide +kernel
theorem dX4_restore_28 : decode cX4_restore 28 = .ok (.return_, 1) := by decide +kernel
theorem dX4_requireNode_0 : decode cX4_requireNode 0 = .ok (.iload_n 0, 1) := by decide +kernel
theorem dX4_requireNode_1 : decode cX4_requireNode 1 = .ok (.ifCond .lt 9, 3) := by decide +kernel
theorem dX4_requireNode_4 : decode cX4_requireNode 4 = .ok (.iload_n 0, 1) := by decide +kernel
theorem dX4_requireNode_5 : decode cX4_requireNode 5 = .ok (.bipush 8, 2) := by decide +kernel
theorem dX4_requireNode_7 : decode cX4_requireNode 7 = .ok (.if_icmp .lt 13, 3) := by decide +kernel
theorem dX4_requireNode_10 : decode cX4_requireNode 10 = .ok (.new 239, 3) := by decide +kernel
theorem dX4_requireNode_13 : decode cX4_requireNode 13 = .ok (.dup, 1) := by decide +kernel
theorem dX4_requireNode_14 : decode cX4_requireNode 14 = .ok (.ldc 241, 2) := by decide +kernel
theorem dX4_requireNode_16 : decode cX4_requireNode 16 = .ok (.invokespecial 243, 3) := by decide +kernel
theorem dX4_requireNode_19 : decode cX4_requireNode 19 = .ok (.athrow, 1) := by decide +kernel
theorem dX4_requireNode_20 : decode cX4_requireNode 20 = .ok (.return_, 1) := by decide +kernel
set_option maxRecDepth 20000 in
theorem ggX4_requireTwoNodes_X4_requireNode : GoodIn wsX4_requireTwoNodes wsX4_requireNode := goodIn_ca (goodIn_r _ [6, 7, 8] (by decide +kernel) (by decide +kernel)) (goodIn_sub (fun _ h => List.mem_cons_of_mem _ (List.mem_append_right _ h)) (by decide +kernel))
set_option maxRecDepth 20000 in
theorem gX4_requireTwoNodes_X4_requireNode : GoodIn wsX4_requireTwoNodes (va_wsS RX4 61 yX4_requireNode wsX4_requireNode) := goodIn_app (goodIn_of _ (by decide +kernel)) ggX4_requireTwoNodes_X4_requireNode
theorem dX4_requireTwoNodes_0 : decode cX4_requireTwoNodes 0 = .ok (.iload_n 0, 1) := by decide +kernel
theorem dX4_requireTwoNodes_1 : decode cX4_requireTwoNodes 1 = .ok (.invokestatic 61, 3) := by decide +kernel
theorem dX4_requireTwoNodes_4 : decode cX4_requireTwoNodes 4 = .ok (.iload_n 1, 1) := by decide +kernel
theorem dX4_requireTwoNodes_5 : decode cX4_requireTwoNodes 5 = .ok (.invokestatic 61, 3) := by decide +kernel
theorem dX4_requireTwoNodes_8 : decode cX4_requireTwoNodes 8 = .ok (.iload_n 0, 1) := by decide +kernel
theorem dX4_requireTwoNodes_9 : decode cX4_requireTwoNodes 9 = .ok (.iload_n 1, 1) := by decide +kernel
theorem dX4_requireTwoNodes_10 : decode cX4_requireTwoNodes 10 = .ok (.if_icmp .ne 13, 3) := by decide +kernel
theorem dX4_requireTwoNodes_13 : decode cX4_requireTwoNodes 13 = .ok (.new 30, 3) := by decide +kernel
theorem dX4_requireTwoNodes_16 : decode cX4_requireTwoNodes 16 = .ok (.dup, 1) := by decide +kernel
theorem dX4_requireTwoNodes_17 : decode cX4_requireTwoNodes 17 = .ok (.ldc 244, 2) := by decide +kernel
theorem dX4_requireTwoNodes_19 : decode cX4_requireTwoNodes 19 = .ok (.invokespecial 34, 3) := by decide +kernel
theorem dX4_requireTwoNodes_22 : decode cX4_requireTwoNodes 22 = .ok (.athrow, 1) := by decide +kernel
theorem dX4_requireTwoNodes_23 : decode cX4_requireTwoNodes 23 = .ok (.return_, 1) := by decide +kernel
theorem dX4_pair_0 : decode cX4_pair 0 = .ok (.iload_n 0, 1) := by decide +kernel
theorem dX4_pair_1 : decode cX4_pair 1 = .ok (.bipush 8, 2) := by decide +kernel
theorem dX4_pair_3 : decode cX4_pair 3 = .ok (.imul, 1) := by decide +kernel
theorem dX4_pair_4 : decode cX4_pair 4 = .ok (.iload_n 1, 1) := by decide +kernel
theorem dX4_pair_5 : decode cX4_pair 5 = .ok (.iadd, 1) := by decide +kernel
theorem dX4_pair_6 : decode cX4_pair 6 = .ok (.ireturn, 1) := by decide +kernel
set_option maxRecDepth 20000 in
theorem ggX4_carryOut_X0_digitAt : GoodIn wsX4_carryOut wsX0_digitAt := goodIn_ca (goodIn_r _ [9, 10, 11, 12, 8, 13, 14, 15, 171, 172] (by decide +kernel) (by decide +kernel)) (goodIn_sub (fun _ h => List.mem_cons_of_mem _ (List.mem_append_left _ (List.mem_append_left _ (List.mem_append_left _ (List.mem_append_left _ (List.mem_append_right _ h)))))) (by decide +kernel))
set_option maxRecDepth 20000 in
theorem gX4_carryOut_X0_digitAt : GoodIn wsX4_carryOut (wsV RX4 246 RX0 yX0_digitAt wsX0_digitAt) := goodIn_app (goodIn_of _ (by decide +kernel)) ggX4_carryOut_X0_digitAt
set_option maxRecDepth 20000 in
theorem ggX4_carryOut_X0_signAt : GoodIn wsX4_carryOut wsX0_signAt := goodIn_ca (goodIn_r _ [13, 14, 15, 171, 172] (by decide +kernel) (by decide +kernel)) (goodIn_sub (fun _ h => List.mem_cons_of_mem _ (List.mem_append_left _ (List.mem_append_left _ (List.mem_append_left _ (List.mem_append_left _ (List.mem_append_right _ h)))))) (by decide +kernel))
set_option maxRecDepth 20000 in
theorem gX4_carryOut_X0_signAt : GoodIn wsX4_carryOut (wsV RX4 249 RX0 yX0_signAt wsX0_signAt) := goodIn_app (goodIn_of _ (by decide +kernel)) ggX4_carryOut_X0_signAt
set_option maxRecDepth 20000 in
theorem ggX4_carryOut_X4_crash : GoodIn wsX4_carryOut wsX4_crash := goodIn_ca (goodIn_ca (goodIn_ca (goodIn_r _ [21, 1, 22, 4, 23, 24, 25, 26, 27, 20, 28, 29, 30, 31, 32, 33, 34, 35, 36, 37, 38, 39, 40, 41, 42, 43, 165, 166, 167, 168, 169, 170, 173, 174, 175, 176, 177, 178, 179, 180, 181, 182, 183, 184, 185, 186, 187, 188, 189, 190, 191, 192, 193] (by decide +kernel) (by decide +kernel)) (goodIn_sub (fun _ h => List.mem_cons_of_mem _ (List.mem_append_left _ (List.mem_append_left _ (List.mem_append_left _ (List.mem_append_left _ (List.mem_append_right _ h)))))) (by decide +kernel))) (goodIn_sub (fun _ h => List.mem_cons_of_mem _ (List.mem_append_left _ (List.mem_append_left _ (List.mem_append_left _ (List.mem_append_right _ h))))) (by decide +kernel))) (goodIn_sub (fun _ h => List.mem_cons_of_mem _ (List.mem_append_left _ (List.mem_append_left _ (List.mem_append_right _ h)))) (by decide +kernel))
set_option maxRecDepth 20000 in
theorem gX4_carryOut_X4_crash : GoodIn wsX4_carryOut (wsV RX4 253 RX4 yX4_crash wsX4_crash) := goodIn_app (goodIn_of _ (by decide +kernel)) ggX4_carryOut_X4_crash
set_option maxRecDepth 20000 in
theorem ggX4_carryOut_X4_join : GoodIn wsX4_carryOut wsX4_join := goodIn_ca (goodIn_ca (goodIn_ca (goodIn_ca (goodIn_r _ [47, 1, 22, 2, 48, 4, 23, 24, 25, 49, 26, 27, 20, 28, 29, 30, 50, 51, 52, 41, 53, 43, 54, 55, 56, 57, 58, 59, 60, 61, 62, 63, 64, 65, 66, 67, 68, 69, 70, 34, 71, 72, 73, 74, 75, 76, 77, 78, 79, 80, 81, 82, 83, 84, 85, 86, 87, 88, 89, 90, 91, 92, 93, 94, 95, 96, 97, 98, 99, 100, 101, 102, 103, 104, 105, 106, 107, 36, 108, 109, 32, 33, 35, 37, 31, 165, 166, 167, 168, 169, 170, 173, 174, 175, 176, 177, 178, 179, 180, 181, 182, 183, 184, 185, 186, 187, 188, 189, 190, 191, 192, 193] (by decide +kernel) (by decide +kernel)) (goodIn_sub (fun _ h => List.mem_cons_of_mem _ (List.mem_append_left _ (List.mem_append_left _ (List.mem_append_left _ (List.mem_append_left _ (List.mem_append_right _ h)))))) (by decide +kernel))) (goodIn_sub (fun _ h => List.mem_cons_of_mem _ (List.mem_append_left _ (List.mem_append_left _ (List.mem_append_left _ (List.mem_append_right _ h))))) (by decide +kernel))) (goodIn_sub (fun _ h => List.mem_cons_of_mem _ (List.mem_append_left _ (List.mem_append_right _ h))) (by decide +kernel))) (goodIn_sub (fun _ h => List.mem_cons_of_mem _ (List.mem_append_left _ (List.mem_append_left _ (List.mem_append_right _ h)))) (by decide +kernel))
set_option maxRecDepth 20000 in
theorem gX4_carryOut_X4_join : GoodIn wsX4_carryOut (wsV RX4 256 RX4 yX4_join wsX4_join) := goodIn_app (goodIn_of _ (by decide +kernel)) ggX4_carryOut_X4_join
set_option maxRecDepth 20000 in
theorem ggX4_carryOut_X4_move : GoodIn wsX4_carryOut wsX4_move := goodIn_ca (goodIn_ca (goodIn_ca (goodIn_r _ [113, 2, 48, 4, 23, 114, 25, 26, 27, 20, 28, 29, 30, 31, 32, 33, 34, 35, 36, 37, 165, 166, 167, 168, 169, 170, 173, 174, 175, 176, 177, 178, 179, 180, 181, 182, 183, 184, 185, 186, 187, 188, 189, 190, 191, 192, 193] (by decide +kernel) (by decide +kernel)) (goodIn_sub (fun _ h => List.mem_cons_of_mem _ (List.mem_append_left _ (List.mem_append_right _ h))) (by decide +kernel))) (goodIn_sub (fun _ h => List.mem_cons_of_mem _ (List.mem_append_left _ (List.mem_append_left _ (List.mem_append_left _ (List.mem_append_left _ (List.mem_append_right _ h)))))) (by decide +kernel))) (goodIn_sub (fun _ h => List.mem_cons_of_mem _ (List.mem_append_left _ (List.mem_append_left _ (List.mem_append_right _ h)))) (by decide +kernel))
set_option maxRecDepth 20000 in
theorem gX4_carryOut_X4_move : GoodIn wsX4_carryOut (wsV RX4 259 RX4 yX4_move wsX4_move) := goodIn_app (goodIn_of _ (by decide +kernel)) ggX4_carryOut_X4_move
set_option maxRecDepth 20000 in
theorem ggX4_carryOut_X3_play : GoodIn wsX4_carryOut wsX3_play := goodIn_ca (goodIn_ca (goodIn_r _ [118, 66, 119, 63, 64, 120, 121, 122, 61, 123, 124, 125, 126, 127, 128, 129, 130, 131, 132, 133, 34, 134, 72, 56, 20, 57, 89, 90, 91, 92, 93, 73, 94, 95, 96, 97, 98, 74, 75, 99, 100, 101, 102, 103, 104, 105, 106, 107, 36, 108, 109, 32, 33, 35, 37, 76, 77, 78, 41, 79, 43, 80, 51, 52, 53, 54, 55, 135, 136, 137, 138, 139, 140, 141, 142, 143, 144, 145, 146, 147, 148, 149, 150, 151, 152, 153, 154, 155, 85, 86, 87, 88, 156, 157, 158, 159, 160, 161, 162, 163, 164, 173, 174, 175, 176, 177, 178, 179, 184, 185, 186, 187, 188, 189, 190, 191, 192, 193, 180, 181, 182, 183] (by decide +kernel) (by decide +kernel)) (goodIn_sub (fun _ h => List.mem_cons_of_mem _ (List.mem_append_left _ (List.mem_append_left _ (List.mem_append_left _ (List.mem_append_left _ (List.mem_append_right _ h)))))) (by decide +kernel))) (goodIn_sub (fun _ h => List.mem_cons_of_mem _ (List.mem_append_right _ h)) (by decide +kernel))
set_option maxRecDepth 20000 in
theorem gX4_carryOut_X3_play : GoodIn wsX4_carryOut (wsV RX4 124 RX3 yX3_play wsX3_play) := goodIn_app (goodIn_of _ (by decide +kernel)) ggX4_carryOut_X3_play
theorem dX4_carryOut_0 : decode cX4_carryOut 0 = .ok (.aload_n 0, 1) := by decide +kernel
theorem dX4_carryOut_1 : decode cX4_carryOut 1 = .ok (.getfield 22, 3) := by decide +kernel
theorem dX4_carryOut_4 : decode cX4_carryOut 4 = .ok (.iload_n 1, 1) := by decide +kernel
theorem dX4_carryOut_5 : decode cX4_carryOut 5 = .ok (.iconst 1, 1) := by decide +kernel
theorem dX4_carryOut_6 : decode cX4_carryOut 6 = .ok (.iadd, 1) := by decide +kernel
theorem dX4_carryOut_7 : decode cX4_carryOut 7 = .ok (.invokevirtual 246, 3) := by decide +kernel
theorem dX4_carryOut_10 : decode cX4_carryOut 10 = .ok (.istore_n 2, 1) := by decide +kernel
theorem dX4_carryOut_11 : decode cX4_carryOut 11 = .ok (.aload_n 0, 1) := by decide +kernel
theorem dX4_carryOut_12 : decode cX4_carryOut 12 = .ok (.getfield 22, 3) := by decide +kernel
theorem dX4_carryOut_15 : decode cX4_carryOut 15 = .ok (.iload_n 1, 1) := by decide +kernel
theorem dX4_carryOut_16 : decode cX4_carryOut 16 = .ok (.invokevirtual 249, 3) := by decide +kernel
theorem dX4_carryOut_19 : decode cX4_carryOut 19 = .ok (.lookupswitch 99 #[(99, 41), (106, 50), (112, 69), (114, 88)], 41) := by decide +kernel
theorem dX4_carryOut_60 : decode cX4_carryOut 60 = .ok (.aload_n 0, 1) := by decide +kernel
theorem dX4_carryOut_61 : decode cX4_carryOut 61 = .ok (.iload_n 2, 1) := by decide +kernel
theorem dX4_carryOut_62 : decode cX4_carryOut 62 = .ok (.invokevirtual 253, 3) := by decide +kernel
theorem dX4_carryOut_65 : decode cX4_carryOut 65 = .ok (.pop, 1) := by decide +kernel
theorem dX4_carryOut_66 : decode cX4_carryOut 66 = .ok (.goto 52, 3) := by decide +kernel
theorem dX4_carryOut_69 : decode cX4_carryOut 69 = .ok (.aload_n 0, 1) := by decide +kernel
theorem dX4_carryOut_70 : decode cX4_carryOut 70 = .ok (.iload_n 2, 1) := by decide +kernel
theorem dX4_carryOut_71 : decode cX4_carryOut 71 = .ok (.aload_n 0, 1) := by decide +kernel
theorem dX4_carryOut_72 : decode cX4_carryOut 72 = .ok (.getfield 22, 3) := by decide +kernel
theorem dX4_carryOut_75 : decode cX4_carryOut 75 = .ok (.iload_n 1, 1) := by decide +kernel
theorem dX4_carryOut_76 : decode cX4_carryOut 76 = .ok (.iconst 2, 1) := by decide +kernel
theorem dX4_carryOut_77 : decode cX4_carryOut 77 = .ok (.iadd, 1) := by decide +kernel
theorem dX4_carryOut_78 : decode cX4_carryOut 78 = .ok (.invokevirtual 246, 3) := by decide +kernel
theorem dX4_carryOut_81 : decode cX4_carryOut 81 = .ok (.invokevirtual 256, 3) := by decide +kernel
theorem dX4_carryOut_84 : decode cX4_carryOut 84 = .ok (.pop, 1) := by decide +kernel
theorem dX4_carryOut_85 : decode cX4_carryOut 85 = .ok (.goto 33, 3) := by decide +kernel
theorem dX4_carryOut_88 : decode cX4_carryOut 88 = .ok (.aload_n 0, 1) := by decide +kernel
theorem dX4_carryOut_89 : decode cX4_carryOut 89 = .ok (.iload_n 2, 1) := by decide +kernel
theorem dX4_carryOut_90 : decode cX4_carryOut 90 = .ok (.aload_n 0, 1) := by decide +kernel
theorem dX4_carryOut_91 : decode cX4_carryOut 91 = .ok (.getfield 22, 3) := by decide +kernel
theorem dX4_carryOut_94 : decode cX4_carryOut 94 = .ok (.iload_n 1, 1) := by decide +kernel
theorem dX4_carryOut_95 : decode cX4_carryOut 95 = .ok (.iconst 2, 1) := by decide +kernel
theorem dX4_carryOut_96 : decode cX4_carryOut 96 = .ok (.iadd, 1) := by decide +kernel
theorem dX4_carryOut_97 : decode cX4_carryOut 97 = .ok (.invokevirtual 246, 3) := by decide +kernel
theorem dX4_carryOut_100 : decode cX4_carryOut 100 = .ok (.invokevirtual 259, 3) := by decide +kernel
theorem dX4_carryOut_103 : decode cX4_carryOut 103 = .ok (.pop, 1) := by decide +kernel
theorem dX4_carryOut_104 : decode cX4_carryOut 104 = .ok (.goto 14, 3) := by decide +kernel
theorem dX4_carryOut_107 : decode cX4_carryOut 107 = .ok (.aload_n 0, 1) := by decide +kernel
theorem dX4_carryOut_108 : decode cX4_carryOut 108 = .ok (.getfield 10, 3) := by decide +kernel
theorem dX4_carryOut_111 : decode cX4_carryOut 111 = .ok (.iload_n 2, 1) := by decide +kernel
theorem dX4_carryOut_112 : decode cX4_carryOut 112 = .ok (.invokevirtual 124, 3) := by decide +kernel
theorem dX4_carryOut_115 : decode cX4_carryOut 115 = .ok (.goto 3, 3) := by decide +kernel
theorem dX4_carryOut_118 : decode cX4_carryOut 118 = .ok (.goto 9, 3) := by decide +kernel
theorem dX4_carryOut_121 : decode cX4_carryOut 121 = .ok (.astore_n 3, 1) := by decide +kernel
theorem dX4_carryOut_122 : decode cX4_carryOut 122 = .ok (.iconst 2, 1) := by decide +kernel
theorem dX4_carryOut_123 : decode cX4_carryOut 123 = .ok (.ireturn, 1) := by decide +kernel
theorem dX4_carryOut_124 : decode cX4_carryOut 124 = .ok (.astore_n 3, 1) := by decide +kernel
theorem dX4_carryOut_125 : decode cX4_carryOut 125 = .ok (.iconst 3, 1) := by decide +kernel
theorem dX4_carryOut_126 : decode cX4_carryOut 126 = .ok (.ireturn, 1) := by decide +kernel
theorem dX4_carryOut_127 : decode cX4_carryOut 127 = .ok (.iconst 0, 1) := by decide +kernel
theorem dX4_carryOut_128 : decode cX4_carryOut 128 = .ok (.ireturn, 1) := by decide +kernel
end
section
/-! the state of the simulation: st f k, field f at k; its pictures in the heap -/
abbrev St : Type := Nat → Nat → Int32
def st (s : St) (f k : Nat) (x : Int32) : St := fun g => cond (Nat.beq g f) (upd (s f) k x) (s g)
theorem st_s (s : St) (f k : Nat) (x : Int32) : st s f k x f k = x := by simp [st, upd]
theorem st_k (s : St) (f k j : Nat) (x : Int32) (h : j ≠ k) : st s f k x f j = s f j := by simp [st, upd, h]
theorem st_f (s : St) (f g k j : Nat) (x : Int32) (h : g ≠ f) : st s f k x g j = s g j := by
  have : Nat.beq g f = false := by
    cases e : Nat.beq g f
    · rfl
    · exact absurd (Nat.eq_of_beq_eq_true e) h
  simp [st, this]
theorem st_g (s : St) (f g k : Nat) (x : Int32) (h : g ≠ f) : st s f k x g = s g := by
  funext j
  exact st_f s f g k j x h
theorem st_at (s : St) (f g k j : Nat) (x : Int32) : st s f k x g j = if g = f ∧ j = k then x else s g j := by
  by_cases h : g = f
  · subst h
    by_cases h2 : j = k
    · subst h2; simp [st_s]
    · simp [st_k _ _ _ _ _ h2, h2]
  · simp [st_f _ _ _ _ _ _ h, h]
theorem st_comm (s : St) (f k : Nat) (x : Int32) (g j : Nat) (y : Int32) (h : ¬ (f = g ∧ k = j)) : st (st s f k x) g j y = st (st s g j y) f k x := by
  funext a b
  simp only [st_at]
  by_cases h1 : a = g ∧ b = j
  · by_cases h2 : a = f ∧ b = k
    · exact absurd ⟨h2.1.symm.trans h1.1, h2.2.symm.trans h1.2⟩ h
    · simp [h1, h2]
      intro e1 e2
      exact absurd ⟨e1.symm, e2.symm⟩ h
  · by_cases h2 : a = f ∧ b = k <;> simp [h1, h2]
def b2 (b : Bool) : Int32 := cond b 1 0
theorem b2_t : b2 true = 1 := rfl
theorem b2_f : b2 false = 0 := rfl
theorem b2_0 {b : Bool} : b2 b = 0 ↔ b = false := by cases b <;> decide
theorem b2_n0 {b : Bool} : ¬ b2 b = 0 ↔ b = true := by cases b <;> decide
theorem b2_1 {b : Bool} : b2 b = 1 ↔ b = true := by cases b <;> decide
theorem b2_inj {a b : Bool} (h : b2 a = b2 b) : a = b := by cases a <;> cases b <;> first | rfl | (exact absurd h (by decide))
theorem b2_of {x : Int32} (h : x = 0 ∨ x = 1) : x = b2 (decide (x = 1)) := by rcases h with rfl | rfl <;> rfl
theorem b2_nar (b : Bool) : vp_nar .boolean (b2 b) = b2 b := by cases b <;> decide
theorem b2_narrow (b : Bool) : narrow .boolean (.int (b2 b)) = .int (b2 b) := by cases b <;> rfl
theorem b2_fits (b : Bool) : fits .boolean (.int (b2 b)) = true := by cases b <;> rfl
abbrev GA : Type := va_G × ClassId × ClassId × ClassId
abbrev gcl : List vw_C := [(RX0, TX0, 2), (RX1, TX1, 10), (RX2, TX2, 4), (RX3, TX3, 7), (RX4, TX4, 6), (RX5, TX5, 12)]
/-- a world: the object, the network and its four rows, the knowledge and its five -/
abbrev wp (G : GA) (a : Nat → Nat) (s : St) : va_W :=
  [(a 0, .inr (3, [.ref (a 1), .ref (a 6), .int (s 0 4), .int (s 0 1), .int (s 0 5), .int (s 0 6), .int (s 0 8)])),
   (a 1, .inr (2, [.ref (a 2), .ref (a 3), .ref (a 4), .ref (a 5)])),
   (a 2, .inl (G.2.1, (8, .inl (s 1)))), (a 3, .inl (G.2.1, (8, .inl (s 2)))), (a 4, .inl (G.2.2.1, (8, .inl (s 3)))), (a 5, .inl (G.2.1, (64, .inl (s 9)))),
   (a 6, .inr (1, [.ref (a 7), .ref (a 8), .ref (a 9), .ref (a 10), .ref (a 11), .int (s 0 2), .int (s 0 3), .int (s 0 0), .int (s 0 9), .int (s 0 7)])),
   (a 7, .inl (G.2.2.1, (8, .inl (s 4)))), (a 8, .inl (G.2.2.1, (64, .inl (s 5)))), (a 9, .inl (G.2.2.1, (64, .inl (s 6)))), (a 10, .inl (G.2.2.1, (64, .inl (s 7)))), (a 11, .inl (G.2.2.1, (64, .inl (s 8))))]
/-- the reference's one row of numbers -/
def fl (s : St) (i : Nat) : Int32 := if i < 10 then s 0 i else if i < 18 then s 1 (i - 10) else if i < 26 then s 2 (i - 18) else if i < 34 then s 3 (i - 26) else if i < 42 then s 4 (i - 34) else if i < 106 then s 5 (i - 42) else if i < 170 then s 6 (i - 106) else if i < 234 then s 7 (i - 170) else if i < 298 then s 8 (i - 234) else s 9 (i - 298)
theorem fl_0 (s : St) {k : Nat} (h : k < 10) : fl s k = s 0 k := by simp [fl, h]
theorem fl_1 (s : St) {k : Nat} (h : k < 8) : fl s (10 + k) = s 1 k := by
  have h2 : 10 + k - 10 = k := by omega
  rw [fl, if_neg (by omega), if_pos (by omega), h2]
theorem fl_2 (s : St) {k : Nat} (h : k < 8) : fl s (18 + k) = s 2 k := by
  have h2 : 18 + k - 18 = k := by omega
  rw [fl, if_neg (by omega), if_neg (by omega), if_pos (by omega), h2]
theorem fl_3 (s : St) {k : Nat} (h : k < 8) : fl s (26 + k) = s 3 k := by
  have h2 : 26 + k - 26 = k := by omega
  rw [fl, if_neg (by omega), if_neg (by omega), if_neg (by omega), if_pos (by omega), h2]
theorem fl_4 (s : St) {k : Nat} (h : k < 8) : fl s (34 + k) = s 4 k := by
  have h2 : 34 + k - 34 = k := by omega
  rw [fl, if_neg (by omega), if_neg (by omega), if_neg (by omega), if_neg (by omega), if_pos (by omega), h2]
theorem fl_5 (s : St) {k : Nat} (h : k < 64) : fl s (42 + k) = s 5 k := by
  have h2 : 42 + k - 42 = k := by omega
  rw [fl, if_neg (by omega), if_neg (by omega), if_neg (by omega), if_neg (by omega), if_neg (by omega), if_pos (by omega), h2]
theorem fl_6 (s : St) {k : Nat} (h : k < 64) : fl s (106 + k) = s 6 k := by
  have h2 : 106 + k - 106 = k := by omega
  rw [fl, if_neg (by omega), if_neg (by omega), if_neg (by omega), if_neg (by omega), if_neg (by omega), if_neg (by omega), if_pos (by omega), h2]
theorem fl_7 (s : St) {k : Nat} (h : k < 64) : fl s (170 + k) = s 7 k := by
  have h2 : 170 + k - 170 = k := by omega
  rw [fl, if_neg (by omega), if_neg (by omega), if_neg (by omega), if_neg (by omega), if_neg (by omega), if_neg (by omega), if_neg (by omega), if_pos (by omega), h2]
theorem fl_8 (s : St) {k : Nat} (h : k < 64) : fl s (234 + k) = s 8 k := by
  have h2 : 234 + k - 234 = k := by omega
  rw [fl, if_neg (by omega), if_neg (by omega), if_neg (by omega), if_neg (by omega), if_neg (by omega), if_neg (by omega), if_neg (by omega), if_neg (by omega), if_pos (by omega), h2]
theorem fl_9 (s : St) (k : Nat) : fl s (298 + k) = s 9 k := by
  have h2 : 298 + k - 298 = k := by omega
  rw [fl, if_neg (by omega), if_neg (by omega), if_neg (by omega), if_neg (by omega), if_neg (by omega), if_neg (by omega), if_neg (by omega), if_neg (by omega), if_neg (by omega), h2]
theorem fu_0 (s : St) {k : Nat} (h : k < 10) (x : Int32) : upd (fl s) k x = fl (st s 0 k x) := by
  funext i
  by_cases hi : i = k
  · rw [hi, fl_0 _ h, st_s]; simp [upd]
  · show (if i = _ then x else fl s i) = _
    rw [if_neg hi]
    unfold fl
    by_cases h0 : i < 10
    · rw [if_pos h0, if_pos h0]; exact (st_k _ _ _ _ _ (by omega)).symm
    rw [if_neg h0, if_neg h0]
    by_cases h1 : i < 18
    · rw [if_pos h1, if_pos h1]; exact (st_f _ _ _ _ _ _ (by decide)).symm
    rw [if_neg h1, if_neg h1]
    by_cases h2 : i < 26
    · rw [if_pos h2, if_pos h2]; exact (st_f _ _ _ _ _ _ (by decide)).symm
    rw [if_neg h2, if_neg h2]
    by_cases h3 : i < 34
    · rw [if_pos h3, if_pos h3]; exact (st_f _ _ _ _ _ _ (by decide)).symm
    rw [if_neg h3, if_neg h3]
    by_cases h4 : i < 42
    · rw [if_pos h4, if_pos h4]; exact (st_f _ _ _ _ _ _ (by decide)).symm
    rw [if_neg h4, if_neg h4]
    by_cases h5 : i < 106
    · rw [if_pos h5, if_pos h5]; exact (st_f _ _ _ _ _ _ (by decide)).symm
    rw [if_neg h5, if_neg h5]
    by_cases h6 : i < 170
    · rw [if_pos h6, if_pos h6]; exact (st_f _ _ _ _ _ _ (by decide)).symm
    rw [if_neg h6, if_neg h6]
    by_cases h7 : i < 234
    · rw [if_pos h7, if_pos h7]; exact (st_f _ _ _ _ _ _ (by decide)).symm
    rw [if_neg h7, if_neg h7]
    by_cases h8 : i < 298
    · rw [if_pos h8, if_pos h8]; exact (st_f _ _ _ _ _ _ (by decide)).symm
    rw [if_neg h8, if_neg h8]
    exact (st_f _ _ _ _ _ _ (by decide)).symm
theorem fu_1 (s : St) {k : Nat} (h : k < 8) (x : Int32) : upd (fl s) (10 + k) x = fl (st s 1 k x) := by
  funext i
  by_cases hi : i = (10 + k)
  · rw [hi, fl_1 _ h, st_s]; simp [upd]
  · show (if i = _ then x else fl s i) = _
    rw [if_neg hi]
    unfold fl
    by_cases h0 : i < 10
    · rw [if_pos h0, if_pos h0]; exact (st_f _ _ _ _ _ _ (by decide)).symm
    rw [if_neg h0, if_neg h0]
    by_cases h1 : i < 18
    · rw [if_pos h1, if_pos h1]; exact (st_k _ _ _ _ _ (by omega)).symm
    rw [if_neg h1, if_neg h1]
    by_cases h2 : i < 26
    · rw [if_pos h2, if_pos h2]; exact (st_f _ _ _ _ _ _ (by decide)).symm
    rw [if_neg h2, if_neg h2]
    by_cases h3 : i < 34
    · rw [if_pos h3, if_pos h3]; exact (st_f _ _ _ _ _ _ (by decide)).symm
    rw [if_neg h3, if_neg h3]
    by_cases h4 : i < 42
    · rw [if_pos h4, if_pos h4]; exact (st_f _ _ _ _ _ _ (by decide)).symm
    rw [if_neg h4, if_neg h4]
    by_cases h5 : i < 106
    · rw [if_pos h5, if_pos h5]; exact (st_f _ _ _ _ _ _ (by decide)).symm
    rw [if_neg h5, if_neg h5]
    by_cases h6 : i < 170
    · rw [if_pos h6, if_pos h6]; exact (st_f _ _ _ _ _ _ (by decide)).symm
    rw [if_neg h6, if_neg h6]
    by_cases h7 : i < 234
    · rw [if_pos h7, if_pos h7]; exact (st_f _ _ _ _ _ _ (by decide)).symm
    rw [if_neg h7, if_neg h7]
    by_cases h8 : i < 298
    · rw [if_pos h8, if_pos h8]; exact (st_f _ _ _ _ _ _ (by decide)).symm
    rw [if_neg h8, if_neg h8]
    exact (st_f _ _ _ _ _ _ (by decide)).symm
theorem fu_2 (s : St) {k : Nat} (h : k < 8) (x : Int32) : upd (fl s) (18 + k) x = fl (st s 2 k x) := by
  funext i
  by_cases hi : i = (18 + k)
  · rw [hi, fl_2 _ h, st_s]; simp [upd]
  · show (if i = _ then x else fl s i) = _
    rw [if_neg hi]
    unfold fl
    by_cases h0 : i < 10
    · rw [if_pos h0, if_pos h0]; exact (st_f _ _ _ _ _ _ (by decide)).symm
    rw [if_neg h0, if_neg h0]
    by_cases h1 : i < 18
    · rw [if_pos h1, if_pos h1]; exact (st_f _ _ _ _ _ _ (by decide)).symm
    rw [if_neg h1, if_neg h1]
    by_cases h2 : i < 26
    · rw [if_pos h2, if_pos h2]; exact (st_k _ _ _ _ _ (by omega)).symm
    rw [if_neg h2, if_neg h2]
    by_cases h3 : i < 34
    · rw [if_pos h3, if_pos h3]; exact (st_f _ _ _ _ _ _ (by decide)).symm
    rw [if_neg h3, if_neg h3]
    by_cases h4 : i < 42
    · rw [if_pos h4, if_pos h4]; exact (st_f _ _ _ _ _ _ (by decide)).symm
    rw [if_neg h4, if_neg h4]
    by_cases h5 : i < 106
    · rw [if_pos h5, if_pos h5]; exact (st_f _ _ _ _ _ _ (by decide)).symm
    rw [if_neg h5, if_neg h5]
    by_cases h6 : i < 170
    · rw [if_pos h6, if_pos h6]; exact (st_f _ _ _ _ _ _ (by decide)).symm
    rw [if_neg h6, if_neg h6]
    by_cases h7 : i < 234
    · rw [if_pos h7, if_pos h7]; exact (st_f _ _ _ _ _ _ (by decide)).symm
    rw [if_neg h7, if_neg h7]
    by_cases h8 : i < 298
    · rw [if_pos h8, if_pos h8]; exact (st_f _ _ _ _ _ _ (by decide)).symm
    rw [if_neg h8, if_neg h8]
    exact (st_f _ _ _ _ _ _ (by decide)).symm
theorem fu_3 (s : St) {k : Nat} (h : k < 8) (x : Int32) : upd (fl s) (26 + k) x = fl (st s 3 k x) := by
  funext i
  by_cases hi : i = (26 + k)
  · rw [hi, fl_3 _ h, st_s]; simp [upd]
  · show (if i = _ then x else fl s i) = _
    rw [if_neg hi]
    unfold fl
    by_cases h0 : i < 10
    · rw [if_pos h0, if_pos h0]; exact (st_f _ _ _ _ _ _ (by decide)).symm
    rw [if_neg h0, if_neg h0]
    by_cases h1 : i < 18
    · rw [if_pos h1, if_pos h1]; exact (st_f _ _ _ _ _ _ (by decide)).symm
    rw [if_neg h1, if_neg h1]
    by_cases h2 : i < 26
    · rw [if_pos h2, if_pos h2]; exact (st_f _ _ _ _ _ _ (by decide)).symm
    rw [if_neg h2, if_neg h2]
    by_cases h3 : i < 34
    · rw [if_pos h3, if_pos h3]; exact (st_k _ _ _ _ _ (by omega)).symm
    rw [if_neg h3, if_neg h3]
    by_cases h4 : i < 42
    · rw [if_pos h4, if_pos h4]; exact (st_f _ _ _ _ _ _ (by decide)).symm
    rw [if_neg h4, if_neg h4]
    by_cases h5 : i < 106
    · rw [if_pos h5, if_pos h5]; exact (st_f _ _ _ _ _ _ (by decide)).symm
    rw [if_neg h5, if_neg h5]
    by_cases h6 : i < 170
    · rw [if_pos h6, if_pos h6]; exact (st_f _ _ _ _ _ _ (by decide)).symm
    rw [if_neg h6, if_neg h6]
    by_cases h7 : i < 234
    · rw [if_pos h7, if_pos h7]; exact (st_f _ _ _ _ _ _ (by decide)).symm
    rw [if_neg h7, if_neg h7]
    by_cases h8 : i < 298
    · rw [if_pos h8, if_pos h8]; exact (st_f _ _ _ _ _ _ (by decide)).symm
    rw [if_neg h8, if_neg h8]
    exact (st_f _ _ _ _ _ _ (by decide)).symm
theorem fu_4 (s : St) {k : Nat} (h : k < 8) (x : Int32) : upd (fl s) (34 + k) x = fl (st s 4 k x) := by
  funext i
  by_cases hi : i = (34 + k)
  · rw [hi, fl_4 _ h, st_s]; simp [upd]
  · show (if i = _ then x else fl s i) = _
    rw [if_neg hi]
    unfold fl
    by_cases h0 : i < 10
    · rw [if_pos h0, if_pos h0]; exact (st_f _ _ _ _ _ _ (by decide)).symm
    rw [if_neg h0, if_neg h0]
    by_cases h1 : i < 18
    · rw [if_pos h1, if_pos h1]; exact (st_f _ _ _ _ _ _ (by decide)).symm
    rw [if_neg h1, if_neg h1]
    by_cases h2 : i < 26
    · rw [if_pos h2, if_pos h2]; exact (st_f _ _ _ _ _ _ (by decide)).symm
    rw [if_neg h2, if_neg h2]
    by_cases h3 : i < 34
    · rw [if_pos h3, if_pos h3]; exact (st_f _ _ _ _ _ _ (by decide)).symm
    rw [if_neg h3, if_neg h3]
    by_cases h4 : i < 42
    · rw [if_pos h4, if_pos h4]; exact (st_k _ _ _ _ _ (by omega)).symm
    rw [if_neg h4, if_neg h4]
    by_cases h5 : i < 106
    · rw [if_pos h5, if_pos h5]; exact (st_f _ _ _ _ _ _ (by decide)).symm
    rw [if_neg h5, if_neg h5]
    by_cases h6 : i < 170
    · rw [if_pos h6, if_pos h6]; exact (st_f _ _ _ _ _ _ (by decide)).symm
    rw [if_neg h6, if_neg h6]
    by_cases h7 : i < 234
    · rw [if_pos h7, if_pos h7]; exact (st_f _ _ _ _ _ _ (by decide)).symm
    rw [if_neg h7, if_neg h7]
    by_cases h8 : i < 298
    · rw [if_pos h8, if_pos h8]; exact (st_f _ _ _ _ _ _ (by decide)).symm
    rw [if_neg h8, if_neg h8]
    exact (st_f _ _ _ _ _ _ (by decide)).symm
theorem fu_5 (s : St) {k : Nat} (h : k < 64) (x : Int32) : upd (fl s) (42 + k) x = fl (st s 5 k x) := by
  funext i
  by_cases hi : i = (42 + k)
  · rw [hi, fl_5 _ h, st_s]; simp [upd]
  · show (if i = _ then x else fl s i) = _
    rw [if_neg hi]
    unfold fl
    by_cases h0 : i < 10
    · rw [if_pos h0, if_pos h0]; exact (st_f _ _ _ _ _ _ (by decide)).symm
    rw [if_neg h0, if_neg h0]
    by_cases h1 : i < 18
    · rw [if_pos h1, if_pos h1]; exact (st_f _ _ _ _ _ _ (by decide)).symm
    rw [if_neg h1, if_neg h1]
    by_cases h2 : i < 26
    · rw [if_pos h2, if_pos h2]; exact (st_f _ _ _ _ _ _ (by decide)).symm
    rw [if_neg h2, if_neg h2]
    by_cases h3 : i < 34
    · rw [if_pos h3, if_pos h3]; exact (st_f _ _ _ _ _ _ (by decide)).symm
    rw [if_neg h3, if_neg h3]
    by_cases h4 : i < 42
    · rw [if_pos h4, if_pos h4]; exact (st_f _ _ _ _ _ _ (by decide)).symm
    rw [if_neg h4, if_neg h4]
    by_cases h5 : i < 106
    · rw [if_pos h5, if_pos h5]; exact (st_k _ _ _ _ _ (by omega)).symm
    rw [if_neg h5, if_neg h5]
    by_cases h6 : i < 170
    · rw [if_pos h6, if_pos h6]; exact (st_f _ _ _ _ _ _ (by decide)).symm
    rw [if_neg h6, if_neg h6]
    by_cases h7 : i < 234
    · rw [if_pos h7, if_pos h7]; exact (st_f _ _ _ _ _ _ (by decide)).symm
    rw [if_neg h7, if_neg h7]
    by_cases h8 : i < 298
    · rw [if_pos h8, if_pos h8]; exact (st_f _ _ _ _ _ _ (by decide)).symm
    rw [if_neg h8, if_neg h8]
    exact (st_f _ _ _ _ _ _ (by decide)).symm
theorem fu_6 (s : St) {k : Nat} (h : k < 64) (x : Int32) : upd (fl s) (106 + k) x = fl (st s 6 k x) := by
  funext i
  by_cases hi : i = (106 + k)
  · rw [hi, fl_6 _ h, st_s]; simp [upd]
  · show (if i = _ then x else fl s i) = _
    rw [if_neg hi]
    unfold fl
    by_cases h0 : i < 10
    · rw [if_pos h0, if_pos h0]; exact (st_f _ _ _ _ _ _ (by decide)).symm
    rw [if_neg h0, if_neg h0]
    by_cases h1 : i < 18
    · rw [if_pos h1, if_pos h1]; exact (st_f _ _ _ _ _ _ (by decide)).symm
    rw [if_neg h1, if_neg h1]
    by_cases h2 : i < 26
    · rw [if_pos h2, if_pos h2]; exact (st_f _ _ _ _ _ _ (by decide)).symm
    rw [if_neg h2, if_neg h2]
    by_cases h3 : i < 34
    · rw [if_pos h3, if_pos h3]; exact (st_f _ _ _ _ _ _ (by decide)).symm
    rw [if_neg h3, if_neg h3]
    by_cases h4 : i < 42
    · rw [if_pos h4, if_pos h4]; exact (st_f _ _ _ _ _ _ (by decide)).symm
    rw [if_neg h4, if_neg h4]
    by_cases h5 : i < 106
    · rw [if_pos h5, if_pos h5]; exact (st_f _ _ _ _ _ _ (by decide)).symm
    rw [if_neg h5, if_neg h5]
    by_cases h6 : i < 170
    · rw [if_pos h6, if_pos h6]; exact (st_k _ _ _ _ _ (by omega)).symm
    rw [if_neg h6, if_neg h6]
    by_cases h7 : i < 234
    · rw [if_pos h7, if_pos h7]; exact (st_f _ _ _ _ _ _ (by decide)).symm
    rw [if_neg h7, if_neg h7]
    by_cases h8 : i < 298
    · rw [if_pos h8, if_pos h8]; exact (st_f _ _ _ _ _ _ (by decide)).symm
    rw [if_neg h8, if_neg h8]
    exact (st_f _ _ _ _ _ _ (by decide)).symm
theorem fu_7 (s : St) {k : Nat} (h : k < 64) (x : Int32) : upd (fl s) (170 + k) x = fl (st s 7 k x) := by
  funext i
  by_cases hi : i = (170 + k)
  · rw [hi, fl_7 _ h, st_s]; simp [upd]
  · show (if i = _ then x else fl s i) = _
    rw [if_neg hi]
    unfold fl
    by_cases h0 : i < 10
    · rw [if_pos h0, if_pos h0]; exact (st_f _ _ _ _ _ _ (by decide)).symm
    rw [if_neg h0, if_neg h0]
    by_cases h1 : i < 18
    · rw [if_pos h1, if_pos h1]; exact (st_f _ _ _ _ _ _ (by decide)).symm
    rw [if_neg h1, if_neg h1]
    by_cases h2 : i < 26
    · rw [if_pos h2, if_pos h2]; exact (st_f _ _ _ _ _ _ (by decide)).symm
    rw [if_neg h2, if_neg h2]
    by_cases h3 : i < 34
    · rw [if_pos h3, if_pos h3]; exact (st_f _ _ _ _ _ _ (by decide)).symm
    rw [if_neg h3, if_neg h3]
    by_cases h4 : i < 42
    · rw [if_pos h4, if_pos h4]; exact (st_f _ _ _ _ _ _ (by decide)).symm
    rw [if_neg h4, if_neg h4]
    by_cases h5 : i < 106
    · rw [if_pos h5, if_pos h5]; exact (st_f _ _ _ _ _ _ (by decide)).symm
    rw [if_neg h5, if_neg h5]
    by_cases h6 : i < 170
    · rw [if_pos h6, if_pos h6]; exact (st_f _ _ _ _ _ _ (by decide)).symm
    rw [if_neg h6, if_neg h6]
    by_cases h7 : i < 234
    · rw [if_pos h7, if_pos h7]; exact (st_k _ _ _ _ _ (by omega)).symm
    rw [if_neg h7, if_neg h7]
    by_cases h8 : i < 298
    · rw [if_pos h8, if_pos h8]; exact (st_f _ _ _ _ _ _ (by decide)).symm
    rw [if_neg h8, if_neg h8]
    exact (st_f _ _ _ _ _ _ (by decide)).symm
theorem fu_8 (s : St) {k : Nat} (h : k < 64) (x : Int32) : upd (fl s) (234 + k) x = fl (st s 8 k x) := by
  funext i
  by_cases hi : i = (234 + k)
  · rw [hi, fl_8 _ h, st_s]; simp [upd]
  · show (if i = _ then x else fl s i) = _
    rw [if_neg hi]
    unfold fl
    by_cases h0 : i < 10
    · rw [if_pos h0, if_pos h0]; exact (st_f _ _ _ _ _ _ (by decide)).symm
    rw [if_neg h0, if_neg h0]
    by_cases h1 : i < 18
    · rw [if_pos h1, if_pos h1]; exact (st_f _ _ _ _ _ _ (by decide)).symm
    rw [if_neg h1, if_neg h1]
    by_cases h2 : i < 26
    · rw [if_pos h2, if_pos h2]; exact (st_f _ _ _ _ _ _ (by decide)).symm
    rw [if_neg h2, if_neg h2]
    by_cases h3 : i < 34
    · rw [if_pos h3, if_pos h3]; exact (st_f _ _ _ _ _ _ (by decide)).symm
    rw [if_neg h3, if_neg h3]
    by_cases h4 : i < 42
    · rw [if_pos h4, if_pos h4]; exact (st_f _ _ _ _ _ _ (by decide)).symm
    rw [if_neg h4, if_neg h4]
    by_cases h5 : i < 106
    · rw [if_pos h5, if_pos h5]; exact (st_f _ _ _ _ _ _ (by decide)).symm
    rw [if_neg h5, if_neg h5]
    by_cases h6 : i < 170
    · rw [if_pos h6, if_pos h6]; exact (st_f _ _ _ _ _ _ (by decide)).symm
    rw [if_neg h6, if_neg h6]
    by_cases h7 : i < 234
    · rw [if_pos h7, if_pos h7]; exact (st_f _ _ _ _ _ _ (by decide)).symm
    rw [if_neg h7, if_neg h7]
    by_cases h8 : i < 298
    · rw [if_pos h8, if_pos h8]; exact (st_k _ _ _ _ _ (by omega)).symm
    rw [if_neg h8, if_neg h8]
    exact (st_f _ _ _ _ _ _ (by decide)).symm
theorem fu_9 (s : St) {k : Nat} (h : k < 64) (x : Int32) : upd (fl s) (298 + k) x = fl (st s 9 k x) := by
  funext i
  by_cases hi : i = (298 + k)
  · rw [hi, fl_9 _ k, st_s]; simp [upd]
  · show (if i = _ then x else fl s i) = _
    rw [if_neg hi]
    unfold fl
    by_cases h0 : i < 10
    · rw [if_pos h0, if_pos h0]; exact (st_f _ _ _ _ _ _ (by decide)).symm
    rw [if_neg h0, if_neg h0]
    by_cases h1 : i < 18
    · rw [if_pos h1, if_pos h1]; exact (st_f _ _ _ _ _ _ (by decide)).symm
    rw [if_neg h1, if_neg h1]
    by_cases h2 : i < 26
    · rw [if_pos h2, if_pos h2]; exact (st_f _ _ _ _ _ _ (by decide)).symm
    rw [if_neg h2, if_neg h2]
    by_cases h3 : i < 34
    · rw [if_pos h3, if_pos h3]; exact (st_f _ _ _ _ _ _ (by decide)).symm
    rw [if_neg h3, if_neg h3]
    by_cases h4 : i < 42
    · rw [if_pos h4, if_pos h4]; exact (st_f _ _ _ _ _ _ (by decide)).symm
    rw [if_neg h4, if_neg h4]
    by_cases h5 : i < 106
    · rw [if_pos h5, if_pos h5]; exact (st_f _ _ _ _ _ _ (by decide)).symm
    rw [if_neg h5, if_neg h5]
    by_cases h6 : i < 170
    · rw [if_pos h6, if_pos h6]; exact (st_f _ _ _ _ _ _ (by decide)).symm
    rw [if_neg h6, if_neg h6]
    by_cases h7 : i < 234
    · rw [if_pos h7, if_pos h7]; exact (st_f _ _ _ _ _ _ (by decide)).symm
    rw [if_neg h7, if_neg h7]
    by_cases h8 : i < 298
    · rw [if_pos h8, if_pos h8]; exact (st_f _ _ _ _ _ _ (by decide)).symm
    rw [if_neg h8, if_neg h8]
    exact (st_k _ _ _ _ _ (by omega)).symm
/-- the reference: its object, its row of numbers, what it saved, its text, its list of a message -/
abbrev mp (G : GA) (a : Nat → Nat) (s : St) (k : St) : va_W :=
  [(a 0, .inr (5, [.int (k 0 0), .ref (a 1), .ref (a 2), .int (k 0 1), .ref (a 3), .int (k 0 2), .int (k 0 3), .int (k 0 4), .ref (a 4), .int (k 0 5), .int (k 0 6), .int (k 0 7)])),
   (a 1, .inl (G.2.2.1, (362, .inl (fl s)))), (a 2, .inl (G.2.2.1, (362, .inl (k 1)))), (a 3, .inl (G.2.2.1, (40, .inl (k 2)))), (a 4, .inl (G.2.2.1, (8, .inl (k 3))))]
/-- what the tables say: the classes' fields, the array classes, the nest mates' links -/
def NST (U : State) : Prop := va_Nw (.methodLinkNest RX1 40 yX4_pair RX4) U ∧ va_Nw (.methodLinkNest RX2 29 yX4_pair RX4) U ∧ va_Nw (.methodLinkNest RX3 91 yX4_pair RX4) U ∧ va_Nw (.methodLinkNest RX3 11 yX2_init RX4) U ∧ va_Nw (.methodLinkNest RX3 20 yX1_init RX4) U ∧ va_Nw (.methodLinkNest RX4 9 yX3_init RX4) U ∧ va_Nw (.methodLinkNest RX4 21 yX0_init RX4) U
theorem NST.warm {s U : State} (hW : s.WarmedH U.vm) (h : NST s) : NST U := by
  obtain ⟨h1, h2, h3, h4, h5, h6, h7⟩ := h
  exact ⟨va_Nw.warmM hW h1, va_Nw.warmM hW h2, va_Nw.warmM hW h3, va_Nw.warmM hW h4, va_Nw.warmM hW h5, va_Nw.warmM hW h6, va_Nw.warmM hW h7⟩
theorem NST.same {u U : State} (h : u.vm = U.vm) (hn : NST u) : NST U := by
  obtain ⟨h1, h2, h3, h4, h5, h6, h7⟩ := hn
  exact ⟨va_Nw.same rfl h h1, va_Nw.same rfl h h2, va_Nw.same rfl h h3, va_Nw.same rfl h h4, va_Nw.same rfl h h5, va_Nw.same rfl h h6, va_Nw.same rfl h h7⟩
abbrev gty (G : GA) : List (ClassId × FieldType) := [(G.2.1, .boolean), (G.2.2.1, .int), (G.2.2.2, .char)]
def KK (G : GA) (U : State) : Prop := va_K G.1 gcl (gty G) U ∧ NST U
theorem KK.warm {G : GA} {s U : State} (hW : s.WarmedH U.vm) (h : KK G s) : KK G U := ⟨va_K.moved hW.alike h.1, h.2.warm hW⟩
theorem KK.calling {G : GA} {U : State} {g : JFrame} {mk : MethodId} {a : Array Value} (h : KK G U) : KK G (U.calling g mk a) := ⟨va_K.moved (u := U) (U := U.calling g mk a) (Vm.Alike.refl U.vm) h.1, h.2.same rfl⟩
/-- the world of a walk -/
def WD (G : GA) (ws : va_W) (A : Nat → Prop) (s : State) (H : Heap) (locs : List Loc) : Prop := va_P G.1 gcl ws H ∧ va_D A ws ∧ va_S A s.heap H locs
/-- a method's start -/
def PW (G : GA) (ws : va_W) (sz : Nat) (U : State) : Prop := U.heap.size = sz ∧ va_P G.1 gcl ws U.heap ∧ KK G U ∧ va_D (fun _ => True) ws
theorem PW.blind {G : GA} {ws : va_W} {sz : Nat} {av : List Value} : FrameBlind (va_Pc av (PW G ws sz)) := fun _ _ _ _ q => ⟨q.1, q.2.1, q.2.2.1, q.2.2.2.1.calling, q.2.2.2.2⟩
theorem PW.of {G : GA} {ws : va_W} {A : Nat → Prop} {s U : State} {H : Heap} {locs : List Loc} (hK : KK G s) (hw : WD G ws A s H locs) (hU : U.heap = H) (hW : s.WarmedH U.vm) : PW G ws H.size U := ⟨by rw [hU], by rw [hU]; exact hw.1, hK.warm hW, hw.2.1.weaken (fun _ _ _ _ => trivial)⟩
theorem va_D.same {A : Nat → Prop} {w w' : va_W} (h : w'.map (·.1) = w.map (·.1)) (hD : va_D A w) : va_D A w' := by
  have key : ∀ (k : Nat) (q : Nat × va_E), w'[k]? = some q → ∃ q0, w[k]? = some q0 ∧ q0.1 = q.1 := by
    intro k q hk
    have h1 : (w'.map (·.1))[k]? = some q.1 := by rw [List.getElem?_map, hk]; rfl
    rw [h, List.getElem?_map] at h1
    cases h2 : w[k]? with
    | none => rw [h2] at h1; cases h1
    | some q0 => rw [h2] at h1; exact ⟨q0, rfl, Option.some.inj h1⟩
  refine ⟨fun i j x y hi hj hxy => ?_, fun k q hk => ?_⟩
  · obtain ⟨x0, a1, b1⟩ := key i x hi
    obtain ⟨y0, a2, b2⟩ := key j y hj
    exact hD.1 i j x0 y0 a1 a2 (b1.trans (hxy.trans b2.symm))
  · obtain ⟨q0, a1, b1⟩ := key k q hk
    rw [← b1]
    exact hD.2 k q0 a1
section GW
variable {p : Program} {l : Launch} {e : Env} {R : Room} {s : State} {m : MethodId} {args : Array Value} {below : List Frame} {meth : Method} {c : Code} {H : Heap} {locs : List Loc} {cells slots : Nat} {Q : State → Prop}
variable {cc : ByteArray} {nL : Nat} {Ts : List Cond} {own : String} {pc : Nat} {ls : Array Slot} {rest : List Value} {G : GA} {A : Nat → Prop} {ws ws' : va_W}
/-- from a contract's entry to its first row -/
theorem met_st {y : MethodName} {wd wd' : List Cond} {rm : Room} {maxL : Nat} {ret : Option FieldType} {av : List Value} {ws0 : va_W} {sz : Nat} (Qc : (Nat → Prop) → Array Value → State → Outcome → State → Prop) {mc ms : Nat} (hy : plainName y.cls = true) (hw : wd = Cond.code y cc maxL ret :: wd') (hlen : (lg_sl av).length ≤ maxL)
    (body : ∀ (p : Program) (e : Env) (s : State) (m : MethodId) (args : Array Value) (below : List Frame) (meth : Method) (c : Code) (R : Room) (Q : State → Prop) (A : Nat → Prop) (H : Heap) (ls : Array Slot), R = rm → Q = MQ below (Qc A) args s mc ms A → CallFix p m c cc maxL s args wd y.cls → meth.sig.returnType = ret → meth.locks = false → meth.name = y.name → KK G s → H.size = sz → H = s.heap → va_A ws0 sz = A → (∀ q, s.heap.size ≤ q → A q) → WD G ws0 A s H [] → lv_has ls maxL (lv_args 0 av) → W p l e R s m args below meth c H [] 0 0 Q (F0 m 0 ls [])) :
    Met l y wd rm (va_Pc av (PW G ws0 sz)) (Qc (va_A ws0 sz)) mc ms (va_A ws0 sz) := by
  refine Met.ofW (cc := cc) (maxL := maxL) (ret := ret) hy hw ?_
  intro p e s m args below meth c s₁ B hml hv
  obtain ⟨rfl, hsz, hP, hK, hD0⟩ := hv
  have hts := atoms_spec (ws := wd) B.pre
  have hown : s.vm.findClass y.cls = some m.cls := findClass_of_methodNamed B.named
  have hl := lv_entry av (n := maxL) hlen
  rw [lg_entry_eq]
  exact body p e s m _ below meth c _ _ _ _ _ rfl rfl ⟨B.exec, B.bytes, hml, hown, hts⟩ B.returns B.notSynchronized (name_of_methodNamed B.named B.method).1 hK hsz rfl rfl (fun q h => Or.inr (by rw [← hsz]; exact h)) ⟨hP, hD0.self, va_S.rf⟩ hl
theorem en_i {U : Type} {post : Int32 → U → Prop} {pic : U → va_W} {v : Int32} (u : U) (hQ : Q = MQ below (va_Qi post (fun u t => va_P G.1 gcl (pic u) t.heap) A) args s cells slots A) (S : CallFix p m c cc nL s args Ts own) (hr : meth.sig.returnType = some .int) (hlocks : meth.locks = false) (hw : WD G (pic u) A s H locs) (hp : post v u) (hdg : decode cc pc = .ok (.ireturn, 1)) :
    W p l e R s m args below meth c H locs cells slots Q (F0 m pc ls [.int v]) := by
  rw [hQ]
  exact W.iret (v := v) S.1 S.2.1 hr (fun t ht _ => ⟨⟨v, u, rfl, hp, by rw [ht]; exact hw.1⟩, hw.2.2.F ht⟩) hw.2.2.2.2 hdg hlocks
theorem en_z {U : Type} {post : Int32 → U → Prop} {pic : U → va_W} {v : Int32} {ty : FieldType} (u : U) (hQ : Q = MQ below (va_Qi post (fun u t => va_P G.1 gcl (pic u) t.heap) A) args s cells slots A) (S : CallFix p m c cc nL s args Ts own) (hr : meth.sig.returnType = some ty) (hlocks : meth.locks = false) (hn : narrow ty (.int v) = .int v) (hw : WD G (pic u) A s H locs) (hp : post v u) (hdg : decode cc pc = .ok (.ireturn, 1)) :
    W p l e R s m args below meth c H locs cells slots Q (F0 m pc ls [.int v]) := by
  rw [hQ]
  exact W.zret (v := v) S.1 S.2.1 hr hn (fun t ht _ => ⟨⟨v, u, rfl, hp, by rw [ht]; exact hw.1⟩, hw.2.2.F ht⟩) hw.2.2.2.2 hdg hlocks
theorem en_v {U : Type} {post : U → Prop} {pic : U → va_W} (u : U) (hQ : Q = MQ below (va_Qv post (fun u t => va_P G.1 gcl (pic u) t.heap) A) args s cells slots A) (S : CallFix p m c cc nL s args Ts own) (hr : meth.sig.returnType = none) (hlocks : meth.locks = false) (hw : WD G (pic u) A s H locs) (hp : post u) (hdg : decode cc pc = .ok (.return_, 1)) :
    W p l e R s m args below meth c H locs cells slots Q (F0 m pc ls []) := by
  rw [hQ]
  exact W.vret S.1 S.2.1 hr (fun t ht _ => ⟨⟨u, rfl, hp, by rw [ht]; exact hw.1⟩, hw.2.2.F ht⟩) hw.2.2.2.2 hdg hlocks
/-- behind a call on the whole world -/
theorem cl_i {U : Type} {post : Int32 → U → Prop} {pic : U → va_W} {st0 : List Value} {a : Array Value} {mc ms : Nat} (hr : va_Run p l e R s m args below meth c H locs cells slots mc ms (F0 m pc ls st0) rest (va_Qi post (fun u t => va_P G.1 gcl (pic u) t.heap) (va_A ws H.size) a) (va_A ws H.size)) (hw : WD G ws A s H locs) (hA : ∀ q, s.heap.size ≤ q → A q) (hs : ∀ u, (pic u).map (·.1) = ws.map (·.1))
    (kk : ∀ (r : Int32) (u : U) (H1 : Heap) (locs1 : List Loc), post r u → WD G (pic u) A s H1 locs1 → W p l e R s m args below meth c H1 locs1 (cells + mc) (slots + ms) Q (F0 m (pc + 3) ls (.int r :: rest))) : W p l e R s m args below meth c H locs cells slots Q (F0 m pc ls st0) := by
  have hF : ∀ q, va_A ws H.size q → A q := by
    intro q h
    rcases h with ⟨k, e, h⟩ | h
    · exact hw.2.1.2 k (q, e) h
    · exact hA q (Nat.le_trans hw.2.2.1 h)
  exact va_calli hr hw.2.2 (fun q _ h => hF q h) hF (fun r u t H1 locs1 ht _ hp hB _ _ hS => kk r u H1 locs1 hp ⟨by rw [← ht]; exact hB, hw.2.1.same (hs u), hS⟩)
theorem cl_v {U : Type} {post : U → Prop} {pic : U → va_W} {st0 : List Value} {a : Array Value} {mc ms : Nat} (hr : va_Run p l e R s m args below meth c H locs cells slots mc ms (F0 m pc ls st0) rest (va_Qv post (fun u t => va_P G.1 gcl (pic u) t.heap) (va_A ws H.size) a) (va_A ws H.size)) (hw : WD G ws A s H locs) (hA : ∀ q, s.heap.size ≤ q → A q) (hs : ∀ u, (pic u).map (·.1) = ws.map (·.1))
    (kk : ∀ (u : U) (H1 : Heap) (locs1 : List Loc), post u → WD G (pic u) A s H1 locs1 → W p l e R s m args below meth c H1 locs1 (cells + mc) (slots + ms) Q (F0 m (pc + 3) ls rest)) : W p l e R s m args below meth c H locs cells slots Q (F0 m pc ls st0) := by
  have hF : ∀ q, va_A ws H.size q → A q := by
    intro q h
    rcases h with ⟨k, e, h⟩ | h
    · exact hw.2.1.2 k (q, e) h
    · exact hA q (Nat.le_trans hw.2.2.1 h)
  exact va_callv hr hw.2.2 (fun q _ h => hF q h) hF (fun u t H1 locs1 ht _ hp hB _ _ hS => kk u H1 locs1 hp ⟨by rw [← ht]; exact hB, hw.2.1.same (hs u), hS⟩)
/-- behind a call on a part of the world: the rest ahead, what came back behind it -/
theorem cj_i {U : Type} {post : Int32 → U → Prop} {pic : U → va_W} {wc wr : va_W} {st0 : List Value} {a : Array Value} {mc ms : Nat} (hr : va_Run p l e R s m args below meth c H locs cells slots mc ms (F0 m pc ls st0) rest (va_Qi post (fun u t => va_P G.1 gcl (pic u) t.heap) (va_A wc H.size) a) (va_A wc H.size)) (hw : WD G ws A s H locs) (hA : ∀ q, s.heap.size ≤ q → A q) (isC isR : List Nat) (hC : isC.map (fun i => ws[i]?) = wc.map some) (hR : isR.map (fun i => ws[i]?) = wr.map some) (hnC : va_nd isC = true) (hn : va_nd isR = true) (hdis : ∀ i ∈ isR, i ∉ isC) (hs : ∀ u, (pic u).map (·.1) = wc.map (·.1))
    (kk : ∀ (r : Int32) (u : U) (H1 : Heap) (locs1 : List Loc), post r u → WD G (wr ++ pic u) A s H1 locs1 → W p l e R s m args below meth c H1 locs1 (cells + mc) (slots + ms) Q (F0 m (pc + 3) ls (.int r :: rest))) : W p l e R s m args below meth c H locs cells slots Q (F0 m pc ls st0) := by
  have hF := va_free (wc := wc) hw.2.1 hw.2.2 hA isC hC
  refine va_calli hr hw.2.2 (fun q _ h => hF q h) hF (fun r u t H1 locs1 ht _ hp hB _ hk hS => kk r u H1 locs1 hp ?_)
  have hD1 : va_D (va_A wc H.size) (pic u) := va_D.same (hs u) ((hw.2.1.sub isC hnC hC).self)
  obtain ⟨hP9, hD9⟩ := va_join (wr := wr) (w1 := pic u) hw.1 hw.2.1 isC isR hC hR hn hdis hk hF (by rw [← ht]; exact hB) hD1
  exact ⟨hP9, hD9, hS⟩
theorem cj_v {U : Type} {post : U → Prop} {pic : U → va_W} {wc wr : va_W} {st0 : List Value} {a : Array Value} {mc ms : Nat} (hr : va_Run p l e R s m args below meth c H locs cells slots mc ms (F0 m pc ls st0) rest (va_Qv post (fun u t => va_P G.1 gcl (pic u) t.heap) (va_A wc H.size) a) (va_A wc H.size)) (hw : WD G ws A s H locs) (hA : ∀ q, s.heap.size ≤ q → A q) (isC isR : List Nat) (hC : isC.map (fun i => ws[i]?) = wc.map some) (hR : isR.map (fun i => ws[i]?) = wr.map some) (hnC : va_nd isC = true) (hn : va_nd isR = true) (hdis : ∀ i ∈ isR, i ∉ isC) (hs : ∀ u, (pic u).map (·.1) = wc.map (·.1))
    (kk : ∀ (u : U) (H1 : Heap) (locs1 : List Loc), post u → WD G (wr ++ pic u) A s H1 locs1 → W p l e R s m args below meth c H1 locs1 (cells + mc) (slots + ms) Q (F0 m (pc + 3) ls rest)) : W p l e R s m args below meth c H locs cells slots Q (F0 m pc ls st0) := by
  have hF := va_free (wc := wc) hw.2.1 hw.2.2 hA isC hC
  refine va_callv hr hw.2.2 (fun q _ h => hF q h) hF (fun u t H1 locs1 ht _ hp hB _ hk hS => kk u H1 locs1 hp ?_)
  have hD1 : va_D (va_A wc H.size) (pic u) := va_D.same (hs u) ((hw.2.1.sub isC hnC hC).self)
  obtain ⟨hP9, hD9⟩ := va_join (wr := wr) (w1 := pic u) hw.1 hw.2.1 isC isR hC hR hn hdis hk hF (by rw [← ht]; exact hB) hD1
  exact ⟨hP9, hD9, hS⟩
theorem WD.sub (hw : WD G ws A s H locs) (is : List Nat) (hn : va_nd is = true) (h : is.map (fun i => ws[i]?) = ws'.map some) : WD G ws' A s H locs := by
  refine ⟨fun k q hk => ?_, hw.2.1.sub is hn h, hw.2.2⟩
  have h1 : (is.map (fun i => ws[i]?))[k]? = some (some q) := by rw [h, List.getElem?_map, hk]; rfl
  rw [List.getElem?_map] at h1
  cases hi : is[k]? with
  | none => rw [hi] at h1; cases h1
  | some i => rw [hi] at h1; exact hw.1 i q (Option.some.inj h1)
/-- arrays, by known places -/
theorem ald_i (S : CallFix p m c cc nL s args Ts own) (hK : KK G s) (hw : WD G ws A s H locs) (q0 : Nat) {a n k : Nat} {f : Nat → Int32} {v : Int32} (he : ws[q0]? = some (a, .inl (G.2.2.1, (n, .inl f)))) (hk : k < n) (hn : n < 2 ^ 31) (hv : f k = v) (hdg : decode cc pc = .ok (.iaload, 1))
    (kk : W p l e R s m args below meth c H locs cells slots Q (F0 m (pc + 1) ls (.int v :: rest))) : W p l e R s m args below meth c H locs cells slots Q (F0 m pc ls (.int (nI k) :: .ref a :: rest)) := by
  refine va_iald (ws := ws) S.1 S.2.1 hK.1 hw.1 q0 1 he rfl (vp_in_nI hk hn) hdg ?_
  rw [nI_clamp (Nat.lt_trans hk hn), hv]
  exact kk
theorem ald_c (S : CallFix p m c cc nL s args Ts own) (hK : KK G s) (hw : WD G ws A s H locs) (q0 : Nat) {a n k : Nat} {f : Nat → Int32} {v : Int32} (he : ws[q0]? = some (a, .inl (G.2.2.2, (n, .inl f)))) (hk : k < n) (hn : n < 2 ^ 31) (hv : f k = v) (hdg : decode cc pc = .ok (.caload, 1))
    (kk : W p l e R s m args below meth c H locs cells slots Q (F0 m (pc + 1) ls (.int v :: rest))) : W p l e R s m args below meth c H locs cells slots Q (F0 m pc ls (.int (nI k) :: .ref a :: rest)) := by
  refine va_cald (ws := ws) S.1 S.2.1 hK.1 hw.1 q0 2 he rfl (vp_in_nI hk hn) hdg ?_
  rw [nI_clamp (Nat.lt_trans hk hn), hv]
  exact kk
theorem ald_z (S : CallFix p m c cc nL s args Ts own) (hK : KK G s) (hw : WD G ws A s H locs) (q0 : Nat) {a n k : Nat} {f : Nat → Int32} (he : ws[q0]? = some (a, .inl (G.2.1, (n, .inl f)))) (hk : k < n) (hn : n < 2 ^ 31) (hv : f k = 0 ∨ f k = 1) (hdg : decode cc pc = .ok (.baload, 1))
    (kk : W p l e R s m args below meth c H locs cells slots Q (F0 m (pc + 1) ls (.int (b2 (decide (f k = 1))) :: rest))) : W p l e R s m args below meth c H locs cells slots Q (F0 m pc ls (.int (nI k) :: .ref a :: rest)) := by
  refine va_zald (ws := ws) S.1 S.2.1 hK.1 hw.1 q0 0 he rfl (vp_in_nI hk hn) hdg ?_
  rw [nI_clamp (Nat.lt_trans hk hn), b2_of hv]
  have e2 : b2 (decide (b2 (decide (f k = 1)) = 1)) = b2 (decide (f k = 1)) := by
    congr 1
    simp [b2_1]
  exact kk
theorem ast_i (S : CallFix p m c cc nL s args Ts own) (hK : KK G s) (hw : WD G ws A s H locs) (q0 : Nat) {a n k : Nat} {f : Nat → Int32} {x : Int32} (he : ws[q0]? = some (a, .inl (G.2.2.1, (n, .inl f)))) (hk : k < n) (hn : n < 2 ^ 31) (hs : ws.set q0 (a, .inl (G.2.2.1, (n, .inl (upd f k x)))) = ws') (hdg : decode cc pc = .ok (.iastore, 1))
    (kk : ∀ (H1 : Heap) (locs1 : List Loc), WD G ws' A s H1 locs1 → W p l e R s m args below meth c H1 locs1 cells slots Q (F0 m (pc + 1) ls rest)) : W p l e R s m args below meth c H locs cells slots Q (F0 m pc ls (.int x :: .int (nI k) :: .ref a :: rest)) := by
  subst hs
  refine va_iast (ws := ws) S.1 S.2.1 hK.1 hw.1 hw.2.1 hw.2.2 q0 1 he rfl (vp_in_nI hk hn) hdg (fun H1 locs1 hP hD hS => ?_)
  rw [nI_clamp (Nat.lt_trans hk hn)] at hP hD
  exact kk H1 locs1 ⟨hP, hD, hS⟩
theorem ast_z (S : CallFix p m c cc nL s args Ts own) (hK : KK G s) (hw : WD G ws A s H locs) (q0 : Nat) {a n k : Nat} {f : Nat → Int32} {x : Int32} (he : ws[q0]? = some (a, .inl (G.2.1, (n, .inl f)))) (hk : k < n) (hn : n < 2 ^ 31) (hx : vp_nar .boolean x = x) (hs : ws.set q0 (a, .inl (G.2.1, (n, .inl (upd f k x)))) = ws') (hdg : decode cc pc = .ok (.bastore, 1))
    (kk : ∀ (H1 : Heap) (locs1 : List Loc), WD G ws' A s H1 locs1 → W p l e R s m args below meth c H1 locs1 cells slots Q (F0 m (pc + 1) ls rest)) : W p l e R s m args below meth c H locs cells slots Q (F0 m pc ls (.int x :: .int (nI k) :: .ref a :: rest)) := by
  subst hs
  refine va_zast (ws := ws) S.1 S.2.1 hK.1 hw.1 hw.2.1 hw.2.2 q0 0 he rfl (vp_in_nI hk hn) hdg (fun H1 locs1 hP hD hS => ?_)
  rw [nI_clamp (Nat.lt_trans hk hn), hx] at hP hD
  exact kk H1 locs1 ⟨hP, hD, hS⟩
theorem ast_c (S : CallFix p m c cc nL s args Ts own) (hK : KK G s) (hw : WD G ws A s H locs) (q0 : Nat) {a n k : Nat} {f : Nat → Int32} {x : Int32} (he : ws[q0]? = some (a, .inl (G.2.2.2, (n, .inl f)))) (hk : k < n) (hn : n < 2 ^ 31) (hx : vp_nar .char x = x) (hs : ws.set q0 (a, .inl (G.2.2.2, (n, .inl (upd f k x)))) = ws') (hdg : decode cc pc = .ok (.castore, 1))
    (kk : ∀ (H1 : Heap) (locs1 : List Loc), WD G ws' A s H1 locs1 → W p l e R s m args below meth c H1 locs1 cells slots Q (F0 m (pc + 1) ls rest)) : W p l e R s m args below meth c H locs cells slots Q (F0 m pc ls (.int x :: .int (nI k) :: .ref a :: rest)) := by
  subst hs
  refine va_cast (ws := ws) S.1 S.2.1 hK.1 hw.1 hw.2.1 hw.2.2 q0 2 he rfl (vp_in_nI hk hn) hdg (fun H1 locs1 hP hD hS => ?_)
  rw [nI_clamp (Nat.lt_trans hk hn), hx] at hP hD
  exact kk H1 locs1 ⟨hP, hD, hS⟩
/-- numbers that are small -/
theorem addN (S : CallFix p m c cc nL s args Ts own) {a b : Nat} (hdg : decode cc pc = .ok (.iadd, 1)) (k : W p l e R s m args below meth c H locs cells slots Q (F0 m (pc + 1) ls (.int (nI (a + b)) :: rest))) : W p l e R s m args below meth c H locs cells slots Q (F0 m pc ls (.int (nI b) :: .int (nI a) :: rest)) :=
  lv_iadd S.1 S.2.1 hdg (by rw [nI_add]; exact k)
theorem mulN (S : CallFix p m c cc nL s args Ts own) {a b : Nat} (hdg : decode cc pc = .ok (.imul, 1)) (k : W p l e R s m args below meth c H locs cells slots Q (F0 m (pc + 1) ls (.int (nI (a * b)) :: rest))) : W p l e R s m args below meth c H locs cells slots Q (F0 m pc ls (.int (nI b) :: .int (nI a) :: rest)) :=
  lv_imul S.1 S.2.1 hdg (by rw [pk_mul]; exact k)
theorem litN {n : Int} {k : Nat} {x : Int32} (S : CallFix p m c cc nL s args Ts own) (h : x = nI k) (kk : W p l e R s m args below meth c H locs cells slots Q (F0 m pc ls (.int (nI k) :: rest))) : W p l e R s m args below meth c H locs cells slots Q (F0 m pc ls (.int x :: rest)) := by rw [h]; exact kk
theorem brN_eq (S : CallFix p m c cc nL s args Ts own) {a b : Nat} (ha : a < 2 ^ 31) (hb : b < 2 ^ 31) {off : Int} {tgt : Nat} (hdg : decode cc pc = .ok (.if_icmp .eq off, 3)) (ht : (pc : Int) + off = (tgt : Int)) (kt : a = b → W p l e R s m args below meth c H locs cells slots Q (F0 m tgt ls rest)) (kf : ¬ a = b → W p l e R s m args below meth c H locs cells slots Q (F0 m (pc + 3) ls rest)) : W p l e R s m args below meth c H locs cells slots Q (F0 m pc ls (.int (nI b) :: .int (nI a) :: rest)) :=
  lv_icmp_eq S.1 S.2.1 hdg ht (fun h => kt ((nI_eq ha hb).mp h)) (fun h => kf (fun h2 => h ((nI_eq ha hb).mpr h2)))
theorem brN_ne (S : CallFix p m c cc nL s args Ts own) {a b : Nat} (ha : a < 2 ^ 31) (hb : b < 2 ^ 31) {off : Int} {tgt : Nat} (hdg : decode cc pc = .ok (.if_icmp .ne off, 3)) (ht : (pc : Int) + off = (tgt : Int)) (kt : ¬ a = b → W p l e R s m args below meth c H locs cells slots Q (F0 m tgt ls rest)) (kf : a = b → W p l e R s m args below meth c H locs cells slots Q (F0 m (pc + 3) ls rest)) : W p l e R s m args below meth c H locs cells slots Q (F0 m pc ls (.int (nI b) :: .int (nI a) :: rest)) :=
  lv_icmp_ne S.1 S.2.1 hdg ht (fun h => kt (fun h2 => h ((nI_eq ha hb).mpr h2))) (fun h => kf (Classical.byContradiction fun h2 => h (fun h3 => h2 ((nI_eq ha hb).mp h3))))
theorem brN_ge (S : CallFix p m c cc nL s args Ts own) {a b : Nat} (ha : a < 2 ^ 31) (hb : b < 2 ^ 31) {off : Int} {tgt : Nat} (hdg : decode cc pc = .ok (.if_icmp .ge off, 3)) (ht : (pc : Int) + off = (tgt : Int)) (kt : b ≤ a → W p l e R s m args below meth c H locs cells slots Q (F0 m tgt ls rest)) (kf : a < b → W p l e R s m args below meth c H locs cells slots Q (F0 m (pc + 3) ls rest)) : W p l e R s m args below meth c H locs cells slots Q (F0 m pc ls (.int (nI b) :: .int (nI a) :: rest)) :=
  lv_icmp_ge S.1 S.2.1 hdg ht (fun h => kt ((nI_leI hb ha).mp h)) (fun h => kf (Nat.lt_of_not_le fun h2 => h ((nI_leI hb ha).mpr h2)))
theorem brN_lt (S : CallFix p m c cc nL s args Ts own) {a b : Nat} (ha : a < 2 ^ 31) (hb : b < 2 ^ 31) {off : Int} {tgt : Nat} (hdg : decode cc pc = .ok (.if_icmp .lt off, 3)) (ht : (pc : Int) + off = (tgt : Int)) (kt : a < b → W p l e R s m args below meth c H locs cells slots Q (F0 m tgt ls rest)) (kf : b ≤ a → W p l e R s m args below meth c H locs cells slots Q (F0 m (pc + 3) ls rest)) : W p l e R s m args below meth c H locs cells slots Q (F0 m pc ls (.int (nI b) :: .int (nI a) :: rest)) :=
  lv_icmp_lt S.1 S.2.1 hdg ht (fun h => kt ((nI_ltI ha hb).mp h)) (fun h => kf (Nat.le_of_not_lt fun h2 => h ((nI_ltI ha hb).mpr h2)))
theorem brB_eq (S : CallFix p m c cc nL s args Ts own) {b : Bool} {off : Int} {tgt : Nat} (hdg : decode cc pc = .ok (.ifCond .eq off, 3)) (ht : (pc : Int) + off = (tgt : Int)) (kt : b = false → W p l e R s m args below meth c H locs cells slots Q (F0 m tgt ls rest)) (kf : b = true → W p l e R s m args below meth c H locs cells slots Q (F0 m (pc + 3) ls rest)) : W p l e R s m args below meth c H locs cells slots Q (F0 m pc ls (.int (b2 b) :: rest)) :=
  lv_if_eq S.1 S.2.1 hdg ht (fun h => kt (b2_0.mp h)) (fun h => kf (b2_n0.mp h))
theorem brB_ne (S : CallFix p m c cc nL s args Ts own) {b : Bool} {off : Int} {tgt : Nat} (hdg : decode cc pc = .ok (.ifCond .ne off, 3)) (ht : (pc : Int) + off = (tgt : Int)) (kt : b = true → W p l e R s m args below meth c H locs cells slots Q (F0 m tgt ls rest)) (kf : b = false → W p l e R s m args below meth c H locs cells slots Q (F0 m (pc + 3) ls rest)) : W p l e R s m args below meth c H locs cells slots Q (F0 m pc ls (.int (b2 b) :: rest)) :=
  lv_if_ne S.1 S.2.1 hdg ht (fun h => kt (b2_n0.mp h)) (fun h => kf (b2_0.mp (Classical.byContradiction fun h2 => h h2)))
end GW
section GP
variable {p : Program} {l : Launch} {e : Env} {R : Room} {s : State} {m : MethodId} {args : Array Value} {below : List Frame} {meth : Method} {c : Code} {H : Heap} {locs : List Loc} {cells slots : Nat} {Q : State → Prop}
variable {cc : ByteArray} {nL : Nat} {Ts : List Cond} {own : String} {pc : Nat} {ls : Array Slot} {rest : List Value}
set_option maxRecDepth 100000 in
/-- GossipMembership.pair -/
theorem c_X4_pair (l : Launch) (n b : Nat) : Met l yX4_pair wsX4_pair ({ frames := 0, cells := 0, slots := 0, locals := 0 }) (va_Pc [.int (nI n), .int (nI b)] (fun _ => True)) (vp_Si (fun r => r = nI (8 * n + b))) 0 0 (fun _ => False) := by
  refine Met.ofW (cc := cX4_pair) (maxL := 2) (ret := (some .int)) (by decide) rfl ?_
  intro p e s m args below meth c s₁ B hml hv
  obtain ⟨rfl, -⟩ := hv
  have hx := B.exec
  have hb := B.bytes
  have hr := B.returns
  have hlk := B.notSynchronized
  have hl := lv_entry ([.int (nI n), .int (nI b)]) (n := 2) (Nat.le_of_ble_eq_true rfl)
  rw [lg_entry_eq]
  generalize (lg_sl ([.int (nI n), .int (nI b)]) ++ List.replicate (2 - (lg_sl ([.int (nI n), .int (nI b)])).length) Slot.unset).toArray = ls at hl ⊢
  have hl : lv_has ls 2 [(0, .int (nI n)), (1, .int (nI b))] := hl
  refine lv_iload_n hx hb dX4_pair_0 rfl (lv_at hl 0 rfl) ?_
  refine lv_bipush (v := nI 8) hx hb dX4_pair_1 (by decide) ?_
  refine lv_imul hx hb dX4_pair_3 ?_
  rw [pk_mul]
  refine lv_iload_n hx hb dX4_pair_4 rfl (lv_at hl 1 rfl) ?_
  refine lv_iadd hx hb dX4_pair_5 ?_
  rw [nI_add, Nat.mul_comm n 8]
  exact W.iret (v := nI (8 * n + b)) hx hb hr (fun t ht hW => ⟨_, rfl, rfl, ht⟩) (fun q h => by cases h) dX4_pair_6 hlk
set_option maxRecDepth 100000 in
/-- GossipMembershipModel.pair -/
theorem c_X5_pair (l : Launch) (n b : Nat) : Met l yX5_pair wsX5_pair ({ frames := 0, cells := 0, slots := 0, locals := 0 }) (va_Pc [.int (nI n), .int (nI b)] (fun _ => True)) (vp_Si (fun r => r = nI (8 * n + b))) 0 0 (fun _ => False) := by
  refine Met.ofW (cc := cX5_pair) (maxL := 2) (ret := (some .int)) (by decide) rfl ?_
  intro p e s m args below meth c s₁ B hml hv
  obtain ⟨rfl, -⟩ := hv
  have hx := B.exec
  have hb := B.bytes
  have hr := B.returns
  have hlk := B.notSynchronized
  have hl := lv_entry ([.int (nI n), .int (nI b)]) (n := 2) (Nat.le_of_ble_eq_true rfl)
  rw [lg_entry_eq]
  generalize (lg_sl ([.int (nI n), .int (nI b)]) ++ List.replicate (2 - (lg_sl ([.int (nI n), .int (nI b)])).length) Slot.unset).toArray = ls at hl ⊢
  have hl : lv_has ls 2 [(0, .int (nI n)), (1, .int (nI b))] := hl
  refine lv_bipush (v := nI 8) hx hb dX5_pair_0 (by decide) ?_
  refine lv_iload_n hx hb dX5_pair_2 rfl (lv_at hl 0 rfl) ?_
  refine lv_imul hx hb dX5_pair_3 ?_
  rw [pk_mul]
  refine lv_iload_n hx hb dX5_pair_4 rfl (lv_at hl 1 rfl) ?_
  refine lv_iadd hx hb dX5_pair_5 ?_
  rw [nI_add]
  exact W.iret (v := nI (8 * n + b)) hx hb hr (fun t ht hW => ⟨_, rfl, rfl, ht⟩) (fun q h => by cases h) dX5_pair_6 hlk
theorem hd_X4_pair : yX4_pair.cls ≠ "java/lang/invoke/MethodHandle" ∧ yX4_pair.cls ≠ "java/lang/invoke/VarHandle" ∧ (parseMethodDescriptor yX4_pair.desc).map (fun d => d.parameters.length) = some 2 := by decide +kernel
theorem hd_X5_pair : yX5_pair.cls ≠ "java/lang/invoke/MethodHandle" ∧ yX5_pair.cls ≠ "java/lang/invoke/VarHandle" ∧ (parseMethodDescriptor yX5_pair.desc).map (fun d => d.parameters.length) = some 2 := by decide +kernel
theorem blind_T {av : List Value} : FrameBlind (va_Pc av (fun _ => True)) := fun _ _ _ _ q => q
theorem pr_n {idx n b : Nat} (S : CallFix p m c cc nL s args Ts own) (hsz : ls.size = nL) (hg : GoodIn Ts wsX4_pair) (hnest : va_Nw (.methodLinkNest own idx yX4_pair RX4) s) (hstat : (Cond.static yX4_pair).before args s = true) (hini : (Cond.initialized yX4_pair.cls).before args s = true) (hR : 1 ≤ R.frames ∧ 21 ≤ R.locals) (hc : cells ≤ R.cells) (hs : slots ≤ R.slots) (hrest : (rest.map fun v => v.category).sum ≤ 8) (hdg : decode cc pc = .ok (.invokestatic idx, 3))
    (kk : W p l e R s m args below meth c H locs cells slots Q (F0 m (pc + 3) ls (.int (nI (8 * n + b)) :: rest))) : W p l e R s m args below meth c H locs cells slots Q (F0 m pc ls (.int (nI b) :: .int (nI n) :: rest)) := by
  refine vp_callSi (va_runSN (As := [.int (nI n), .int (nI b)]) (rest := rest) S (c_X4_pair l n b) ⟨va_cnB 2 S.2.2.2.2 hg rfl rfl rfl hnest hini hd_X4_pair ⟨hR.1, hR.2⟩, hstat, trivial⟩ ⟨blind_T, fun U hU hW => ⟨rfl, trivial⟩⟩ rfl rfl hsz rfl (lv_room hrest) hdg ⟨hc, hs⟩).run (fun r hp => ?_)
  rw [hp]
  exact kk
theorem pr_s {idx n b : Nat} (S : CallFix p m c cc nL s args Ts own) (hsz : ls.size = nL) (hg : GoodIn Ts (va_wsS own idx yX4_pair wsX4_pair)) (hR : 1 ≤ R.frames ∧ 21 ≤ R.locals) (hc : cells ≤ R.cells) (hs : slots ≤ R.slots) (hrest : (rest.map fun v => v.category).sum ≤ 8) (hdg : decode cc pc = .ok (.invokestatic idx, 3))
    (kk : W p l e R s m args below meth c H locs cells slots Q (F0 m (pc + 3) ls (.int (nI (8 * n + b)) :: rest))) : W p l e R s m args below meth c H locs cells slots Q (F0 m pc ls (.int (nI b) :: .int (nI n) :: rest)) := by
  refine vp_callSi (va_runS (As := [.int (nI n), .int (nI b)]) (rest := rest) S (c_X4_pair l n b) (va_cwS 2 S.2.2.2.2 hg rfl rfl rfl hd_X4_pair ⟨hR.1, hR.2⟩) ⟨blind_T, fun U hU hW => ⟨rfl, trivial⟩⟩ rfl rfl hsz rfl (lv_room hrest) hdg ⟨hc, hs⟩).run (fun r hp => ?_)
  rw [hp]
  exact kk
theorem pr_m {idx n b : Nat} (S : CallFix p m c cc nL s args Ts own) (hsz : ls.size = nL) (hg : GoodIn Ts (va_wsS own idx yX5_pair wsX5_pair)) (hR : 1 ≤ R.frames ∧ 21 ≤ R.locals) (hc : cells ≤ R.cells) (hs : slots ≤ R.slots) (hrest : (rest.map fun v => v.category).sum ≤ 8) (hdg : decode cc pc = .ok (.invokestatic idx, 3))
    (kk : W p l e R s m args below meth c H locs cells slots Q (F0 m (pc + 3) ls (.int (nI (8 * n + b)) :: rest))) : W p l e R s m args below meth c H locs cells slots Q (F0 m pc ls (.int (nI b) :: .int (nI n) :: rest)) := by
  refine vp_callSi (va_runS (As := [.int (nI n), .int (nI b)]) (rest := rest) S (c_X5_pair l n b) (va_cwS 2 S.2.2.2.2 hg rfl rfl rfl hd_X5_pair ⟨hR.1, hR.2⟩) ⟨blind_T, fun U hU hW => ⟨rfl, trivial⟩⟩ rfl rfl hsz rfl (lv_room hrest) hdg ⟨hc, hs⟩).run (fun r hp => ?_)
  rw [hp]
  exact kk
end GP
section GF
variable {p : Program} {l : Launch} {e : Env} {R : Room} {s : State} {m : MethodId} {args : Array Value} {below : List Frame} {meth : Method} {c : Code} {H : Heap} {locs : List Loc} {cells slots : Nat} {Q : State → Prop}
variable {cc : ByteArray} {nL : Nat} {Ts : List Cond} {own : String} {pc idx a : Nat} {ls : Array Slot} {rest : List Value} {G : GA} {A : Nat → Prop} {ws ws' : va_W} {fs : List Value}
theorem gt_X0_0 {v : Value} (S : CallFix p m c cc nL s args Ts own) (hK : KK G s) (hw : WD G ws A s H locs) (q0 : Nat) (he : ws[q0]? = some (a, .inr (0, fs))) (hv : fs[0]? = some v) (L : ∀ w ∈ u_ws RX0 TX0 2, w.before args s = true) (link : (Cond.fieldLink own idx "GossipMembership$CommandText" "signs" "[C").before args s = true) (hdg : decode cc pc = .ok (.getfield idx, 3)) (kk : W p l e R s m args below meth c H locs cells slots Q (F0 m (pc + 3) ls (v :: rest))) : W p l e R s m args below meth c H locs cells slots Q (F0 m pc ls (.ref a :: rest)) :=
  va_get (D := G.1) (cl := gcl) (C := RX0) (T := TX0) (N := 2) S.1 S.2.1 L (fun _ h => h) S.2.2.2.1 hK.1 hw.1 q0 he rfl 0 (by decide) link (fun _ h => h) hv hdg kk
theorem gt_X0_1 {v : Value} (S : CallFix p m c cc nL s args Ts own) (hK : KK G s) (hw : WD G ws A s H locs) (q0 : Nat) (he : ws[q0]? = some (a, .inr (0, fs))) (hv : fs[1]? = some v) (L : ∀ w ∈ u_ws RX0 TX0 2, w.before args s = true) (link : (Cond.fieldLink own idx "GossipMembership$CommandText" "length" "I").before args s = true) (hdg : decode cc pc = .ok (.getfield idx, 3)) (kk : W p l e R s m args below meth c H locs cells slots Q (F0 m (pc + 3) ls (v :: rest))) : W p l e R s m args below meth c H locs cells slots Q (F0 m pc ls (.ref a :: rest)) :=
  va_get (D := G.1) (cl := gcl) (C := RX0) (T := TX0) (N := 2) S.1 S.2.1 L (fun _ h => h) S.2.2.2.1 hK.1 hw.1 q0 he rfl 1 (by decide) link (fun _ h => h) hv hdg kk
theorem pt_X0_1 {x : Int32} (S : CallFix p m c cc nL s args Ts own) (hK : KK G s) (hw : WD G ws A s H locs) (q0 : Nat) (he : ws[q0]? = some (a, .inr (0, fs))) (L : ∀ w ∈ u_ws RX0 TX0 2, w.before args s = true) (link : (Cond.fieldLink own idx "GossipMembership$CommandText" "length" "I").before args s = true) (hs : ws.set q0 (a, .inr (0, fs.set 1 (.int x))) = ws') (hlen : 1 < fs.length) (hdg : decode cc pc = .ok (.putfield idx, 3)) (kk : ∀ (H1 : Heap) (locs1 : List Loc), WD G ws' A s H1 locs1 → W p l e R s m args below meth c H1 locs1 cells slots Q (F0 m (pc + 3) ls rest)) : W p l e R s m args below meth c H locs cells slots Q (F0 m pc ls (.int x :: .ref a :: rest)) := by
  subst hs
  exact va_put (D := G.1) (cl := gcl) (C := RX0) (T := TX0) (N := 2) S.1 S.2.1 L (fun _ h => h) tyX0 tyX0_ok nmX0 S.2.2.2.1 hK.1 hw.1 hw.2.1 hw.2.2 q0 he rfl 1 (by decide) link (fun _ h => h) rfl (ty := .int) (by decide +kernel) rfl rfl hlen hdg (fun H1 locs1 hP hD hS => kk H1 locs1 ⟨hP, hD, hS⟩)
theorem gt_X1_0 {v : Value} (S : CallFix p m c cc nL s args Ts own) (hK : KK G s) (hw : WD G ws A s H locs) (q0 : Nat) (he : ws[q0]? = some (a, .inr (1, fs))) (hv : fs[0]? = some v) (L : ∀ w ∈ u_ws RX1 TX1 10, w.before args s = true) (link : (Cond.fieldLink own idx "GossipMembership$Knowledge" "ownIncarnation" "[I").before args s = true) (hdg : decode cc pc = .ok (.getfield idx, 3)) (kk : W p l e R s m args below meth c H locs cells slots Q (F0 m (pc + 3) ls (v :: rest))) : W p l e R s m args below meth c H locs cells slots Q (F0 m pc ls (.ref a :: rest)) :=
  va_get (D := G.1) (cl := gcl) (C := RX1) (T := TX1) (N := 10) S.1 S.2.1 L (fun _ h => h) S.2.2.2.1 hK.1 hw.1 q0 he rfl 0 (by decide) link (fun _ h => h) hv hdg kk
theorem gt_X1_1 {v : Value} (S : CallFix p m c cc nL s args Ts own) (hK : KK G s) (hw : WD G ws A s H locs) (q0 : Nat) (he : ws[q0]? = some (a, .inr (1, fs))) (hv : fs[1]? = some v) (L : ∀ w ∈ u_ws RX1 TX1 10, w.before args s = true) (link : (Cond.fieldLink own idx "GossipMembership$Knowledge" "state" "[I").before args s = true) (hdg : decode cc pc = .ok (.getfield idx, 3)) (kk : W p l e R s m args below meth c H locs cells slots Q (F0 m (pc + 3) ls (v :: rest))) : W p l e R s m args below meth c H locs cells slots Q (F0 m pc ls (.ref a :: rest)) :=
  va_get (D := G.1) (cl := gcl) (C := RX1) (T := TX1) (N := 10) S.1 S.2.1 L (fun _ h => h) S.2.2.2.1 hK.1 hw.1 q0 he rfl 1 (by decide) link (fun _ h => h) hv hdg kk
theorem gt_X1_2 {v : Value} (S : CallFix p m c cc nL s args Ts own) (hK : KK G s) (hw : WD G ws A s H locs) (q0 : Nat) (he : ws[q0]? = some (a, .inr (1, fs))) (hv : fs[2]? = some v) (L : ∀ w ∈ u_ws RX1 TX1 10, w.before args s = true) (link : (Cond.fieldLink own idx "GossipMembership$Knowledge" "incarnations" "[I").before args s = true) (hdg : decode cc pc = .ok (.getfield idx, 3)) (kk : W p l e R s m args below meth c H locs cells slots Q (F0 m (pc + 3) ls (v :: rest))) : W p l e R s m args below meth c H locs cells slots Q (F0 m pc ls (.ref a :: rest)) :=
  va_get (D := G.1) (cl := gcl) (C := RX1) (T := TX1) (N := 10) S.1 S.2.1 L (fun _ h => h) S.2.2.2.1 hK.1 hw.1 q0 he rfl 2 (by decide) link (fun _ h => h) hv hdg kk
theorem gt_X1_3 {v : Value} (S : CallFix p m c cc nL s args Ts own) (hK : KK G s) (hw : WD G ws A s H locs) (q0 : Nat) (he : ws[q0]? = some (a, .inr (1, fs))) (hv : fs[3]? = some v) (L : ∀ w ∈ u_ws RX1 TX1 10, w.before args s = true) (link : (Cond.fieldLink own idx "GossipMembership$Knowledge" "deadlines" "[I").before args s = true) (hdg : decode cc pc = .ok (.getfield idx, 3)) (kk : W p l e R s m args below meth c H locs cells slots Q (F0 m (pc + 3) ls (v :: rest))) : W p l e R s m args below meth c H locs cells slots Q (F0 m pc ls (.ref a :: rest)) :=
  va_get (D := G.1) (cl := gcl) (C := RX1) (T := TX1) (N := 10) S.1 S.2.1 L (fun _ h => h) S.2.2.2.1 hK.1 hw.1 q0 he rfl 3 (by decide) link (fun _ h => h) hv hdg kk
theorem gt_X1_4 {v : Value} (S : CallFix p m c cc nL s args Ts own) (hK : KK G s) (hw : WD G ws A s H locs) (q0 : Nat) (he : ws[q0]? = some (a, .inr (1, fs))) (hv : fs[4]? = some v) (L : ∀ w ∈ u_ws RX1 TX1 10, w.before args s = true) (link : (Cond.fieldLink own idx "GossipMembership$Knowledge" "counters" "[I").before args s = true) (hdg : decode cc pc = .ok (.getfield idx, 3)) (kk : W p l e R s m args below meth c H locs cells slots Q (F0 m (pc + 3) ls (v :: rest))) : W p l e R s m args below meth c H locs cells slots Q (F0 m pc ls (.ref a :: rest)) :=
  va_get (D := G.1) (cl := gcl) (C := RX1) (T := TX1) (N := 10) S.1 S.2.1 L (fun _ h => h) S.2.2.2.1 hK.1 hw.1 q0 he rfl 4 (by decide) link (fun _ h => h) hv hdg kk
theorem gt_X1_5 {v : Value} (S : CallFix p m c cc nL s args Ts own) (hK : KK G s) (hw : WD G ws A s H locs) (q0 : Nat) (he : ws[q0]? = some (a, .inr (1, fs))) (hv : fs[5]? = some v) (L : ∀ w ∈ u_ws RX1 TX1 10, w.before args s = true) (link : (Cond.fieldLink own idx "GossipMembership$Knowledge" "patience" "I").before args s = true) (hdg : decode cc pc = .ok (.getfield idx, 3)) (kk : W p l e R s m args below meth c H locs cells slots Q (F0 m (pc + 3) ls (v :: rest))) : W p l e R s m args below meth c H locs cells slots Q (F0 m pc ls (.ref a :: rest)) :=
  va_get (D := G.1) (cl := gcl) (C := RX1) (T := TX1) (N := 10) S.1 S.2.1 L (fun _ h => h) S.2.2.2.1 hK.1 hw.1 q0 he rfl 5 (by decide) link (fun _ h => h) hv hdg kk
theorem pt_X1_5 {x : Int32} (S : CallFix p m c cc nL s args Ts own) (hK : KK G s) (hw : WD G ws A s H locs) (q0 : Nat) (he : ws[q0]? = some (a, .inr (1, fs))) (L : ∀ w ∈ u_ws RX1 TX1 10, w.before args s = true) (link : (Cond.fieldLink own idx "GossipMembership$Knowledge" "patience" "I").before args s = true) (hs : ws.set q0 (a, .inr (1, fs.set 5 (.int x))) = ws') (hlen : 5 < fs.length) (hdg : decode cc pc = .ok (.putfield idx, 3)) (kk : ∀ (H1 : Heap) (locs1 : List Loc), WD G ws' A s H1 locs1 → W p l e R s m args below meth c H1 locs1 cells slots Q (F0 m (pc + 3) ls rest)) : W p l e R s m args below meth c H locs cells slots Q (F0 m pc ls (.int x :: .ref a :: rest)) := by
  subst hs
  exact va_put (D := G.1) (cl := gcl) (C := RX1) (T := TX1) (N := 10) S.1 S.2.1 L (fun _ h => h) tyX1 tyX1_ok nmX1 S.2.2.2.1 hK.1 hw.1 hw.2.1 hw.2.2 q0 he rfl 5 (by decide) link (fun _ h => h) rfl (ty := .int) (by decide +kernel) rfl rfl hlen hdg (fun H1 locs1 hP hD hS => kk H1 locs1 ⟨hP, hD, hS⟩)
theorem gt_X1_6 {v : Value} (S : CallFix p m c cc nL s args Ts own) (hK : KK G s) (hw : WD G ws A s H locs) (q0 : Nat) (he : ws[q0]? = some (a, .inr (1, fs))) (hv : fs[6]? = some v) (L : ∀ w ∈ u_ws RX1 TX1 10, w.before args s = true) (link : (Cond.fieldLink own idx "GossipMembership$Knowledge" "fanOut" "I").before args s = true) (hdg : decode cc pc = .ok (.getfield idx, 3)) (kk : W p l e R s m args below meth c H locs cells slots Q (F0 m (pc + 3) ls (v :: rest))) : W p l e R s m args below meth c H locs cells slots Q (F0 m pc ls (.ref a :: rest)) :=
  va_get (D := G.1) (cl := gcl) (C := RX1) (T := TX1) (N := 10) S.1 S.2.1 L (fun _ h => h) S.2.2.2.1 hK.1 hw.1 q0 he rfl 6 (by decide) link (fun _ h => h) hv hdg kk
theorem pt_X1_6 {x : Int32} (S : CallFix p m c cc nL s args Ts own) (hK : KK G s) (hw : WD G ws A s H locs) (q0 : Nat) (he : ws[q0]? = some (a, .inr (1, fs))) (L : ∀ w ∈ u_ws RX1 TX1 10, w.before args s = true) (link : (Cond.fieldLink own idx "GossipMembership$Knowledge" "fanOut" "I").before args s = true) (hs : ws.set q0 (a, .inr (1, fs.set 6 (.int x))) = ws') (hlen : 6 < fs.length) (hdg : decode cc pc = .ok (.putfield idx, 3)) (kk : ∀ (H1 : Heap) (locs1 : List Loc), WD G ws' A s H1 locs1 → W p l e R s m args below meth c H1 locs1 cells slots Q (F0 m (pc + 3) ls rest)) : W p l e R s m args below meth c H locs cells slots Q (F0 m pc ls (.int x :: .ref a :: rest)) := by
  subst hs
  exact va_put (D := G.1) (cl := gcl) (C := RX1) (T := TX1) (N := 10) S.1 S.2.1 L (fun _ h => h) tyX1 tyX1_ok nmX1 S.2.2.2.1 hK.1 hw.1 hw.2.1 hw.2.2 q0 he rfl 6 (by decide) link (fun _ h => h) rfl (ty := .int) (by decide +kernel) rfl rfl hlen hdg (fun H1 locs1 hP hD hS => kk H1 locs1 ⟨hP, hD, hS⟩)
theorem gt_X1_7 {v : Value} (S : CallFix p m c cc nL s args Ts own) (hK : KK G s) (hw : WD G ws A s H locs) (q0 : Nat) (he : ws[q0]? = some (a, .inr (1, fs))) (hv : fs[7]? = some v) (L : ∀ w ∈ u_ws RX1 TX1 10, w.before args s = true) (link : (Cond.fieldLink own idx "GossipMembership$Knowledge" "presentRound" "I").before args s = true) (hdg : decode cc pc = .ok (.getfield idx, 3)) (kk : W p l e R s m args below meth c H locs cells slots Q (F0 m (pc + 3) ls (v :: rest))) : W p l e R s m args below meth c H locs cells slots Q (F0 m pc ls (.ref a :: rest)) :=
  va_get (D := G.1) (cl := gcl) (C := RX1) (T := TX1) (N := 10) S.1 S.2.1 L (fun _ h => h) S.2.2.2.1 hK.1 hw.1 q0 he rfl 7 (by decide) link (fun _ h => h) hv hdg kk
theorem pt_X1_7 {x : Int32} (S : CallFix p m c cc nL s args Ts own) (hK : KK G s) (hw : WD G ws A s H locs) (q0 : Nat) (he : ws[q0]? = some (a, .inr (1, fs))) (L : ∀ w ∈ u_ws RX1 TX1 10, w.before args s = true) (link : (Cond.fieldLink own idx "GossipMembership$Knowledge" "presentRound" "I").before args s = true) (hs : ws.set q0 (a, .inr (1, fs.set 7 (.int x))) = ws') (hlen : 7 < fs.length) (hdg : decode cc pc = .ok (.putfield idx, 3)) (kk : ∀ (H1 : Heap) (locs1 : List Loc), WD G ws' A s H1 locs1 → W p l e R s m args below meth c H1 locs1 cells slots Q (F0 m (pc + 3) ls rest)) : W p l e R s m args below meth c H locs cells slots Q (F0 m pc ls (.int x :: .ref a :: rest)) := by
  subst hs
  exact va_put (D := G.1) (cl := gcl) (C := RX1) (T := TX1) (N := 10) S.1 S.2.1 L (fun _ h => h) tyX1 tyX1_ok nmX1 S.2.2.2.1 hK.1 hw.1 hw.2.1 hw.2.2 q0 he rfl 7 (by decide) link (fun _ h => h) rfl (ty := .int) (by decide +kernel) rfl rfl hlen hdg (fun H1 locs1 hP hD hS => kk H1 locs1 ⟨hP, hD, hS⟩)
theorem gt_X1_8 {v : Value} (S : CallFix p m c cc nL s args Ts own) (hK : KK G s) (hw : WD G ws A s H locs) (q0 : Nat) (he : ws[q0]? = some (a, .inr (1, fs))) (hv : fs[8]? = some v) (L : ∀ w ∈ u_ws RX1 TX1 10, w.before args s = true) (link : (Cond.fieldLink own idx "GossipMembership$Knowledge" "lastUnquietRound" "I").before args s = true) (hdg : decode cc pc = .ok (.getfield idx, 3)) (kk : W p l e R s m args below meth c H locs cells slots Q (F0 m (pc + 3) ls (v :: rest))) : W p l e R s m args below meth c H locs cells slots Q (F0 m pc ls (.ref a :: rest)) :=
  va_get (D := G.1) (cl := gcl) (C := RX1) (T := TX1) (N := 10) S.1 S.2.1 L (fun _ h => h) S.2.2.2.1 hK.1 hw.1 q0 he rfl 8 (by decide) link (fun _ h => h) hv hdg kk
theorem pt_X1_8 {x : Int32} (S : CallFix p m c cc nL s args Ts own) (hK : KK G s) (hw : WD G ws A s H locs) (q0 : Nat) (he : ws[q0]? = some (a, .inr (1, fs))) (L : ∀ w ∈ u_ws RX1 TX1 10, w.before args s = true) (link : (Cond.fieldLink own idx "GossipMembership$Knowledge" "lastUnquietRound" "I").before args s = true) (hs : ws.set q0 (a, .inr (1, fs.set 8 (.int x))) = ws') (hlen : 8 < fs.length) (hdg : decode cc pc = .ok (.putfield idx, 3)) (kk : ∀ (H1 : Heap) (locs1 : List Loc), WD G ws' A s H1 locs1 → W p l e R s m args below meth c H1 locs1 cells slots Q (F0 m (pc + 3) ls rest)) : W p l e R s m args below meth c H locs cells slots Q (F0 m pc ls (.int x :: .ref a :: rest)) := by
  subst hs
  exact va_put (D := G.1) (cl := gcl) (C := RX1) (T := TX1) (N := 10) S.1 S.2.1 L (fun _ h => h) tyX1 tyX1_ok nmX1 S.2.2.2.1 hK.1 hw.1 hw.2.1 hw.2.2 q0 he rfl 8 (by decide) link (fun _ h => h) rfl (ty := .int) (by decide +kernel) rfl rfl hlen hdg (fun H1 locs1 hP hD hS => kk H1 locs1 ⟨hP, hD, hS⟩)
theorem gt_X1_9 {v : Value} (S : CallFix p m c cc nL s args Ts own) (hK : KK G s) (hw : WD G ws A s H locs) (q0 : Nat) (he : ws[q0]? = some (a, .inr (1, fs))) (hv : fs[9]? = some v) (L : ∀ w ∈ u_ws RX1 TX1 10, w.before args s = true) (link : (Cond.fieldLink own idx "GossipMembership$Knowledge" "refuted" "I").before args s = true) (hdg : decode cc pc = .ok (.getfield idx, 3)) (kk : W p l e R s m args below meth c H locs cells slots Q (F0 m (pc + 3) ls (v :: rest))) : W p l e R s m args below meth c H locs cells slots Q (F0 m pc ls (.ref a :: rest)) :=
  va_get (D := G.1) (cl := gcl) (C := RX1) (T := TX1) (N := 10) S.1 S.2.1 L (fun _ h => h) S.2.2.2.1 hK.1 hw.1 q0 he rfl 9 (by decide) link (fun _ h => h) hv hdg kk
theorem pt_X1_9 {x : Int32} (S : CallFix p m c cc nL s args Ts own) (hK : KK G s) (hw : WD G ws A s H locs) (q0 : Nat) (he : ws[q0]? = some (a, .inr (1, fs))) (L : ∀ w ∈ u_ws RX1 TX1 10, w.before args s = true) (link : (Cond.fieldLink own idx "GossipMembership$Knowledge" "refuted" "I").before args s = true) (hs : ws.set q0 (a, .inr (1, fs.set 9 (.int x))) = ws') (hlen : 9 < fs.length) (hdg : decode cc pc = .ok (.putfield idx, 3)) (kk : ∀ (H1 : Heap) (locs1 : List Loc), WD G ws' A s H1 locs1 → W p l e R s m args below meth c H1 locs1 cells slots Q (F0 m (pc + 3) ls rest)) : W p l e R s m args below meth c H locs cells slots Q (F0 m pc ls (.int x :: .ref a :: rest)) := by
  subst hs
  exact va_put (D := G.1) (cl := gcl) (C := RX1) (T := TX1) (N := 10) S.1 S.2.1 L (fun _ h => h) tyX1 tyX1_ok nmX1 S.2.2.2.1 hK.1 hw.1 hw.2.1 hw.2.2 q0 he rfl 9 (by decide) link (fun _ h => h) rfl (ty := .int) (by decide +kernel) rfl rfl hlen hdg (fun H1 locs1 hP hD hS => kk H1 locs1 ⟨hP, hD, hS⟩)
theorem gt_X2_0 {v : Value} (S : CallFix p m c cc nL s args Ts own) (hK : KK G s) (hw : WD G ws A s H locs) (q0 : Nat) (he : ws[q0]? = some (a, .inr (2, fs))) (hv : fs[0]? = some v) (L : ∀ w ∈ u_ws RX2 TX2 4, w.before args s = true) (link : (Cond.fieldLink own idx "GossipMembership$Network" "up" "[Z").before args s = true) (hdg : decode cc pc = .ok (.getfield idx, 3)) (kk : W p l e R s m args below meth c H locs cells slots Q (F0 m (pc + 3) ls (v :: rest))) : W p l e R s m args below meth c H locs cells slots Q (F0 m pc ls (.ref a :: rest)) :=
  va_get (D := G.1) (cl := gcl) (C := RX2) (T := TX2) (N := 4) S.1 S.2.1 L (fun _ h => h) S.2.2.2.1 hK.1 hw.1 q0 he rfl 0 (by decide) link (fun _ h => h) hv hdg kk
theorem gt_X2_1 {v : Value} (S : CallFix p m c cc nL s args Ts own) (hK : KK G s) (hw : WD G ws A s H locs) (q0 : Nat) (he : ws[q0]? = some (a, .inr (2, fs))) (hv : fs[1]? = some v) (L : ∀ w ∈ u_ws RX2 TX2 4, w.before args s = true) (link : (Cond.fieldLink own idx "GossipMembership$Network" "everUp" "[Z").before args s = true) (hdg : decode cc pc = .ok (.getfield idx, 3)) (kk : W p l e R s m args below meth c H locs cells slots Q (F0 m (pc + 3) ls (v :: rest))) : W p l e R s m args below meth c H locs cells slots Q (F0 m pc ls (.ref a :: rest)) :=
  va_get (D := G.1) (cl := gcl) (C := RX2) (T := TX2) (N := 4) S.1 S.2.1 L (fun _ h => h) S.2.2.2.1 hK.1 hw.1 q0 he rfl 1 (by decide) link (fun _ h => h) hv hdg kk
theorem gt_X2_2 {v : Value} (S : CallFix p m c cc nL s args Ts own) (hK : KK G s) (hw : WD G ws A s H locs) (q0 : Nat) (he : ws[q0]? = some (a, .inr (2, fs))) (hv : fs[2]? = some v) (L : ∀ w ∈ u_ws RX2 TX2 4, w.before args s = true) (link : (Cond.fieldLink own idx "GossipMembership$Network" "place" "[I").before args s = true) (hdg : decode cc pc = .ok (.getfield idx, 3)) (kk : W p l e R s m args below meth c H locs cells slots Q (F0 m (pc + 3) ls (v :: rest))) : W p l e R s m args below meth c H locs cells slots Q (F0 m pc ls (.ref a :: rest)) :=
  va_get (D := G.1) (cl := gcl) (C := RX2) (T := TX2) (N := 4) S.1 S.2.1 L (fun _ h => h) S.2.2.2.1 hK.1 hw.1 q0 he rfl 2 (by decide) link (fun _ h => h) hv hdg kk
theorem gt_X2_3 {v : Value} (S : CallFix p m c cc nL s args Ts own) (hK : KK G s) (hw : WD G ws A s H locs) (q0 : Nat) (he : ws[q0]? = some (a, .inr (2, fs))) (hv : fs[3]? = some v) (L : ∀ w ∈ u_ws RX2 TX2 4, w.before args s = true) (link : (Cond.fieldLink own idx "GossipMembership$Network" "cutLinks" "[Z").before args s = true) (hdg : decode cc pc = .ok (.getfield idx, 3)) (kk : W p l e R s m args below meth c H locs cells slots Q (F0 m (pc + 3) ls (v :: rest))) : W p l e R s m args below meth c H locs cells slots Q (F0 m pc ls (.ref a :: rest)) :=
  va_get (D := G.1) (cl := gcl) (C := RX2) (T := TX2) (N := 4) S.1 S.2.1 L (fun _ h => h) S.2.2.2.1 hK.1 hw.1 q0 he rfl 3 (by decide) link (fun _ h => h) hv hdg kk
theorem gt_X3_0 {v : Value} (S : CallFix p m c cc nL s args Ts own) (hK : KK G s) (hw : WD G ws A s H locs) (q0 : Nat) (he : ws[q0]? = some (a, .inr (3, fs))) (hv : fs[0]? = some v) (L : ∀ w ∈ u_ws RX3 TX3 7, w.before args s = true) (link : (Cond.fieldLink own idx "GossipMembership$World" "network" "LGossipMembership$Network;").before args s = true) (hdg : decode cc pc = .ok (.getfield idx, 3)) (kk : W p l e R s m args below meth c H locs cells slots Q (F0 m (pc + 3) ls (v :: rest))) : W p l e R s m args below meth c H locs cells slots Q (F0 m pc ls (.ref a :: rest)) :=
  va_get (D := G.1) (cl := gcl) (C := RX3) (T := TX3) (N := 7) S.1 S.2.1 L (fun _ h => h) S.2.2.2.1 hK.1 hw.1 q0 he rfl 0 (by decide) link (fun _ h => h) hv hdg kk
theorem gt_X3_1 {v : Value} (S : CallFix p m c cc nL s args Ts own) (hK : KK G s) (hw : WD G ws A s H locs) (q0 : Nat) (he : ws[q0]? = some (a, .inr (3, fs))) (hv : fs[1]? = some v) (L : ∀ w ∈ u_ws RX3 TX3 7, w.before args s = true) (link : (Cond.fieldLink own idx "GossipMembership$World" "knowledge" "LGossipMembership$Knowledge;").before args s = true) (hdg : decode cc pc = .ok (.getfield idx, 3)) (kk : W p l e R s m args below meth c H locs cells slots Q (F0 m (pc + 3) ls (v :: rest))) : W p l e R s m args below meth c H locs cells slots Q (F0 m pc ls (.ref a :: rest)) :=
  va_get (D := G.1) (cl := gcl) (C := RX3) (T := TX3) (N := 7) S.1 S.2.1 L (fun _ h => h) S.2.2.2.1 hK.1 hw.1 q0 he rfl 1 (by decide) link (fun _ h => h) hv hdg kk
theorem gt_X3_2 {v : Value} (S : CallFix p m c cc nL s args Ts own) (hK : KK G s) (hw : WD G ws A s H locs) (q0 : Nat) (he : ws[q0]? = some (a, .inr (3, fs))) (hv : fs[2]? = some v) (L : ∀ w ∈ u_ws RX3 TX3 7, w.before args s = true) (link : (Cond.fieldLink own idx "GossipMembership$World" "helpers" "I").before args s = true) (hdg : decode cc pc = .ok (.getfield idx, 3)) (kk : W p l e R s m args below meth c H locs cells slots Q (F0 m (pc + 3) ls (v :: rest))) : W p l e R s m args below meth c H locs cells slots Q (F0 m pc ls (.ref a :: rest)) :=
  va_get (D := G.1) (cl := gcl) (C := RX3) (T := TX3) (N := 7) S.1 S.2.1 L (fun _ h => h) S.2.2.2.1 hK.1 hw.1 q0 he rfl 2 (by decide) link (fun _ h => h) hv hdg kk
theorem pt_X3_2 {x : Int32} (S : CallFix p m c cc nL s args Ts own) (hK : KK G s) (hw : WD G ws A s H locs) (q0 : Nat) (he : ws[q0]? = some (a, .inr (3, fs))) (L : ∀ w ∈ u_ws RX3 TX3 7, w.before args s = true) (link : (Cond.fieldLink own idx "GossipMembership$World" "helpers" "I").before args s = true) (hs : ws.set q0 (a, .inr (3, fs.set 2 (.int x))) = ws') (hlen : 2 < fs.length) (hdg : decode cc pc = .ok (.putfield idx, 3)) (kk : ∀ (H1 : Heap) (locs1 : List Loc), WD G ws' A s H1 locs1 → W p l e R s m args below meth c H1 locs1 cells slots Q (F0 m (pc + 3) ls rest)) : W p l e R s m args below meth c H locs cells slots Q (F0 m pc ls (.int x :: .ref a :: rest)) := by
  subst hs
  exact va_put (D := G.1) (cl := gcl) (C := RX3) (T := TX3) (N := 7) S.1 S.2.1 L (fun _ h => h) tyX3 tyX3_ok nmX3 S.2.2.2.1 hK.1 hw.1 hw.2.1 hw.2.2 q0 he rfl 2 (by decide) link (fun _ h => h) rfl (ty := .int) (by decide +kernel) rfl rfl hlen hdg (fun H1 locs1 hP hD hS => kk H1 locs1 ⟨hP, hD, hS⟩)
theorem gt_X3_3 {v : Value} (S : CallFix p m c cc nL s args Ts own) (hK : KK G s) (hw : WD G ws A s H locs) (q0 : Nat) (he : ws[q0]? = some (a, .inr (3, fs))) (hv : fs[3]? = some v) (L : ∀ w ∈ u_ws RX3 TX3 7, w.before args s = true) (link : (Cond.fieldLink own idx "GossipMembership$World" "drawSeed" "I").before args s = true) (hdg : decode cc pc = .ok (.getfield idx, 3)) (kk : W p l e R s m args below meth c H locs cells slots Q (F0 m (pc + 3) ls (v :: rest))) : W p l e R s m args below meth c H locs cells slots Q (F0 m pc ls (.ref a :: rest)) :=
  va_get (D := G.1) (cl := gcl) (C := RX3) (T := TX3) (N := 7) S.1 S.2.1 L (fun _ h => h) S.2.2.2.1 hK.1 hw.1 q0 he rfl 3 (by decide) link (fun _ h => h) hv hdg kk
theorem pt_X3_3 {x : Int32} (S : CallFix p m c cc nL s args Ts own) (hK : KK G s) (hw : WD G ws A s H locs) (q0 : Nat) (he : ws[q0]? = some (a, .inr (3, fs))) (L : ∀ w ∈ u_ws RX3 TX3 7, w.before args s = true) (link : (Cond.fieldLink own idx "GossipMembership$World" "drawSeed" "I").before args s = true) (hs : ws.set q0 (a, .inr (3, fs.set 3 (.int x))) = ws') (hlen : 3 < fs.length) (hdg : decode cc pc = .ok (.putfield idx, 3)) (kk : ∀ (H1 : Heap) (locs1 : List Loc), WD G ws' A s H1 locs1 → W p l e R s m args below meth c H1 locs1 cells slots Q (F0 m (pc + 3) ls rest)) : W p l e R s m args below meth c H locs cells slots Q (F0 m pc ls (.int x :: .ref a :: rest)) := by
  subst hs
  exact va_put (D := G.1) (cl := gcl) (C := RX3) (T := TX3) (N := 7) S.1 S.2.1 L (fun _ h => h) tyX3 tyX3_ok nmX3 S.2.2.2.1 hK.1 hw.1 hw.2.1 hw.2.2 q0 he rfl 3 (by decide) link (fun _ h => h) rfl (ty := .int) (by decide +kernel) rfl rfl hlen hdg (fun H1 locs1 hP hD hS => kk H1 locs1 ⟨hP, hD, hS⟩)
theorem gt_X3_4 {v : Value} (S : CallFix p m c cc nL s args Ts own) (hK : KK G s) (hw : WD G ws A s H locs) (q0 : Nat) (he : ws[q0]? = some (a, .inr (3, fs))) (hv : fs[4]? = some v) (L : ∀ w ∈ u_ws RX3 TX3 7, w.before args s = true) (link : (Cond.fieldLink own idx "GossipMembership$World" "declared" "I").before args s = true) (hdg : decode cc pc = .ok (.getfield idx, 3)) (kk : W p l e R s m args below meth c H locs cells slots Q (F0 m (pc + 3) ls (v :: rest))) : W p l e R s m args below meth c H locs cells slots Q (F0 m pc ls (.ref a :: rest)) :=
  va_get (D := G.1) (cl := gcl) (C := RX3) (T := TX3) (N := 7) S.1 S.2.1 L (fun _ h => h) S.2.2.2.1 hK.1 hw.1 q0 he rfl 4 (by decide) link (fun _ h => h) hv hdg kk
theorem pt_X3_4 {x : Int32} (S : CallFix p m c cc nL s args Ts own) (hK : KK G s) (hw : WD G ws A s H locs) (q0 : Nat) (he : ws[q0]? = some (a, .inr (3, fs))) (L : ∀ w ∈ u_ws RX3 TX3 7, w.before args s = true) (link : (Cond.fieldLink own idx "GossipMembership$World" "declared" "I").before args s = true) (hs : ws.set q0 (a, .inr (3, fs.set 4 (.int x))) = ws') (hlen : 4 < fs.length) (hdg : decode cc pc = .ok (.putfield idx, 3)) (kk : ∀ (H1 : Heap) (locs1 : List Loc), WD G ws' A s H1 locs1 → W p l e R s m args below meth c H1 locs1 cells slots Q (F0 m (pc + 3) ls rest)) : W p l e R s m args below meth c H locs cells slots Q (F0 m pc ls (.int x :: .ref a :: rest)) := by
  subst hs
  exact va_put (D := G.1) (cl := gcl) (C := RX3) (T := TX3) (N := 7) S.1 S.2.1 L (fun _ h => h) tyX3 tyX3_ok nmX3 S.2.2.2.1 hK.1 hw.1 hw.2.1 hw.2.2 q0 he rfl 4 (by decide) link (fun _ h => h) rfl (ty := .int) (by decide +kernel) rfl rfl hlen hdg (fun H1 locs1 hP hD hS => kk H1 locs1 ⟨hP, hD, hS⟩)
theorem gt_X3_5 {v : Value} (S : CallFix p m c cc nL s args Ts own) (hK : KK G s) (hw : WD G ws A s H locs) (q0 : Nat) (he : ws[q0]? = some (a, .inr (3, fs))) (hv : fs[5]? = some v) (L : ∀ w ∈ u_ws RX3 TX3 7, w.before args s = true) (link : (Cond.fieldLink own idx "GossipMembership$World" "declaredFalsely" "I").before args s = true) (hdg : decode cc pc = .ok (.getfield idx, 3)) (kk : W p l e R s m args below meth c H locs cells slots Q (F0 m (pc + 3) ls (v :: rest))) : W p l e R s m args below meth c H locs cells slots Q (F0 m pc ls (.ref a :: rest)) :=
  va_get (D := G.1) (cl := gcl) (C := RX3) (T := TX3) (N := 7) S.1 S.2.1 L (fun _ h => h) S.2.2.2.1 hK.1 hw.1 q0 he rfl 5 (by decide) link (fun _ h => h) hv hdg kk
theorem pt_X3_5 {x : Int32} (S : CallFix p m c cc nL s args Ts own) (hK : KK G s) (hw : WD G ws A s H locs) (q0 : Nat) (he : ws[q0]? = some (a, .inr (3, fs))) (L : ∀ w ∈ u_ws RX3 TX3 7, w.before args s = true) (link : (Cond.fieldLink own idx "GossipMembership$World" "declaredFalsely" "I").before args s = true) (hs : ws.set q0 (a, .inr (3, fs.set 5 (.int x))) = ws') (hlen : 5 < fs.length) (hdg : decode cc pc = .ok (.putfield idx, 3)) (kk : ∀ (H1 : Heap) (locs1 : List Loc), WD G ws' A s H1 locs1 → W p l e R s m args below meth c H1 locs1 cells slots Q (F0 m (pc + 3) ls rest)) : W p l e R s m args below meth c H locs cells slots Q (F0 m pc ls (.int x :: .ref a :: rest)) := by
  subst hs
  exact va_put (D := G.1) (cl := gcl) (C := RX3) (T := TX3) (N := 7) S.1 S.2.1 L (fun _ h => h) tyX3 tyX3_ok nmX3 S.2.2.2.1 hK.1 hw.1 hw.2.1 hw.2.2 q0 he rfl 5 (by decide) link (fun _ h => h) rfl (ty := .int) (by decide +kernel) rfl rfl hlen hdg (fun H1 locs1 hP hD hS => kk H1 locs1 ⟨hP, hD, hS⟩)
theorem gt_X3_6 {v : Value} (S : CallFix p m c cc nL s args Ts own) (hK : KK G s) (hw : WD G ws A s H locs) (q0 : Nat) (he : ws[q0]? = some (a, .inr (3, fs))) (hv : fs[6]? = some v) (L : ∀ w ∈ u_ws RX3 TX3 7, w.before args s = true) (link : (Cond.fieldLink own idx "GossipMembership$World" "messagesSent" "I").before args s = true) (hdg : decode cc pc = .ok (.getfield idx, 3)) (kk : W p l e R s m args below meth c H locs cells slots Q (F0 m (pc + 3) ls (v :: rest))) : W p l e R s m args below meth c H locs cells slots Q (F0 m pc ls (.ref a :: rest)) :=
  va_get (D := G.1) (cl := gcl) (C := RX3) (T := TX3) (N := 7) S.1 S.2.1 L (fun _ h => h) S.2.2.2.1 hK.1 hw.1 q0 he rfl 6 (by decide) link (fun _ h => h) hv hdg kk
theorem pt_X3_6 {x : Int32} (S : CallFix p m c cc nL s args Ts own) (hK : KK G s) (hw : WD G ws A s H locs) (q0 : Nat) (he : ws[q0]? = some (a, .inr (3, fs))) (L : ∀ w ∈ u_ws RX3 TX3 7, w.before args s = true) (link : (Cond.fieldLink own idx "GossipMembership$World" "messagesSent" "I").before args s = true) (hs : ws.set q0 (a, .inr (3, fs.set 6 (.int x))) = ws') (hlen : 6 < fs.length) (hdg : decode cc pc = .ok (.putfield idx, 3)) (kk : ∀ (H1 : Heap) (locs1 : List Loc), WD G ws' A s H1 locs1 → W p l e R s m args below meth c H1 locs1 cells slots Q (F0 m (pc + 3) ls rest)) : W p l e R s m args below meth c H locs cells slots Q (F0 m pc ls (.int x :: .ref a :: rest)) := by
  subst hs
  exact va_put (D := G.1) (cl := gcl) (C := RX3) (T := TX3) (N := 7) S.1 S.2.1 L (fun _ h => h) tyX3 tyX3_ok nmX3 S.2.2.2.1 hK.1 hw.1 hw.2.1 hw.2.2 q0 he rfl 6 (by decide) link (fun _ h => h) rfl (ty := .int) (by decide +kernel) rfl rfl hlen hdg (fun H1 locs1 hP hD hS => kk H1 locs1 ⟨hP, hD, hS⟩)
theorem gt_X4_0 {v : Value} (S : CallFix p m c cc nL s args Ts own) (hK : KK G s) (hw : WD G ws A s H locs) (q0 : Nat) (he : ws[q0]? = some (a, .inr (4, fs))) (hv : fs[0]? = some v) (L : ∀ w ∈ u_ws RX4 TX4 6, w.before args s = true) (link : (Cond.fieldLink own idx "GossipMembership" "world" "LGossipMembership$World;").before args s = true) (hdg : decode cc pc = .ok (.getfield idx, 3)) (kk : W p l e R s m args below meth c H locs cells slots Q (F0 m (pc + 3) ls (v :: rest))) : W p l e R s m args below meth c H locs cells slots Q (F0 m pc ls (.ref a :: rest)) :=
  va_get (D := G.1) (cl := gcl) (C := RX4) (T := TX4) (N := 6) S.1 S.2.1 L (fun _ h => h) S.2.2.2.1 hK.1 hw.1 q0 he rfl 0 (by decide) link (fun _ h => h) hv hdg kk
theorem gt_X4_1 {v : Value} (S : CallFix p m c cc nL s args Ts own) (hK : KK G s) (hw : WD G ws A s H locs) (q0 : Nat) (he : ws[q0]? = some (a, .inr (4, fs))) (hv : fs[1]? = some v) (L : ∀ w ∈ u_ws RX4 TX4 6, w.before args s = true) (link : (Cond.fieldLink own idx "GossipMembership" "savedWorld" "LGossipMembership$World;").before args s = true) (hdg : decode cc pc = .ok (.getfield idx, 3)) (kk : W p l e R s m args below meth c H locs cells slots Q (F0 m (pc + 3) ls (v :: rest))) : W p l e R s m args below meth c H locs cells slots Q (F0 m pc ls (.ref a :: rest)) :=
  va_get (D := G.1) (cl := gcl) (C := RX4) (T := TX4) (N := 6) S.1 S.2.1 L (fun _ h => h) S.2.2.2.1 hK.1 hw.1 q0 he rfl 1 (by decide) link (fun _ h => h) hv hdg kk
theorem gt_X4_2 {v : Value} (S : CallFix p m c cc nL s args Ts own) (hK : KK G s) (hw : WD G ws A s H locs) (q0 : Nat) (he : ws[q0]? = some (a, .inr (4, fs))) (hv : fs[2]? = some v) (L : ∀ w ∈ u_ws RX4 TX4 6, w.before args s = true) (link : (Cond.fieldLink own idx "GossipMembership" "somethingSaved" "Z").before args s = true) (hdg : decode cc pc = .ok (.getfield idx, 3)) (kk : W p l e R s m args below meth c H locs cells slots Q (F0 m (pc + 3) ls (v :: rest))) : W p l e R s m args below meth c H locs cells slots Q (F0 m pc ls (.ref a :: rest)) :=
  va_get (D := G.1) (cl := gcl) (C := RX4) (T := TX4) (N := 6) S.1 S.2.1 L (fun _ h => h) S.2.2.2.1 hK.1 hw.1 q0 he rfl 2 (by decide) link (fun _ h => h) hv hdg kk
theorem pt_X4_2 {x : Int32} (S : CallFix p m c cc nL s args Ts own) (hK : KK G s) (hw : WD G ws A s H locs) (q0 : Nat) (he : ws[q0]? = some (a, .inr (4, fs))) (L : ∀ w ∈ u_ws RX4 TX4 6, w.before args s = true) (link : (Cond.fieldLink own idx "GossipMembership" "somethingSaved" "Z").before args s = true) (hn : narrow .boolean (.int x) = .int x) (hfit : fits .boolean (.int x) = true) (hs : ws.set q0 (a, .inr (4, fs.set 2 (.int x))) = ws') (hlen : 2 < fs.length) (hdg : decode cc pc = .ok (.putfield idx, 3)) (kk : ∀ (H1 : Heap) (locs1 : List Loc), WD G ws' A s H1 locs1 → W p l e R s m args below meth c H1 locs1 cells slots Q (F0 m (pc + 3) ls rest)) : W p l e R s m args below meth c H locs cells slots Q (F0 m pc ls (.int x :: .ref a :: rest)) := by
  subst hs
  exact va_put (D := G.1) (cl := gcl) (C := RX4) (T := TX4) (N := 6) S.1 S.2.1 L (fun _ h => h) tyX4 tyX4_ok nmX4 S.2.2.2.1 hK.1 hw.1 hw.2.1 hw.2.2 q0 he rfl 2 (by decide) link (fun _ h => h) rfl (ty := .boolean) (by decide +kernel) hn hfit hlen hdg (fun H1 locs1 hP hD hS => kk H1 locs1 ⟨hP, hD, hS⟩)
theorem gt_X4_3 {v : Value} (S : CallFix p m c cc nL s args Ts own) (hK : KK G s) (hw : WD G ws A s H locs) (q0 : Nat) (he : ws[q0]? = some (a, .inr (4, fs))) (hv : fs[3]? = some v) (L : ∀ w ∈ u_ws RX4 TX4 6, w.before args s = true) (link : (Cond.fieldLink own idx "GossipMembership" "text" "LGossipMembership$CommandText;").before args s = true) (hdg : decode cc pc = .ok (.getfield idx, 3)) (kk : W p l e R s m args below meth c H locs cells slots Q (F0 m (pc + 3) ls (v :: rest))) : W p l e R s m args below meth c H locs cells slots Q (F0 m pc ls (.ref a :: rest)) :=
  va_get (D := G.1) (cl := gcl) (C := RX4) (T := TX4) (N := 6) S.1 S.2.1 L (fun _ h => h) S.2.2.2.1 hK.1 hw.1 q0 he rfl 3 (by decide) link (fun _ h => h) hv hdg kk
theorem gt_X4_4 {v : Value} (S : CallFix p m c cc nL s args Ts own) (hK : KK G s) (hw : WD G ws A s H locs) (q0 : Nat) (he : ws[q0]? = some (a, .inr (4, fs))) (hv : fs[4]? = some v) (L : ∀ w ∈ u_ws RX4 TX4 6, w.before args s = true) (link : (Cond.fieldLink own idx "GossipMembership" "failureKind" "I").before args s = true) (hdg : decode cc pc = .ok (.getfield idx, 3)) (kk : W p l e R s m args below meth c H locs cells slots Q (F0 m (pc + 3) ls (v :: rest))) : W p l e R s m args below meth c H locs cells slots Q (F0 m pc ls (.ref a :: rest)) :=
  va_get (D := G.1) (cl := gcl) (C := RX4) (T := TX4) (N := 6) S.1 S.2.1 L (fun _ h => h) S.2.2.2.1 hK.1 hw.1 q0 he rfl 4 (by decide) link (fun _ h => h) hv hdg kk
theorem pt_X4_4 {x : Int32} (S : CallFix p m c cc nL s args Ts own) (hK : KK G s) (hw : WD G ws A s H locs) (q0 : Nat) (he : ws[q0]? = some (a, .inr (4, fs))) (L : ∀ w ∈ u_ws RX4 TX4 6, w.before args s = true) (link : (Cond.fieldLink own idx "GossipMembership" "failureKind" "I").before args s = true) (hs : ws.set q0 (a, .inr (4, fs.set 4 (.int x))) = ws') (hlen : 4 < fs.length) (hdg : decode cc pc = .ok (.putfield idx, 3)) (kk : ∀ (H1 : Heap) (locs1 : List Loc), WD G ws' A s H1 locs1 → W p l e R s m args below meth c H1 locs1 cells slots Q (F0 m (pc + 3) ls rest)) : W p l e R s m args below meth c H locs cells slots Q (F0 m pc ls (.int x :: .ref a :: rest)) := by
  subst hs
  exact va_put (D := G.1) (cl := gcl) (C := RX4) (T := TX4) (N := 6) S.1 S.2.1 L (fun _ h => h) tyX4 tyX4_ok nmX4 S.2.2.2.1 hK.1 hw.1 hw.2.1 hw.2.2 q0 he rfl 4 (by decide) link (fun _ h => h) rfl (ty := .int) (by decide +kernel) rfl rfl hlen hdg (fun H1 locs1 hP hD hS => kk H1 locs1 ⟨hP, hD, hS⟩)
theorem gt_X4_5 {v : Value} (S : CallFix p m c cc nL s args Ts own) (hK : KK G s) (hw : WD G ws A s H locs) (q0 : Nat) (he : ws[q0]? = some (a, .inr (4, fs))) (hv : fs[5]? = some v) (L : ∀ w ∈ u_ws RX4 TX4 6, w.before args s = true) (link : (Cond.fieldLink own idx "GossipMembership" "failureNumber" "I").before args s = true) (hdg : decode cc pc = .ok (.getfield idx, 3)) (kk : W p l e R s m args below meth c H locs cells slots Q (F0 m (pc + 3) ls (v :: rest))) : W p l e R s m args below meth c H locs cells slots Q (F0 m pc ls (.ref a :: rest)) :=
  va_get (D := G.1) (cl := gcl) (C := RX4) (T := TX4) (N := 6) S.1 S.2.1 L (fun _ h => h) S.2.2.2.1 hK.1 hw.1 q0 he rfl 5 (by decide) link (fun _ h => h) hv hdg kk
theorem pt_X4_5 {x : Int32} (S : CallFix p m c cc nL s args Ts own) (hK : KK G s) (hw : WD G ws A s H locs) (q0 : Nat) (he : ws[q0]? = some (a, .inr (4, fs))) (L : ∀ w ∈ u_ws RX4 TX4 6, w.before args s = true) (link : (Cond.fieldLink own idx "GossipMembership" "failureNumber" "I").before args s = true) (hs : ws.set q0 (a, .inr (4, fs.set 5 (.int x))) = ws') (hlen : 5 < fs.length) (hdg : decode cc pc = .ok (.putfield idx, 3)) (kk : ∀ (H1 : Heap) (locs1 : List Loc), WD G ws' A s H1 locs1 → W p l e R s m args below meth c H1 locs1 cells slots Q (F0 m (pc + 3) ls rest)) : W p l e R s m args below meth c H locs cells slots Q (F0 m pc ls (.int x :: .ref a :: rest)) := by
  subst hs
  exact va_put (D := G.1) (cl := gcl) (C := RX4) (T := TX4) (N := 6) S.1 S.2.1 L (fun _ h => h) tyX4 tyX4_ok nmX4 S.2.2.2.1 hK.1 hw.1 hw.2.1 hw.2.2 q0 he rfl 5 (by decide) link (fun _ h => h) rfl (ty := .int) (by decide +kernel) rfl rfl hlen hdg (fun H1 locs1 hP hD hS => kk H1 locs1 ⟨hP, hD, hS⟩)
theorem gt_X5_0 {v : Value} (S : CallFix p m c cc nL s args Ts own) (hK : KK G s) (hw : WD G ws A s H locs) (q0 : Nat) (he : ws[q0]? = some (a, .inr (5, fs))) (hv : fs[0]? = some v) (L : ∀ w ∈ u_ws RX5 TX5 12, w.before args s = true) (link : (Cond.fieldLink own idx "GossipMembershipModel" "thrown" "I").before args s = true) (hdg : decode cc pc = .ok (.getfield idx, 3)) (kk : W p l e R s m args below meth c H locs cells slots Q (F0 m (pc + 3) ls (v :: rest))) : W p l e R s m args below meth c H locs cells slots Q (F0 m pc ls (.ref a :: rest)) :=
  va_get (D := G.1) (cl := gcl) (C := RX5) (T := TX5) (N := 12) S.1 S.2.1 L (fun _ h => h) S.2.2.2.1 hK.1 hw.1 q0 he rfl 0 (by decide) link (fun _ h => h) hv hdg kk
theorem pt_X5_0 {x : Int32} (S : CallFix p m c cc nL s args Ts own) (hK : KK G s) (hw : WD G ws A s H locs) (q0 : Nat) (he : ws[q0]? = some (a, .inr (5, fs))) (L : ∀ w ∈ u_ws RX5 TX5 12, w.before args s = true) (link : (Cond.fieldLink own idx "GossipMembershipModel" "thrown" "I").before args s = true) (hs : ws.set q0 (a, .inr (5, fs.set 0 (.int x))) = ws') (hlen : 0 < fs.length) (hdg : decode cc pc = .ok (.putfield idx, 3)) (kk : ∀ (H1 : Heap) (locs1 : List Loc), WD G ws' A s H1 locs1 → W p l e R s m args below meth c H1 locs1 cells slots Q (F0 m (pc + 3) ls rest)) : W p l e R s m args below meth c H locs cells slots Q (F0 m pc ls (.int x :: .ref a :: rest)) := by
  subst hs
  exact va_put (D := G.1) (cl := gcl) (C := RX5) (T := TX5) (N := 12) S.1 S.2.1 L (fun _ h => h) tyX5 tyX5_ok nmX5 S.2.2.2.1 hK.1 hw.1 hw.2.1 hw.2.2 q0 he rfl 0 (by decide) link (fun _ h => h) rfl (ty := .int) (by decide +kernel) rfl rfl hlen hdg (fun H1 locs1 hP hD hS => kk H1 locs1 ⟨hP, hD, hS⟩)
theorem gt_X5_1 {v : Value} (S : CallFix p m c cc nL s args Ts own) (hK : KK G s) (hw : WD G ws A s H locs) (q0 : Nat) (he : ws[q0]? = some (a, .inr (5, fs))) (hv : fs[1]? = some v) (L : ∀ w ∈ u_ws RX5 TX5 12, w.before args s = true) (link : (Cond.fieldLink own idx "GossipMembershipModel" "s" "[I").before args s = true) (hdg : decode cc pc = .ok (.getfield idx, 3)) (kk : W p l e R s m args below meth c H locs cells slots Q (F0 m (pc + 3) ls (v :: rest))) : W p l e R s m args below meth c H locs cells slots Q (F0 m pc ls (.ref a :: rest)) :=
  va_get (D := G.1) (cl := gcl) (C := RX5) (T := TX5) (N := 12) S.1 S.2.1 L (fun _ h => h) S.2.2.2.1 hK.1 hw.1 q0 he rfl 1 (by decide) link (fun _ h => h) hv hdg kk
theorem gt_X5_2 {v : Value} (S : CallFix p m c cc nL s args Ts own) (hK : KK G s) (hw : WD G ws A s H locs) (q0 : Nat) (he : ws[q0]? = some (a, .inr (5, fs))) (hv : fs[2]? = some v) (L : ∀ w ∈ u_ws RX5 TX5 12, w.before args s = true) (link : (Cond.fieldLink own idx "GossipMembershipModel" "saved" "[I").before args s = true) (hdg : decode cc pc = .ok (.getfield idx, 3)) (kk : W p l e R s m args below meth c H locs cells slots Q (F0 m (pc + 3) ls (v :: rest))) : W p l e R s m args below meth c H locs cells slots Q (F0 m pc ls (.ref a :: rest)) :=
  va_get (D := G.1) (cl := gcl) (C := RX5) (T := TX5) (N := 12) S.1 S.2.1 L (fun _ h => h) S.2.2.2.1 hK.1 hw.1 q0 he rfl 2 (by decide) link (fun _ h => h) hv hdg kk
theorem gt_X5_3 {v : Value} (S : CallFix p m c cc nL s args Ts own) (hK : KK G s) (hw : WD G ws A s H locs) (q0 : Nat) (he : ws[q0]? = some (a, .inr (5, fs))) (hv : fs[3]? = some v) (L : ∀ w ∈ u_ws RX5 TX5 12, w.before args s = true) (link : (Cond.fieldLink own idx "GossipMembershipModel" "hasSaved" "Z").before args s = true) (hdg : decode cc pc = .ok (.getfield idx, 3)) (kk : W p l e R s m args below meth c H locs cells slots Q (F0 m (pc + 3) ls (v :: rest))) : W p l e R s m args below meth c H locs cells slots Q (F0 m pc ls (.ref a :: rest)) :=
  va_get (D := G.1) (cl := gcl) (C := RX5) (T := TX5) (N := 12) S.1 S.2.1 L (fun _ h => h) S.2.2.2.1 hK.1 hw.1 q0 he rfl 3 (by decide) link (fun _ h => h) hv hdg kk
theorem pt_X5_3 {x : Int32} (S : CallFix p m c cc nL s args Ts own) (hK : KK G s) (hw : WD G ws A s H locs) (q0 : Nat) (he : ws[q0]? = some (a, .inr (5, fs))) (L : ∀ w ∈ u_ws RX5 TX5 12, w.before args s = true) (link : (Cond.fieldLink own idx "GossipMembershipModel" "hasSaved" "Z").before args s = true) (hn : narrow .boolean (.int x) = .int x) (hfit : fits .boolean (.int x) = true) (hs : ws.set q0 (a, .inr (5, fs.set 3 (.int x))) = ws') (hlen : 3 < fs.length) (hdg : decode cc pc = .ok (.putfield idx, 3)) (kk : ∀ (H1 : Heap) (locs1 : List Loc), WD G ws' A s H1 locs1 → W p l e R s m args below meth c H1 locs1 cells slots Q (F0 m (pc + 3) ls rest)) : W p l e R s m args below meth c H locs cells slots Q (F0 m pc ls (.int x :: .ref a :: rest)) := by
  subst hs
  exact va_put (D := G.1) (cl := gcl) (C := RX5) (T := TX5) (N := 12) S.1 S.2.1 L (fun _ h => h) tyX5 tyX5_ok nmX5 S.2.2.2.1 hK.1 hw.1 hw.2.1 hw.2.2 q0 he rfl 3 (by decide) link (fun _ h => h) rfl (ty := .boolean) (by decide +kernel) hn hfit hlen hdg (fun H1 locs1 hP hD hS => kk H1 locs1 ⟨hP, hD, hS⟩)
theorem gt_X5_4 {v : Value} (S : CallFix p m c cc nL s args Ts own) (hK : KK G s) (hw : WD G ws A s H locs) (q0 : Nat) (he : ws[q0]? = some (a, .inr (5, fs))) (hv : fs[4]? = some v) (L : ∀ w ∈ u_ws RX5 TX5 12, w.before args s = true) (link : (Cond.fieldLink own idx "GossipMembershipModel" "text" "[I").before args s = true) (hdg : decode cc pc = .ok (.getfield idx, 3)) (kk : W p l e R s m args below meth c H locs cells slots Q (F0 m (pc + 3) ls (v :: rest))) : W p l e R s m args below meth c H locs cells slots Q (F0 m pc ls (.ref a :: rest)) :=
  va_get (D := G.1) (cl := gcl) (C := RX5) (T := TX5) (N := 12) S.1 S.2.1 L (fun _ h => h) S.2.2.2.1 hK.1 hw.1 q0 he rfl 4 (by decide) link (fun _ h => h) hv hdg kk
theorem gt_X5_5 {v : Value} (S : CallFix p m c cc nL s args Ts own) (hK : KK G s) (hw : WD G ws A s H locs) (q0 : Nat) (he : ws[q0]? = some (a, .inr (5, fs))) (hv : fs[5]? = some v) (L : ∀ w ∈ u_ws RX5 TX5 12, w.before args s = true) (link : (Cond.fieldLink own idx "GossipMembershipModel" "length" "I").before args s = true) (hdg : decode cc pc = .ok (.getfield idx, 3)) (kk : W p l e R s m args below meth c H locs cells slots Q (F0 m (pc + 3) ls (v :: rest))) : W p l e R s m args below meth c H locs cells slots Q (F0 m pc ls (.ref a :: rest)) :=
  va_get (D := G.1) (cl := gcl) (C := RX5) (T := TX5) (N := 12) S.1 S.2.1 L (fun _ h => h) S.2.2.2.1 hK.1 hw.1 q0 he rfl 5 (by decide) link (fun _ h => h) hv hdg kk
theorem pt_X5_5 {x : Int32} (S : CallFix p m c cc nL s args Ts own) (hK : KK G s) (hw : WD G ws A s H locs) (q0 : Nat) (he : ws[q0]? = some (a, .inr (5, fs))) (L : ∀ w ∈ u_ws RX5 TX5 12, w.before args s = true) (link : (Cond.fieldLink own idx "GossipMembershipModel" "length" "I").before args s = true) (hs : ws.set q0 (a, .inr (5, fs.set 5 (.int x))) = ws') (hlen : 5 < fs.length) (hdg : decode cc pc = .ok (.putfield idx, 3)) (kk : ∀ (H1 : Heap) (locs1 : List Loc), WD G ws' A s H1 locs1 → W p l e R s m args below meth c H1 locs1 cells slots Q (F0 m (pc + 3) ls rest)) : W p l e R s m args below meth c H locs cells slots Q (F0 m pc ls (.int x :: .ref a :: rest)) := by
  subst hs
  exact va_put (D := G.1) (cl := gcl) (C := RX5) (T := TX5) (N := 12) S.1 S.2.1 L (fun _ h => h) tyX5 tyX5_ok nmX5 S.2.2.2.1 hK.1 hw.1 hw.2.1 hw.2.2 q0 he rfl 5 (by decide) link (fun _ h => h) rfl (ty := .int) (by decide +kernel) rfl rfl hlen hdg (fun H1 locs1 hP hD hS => kk H1 locs1 ⟨hP, hD, hS⟩)
theorem gt_X5_6 {v : Value} (S : CallFix p m c cc nL s args Ts own) (hK : KK G s) (hw : WD G ws A s H locs) (q0 : Nat) (he : ws[q0]? = some (a, .inr (5, fs))) (hv : fs[6]? = some v) (L : ∀ w ∈ u_ws RX5 TX5 12, w.before args s = true) (link : (Cond.fieldLink own idx "GossipMembershipModel" "failureKind" "I").before args s = true) (hdg : decode cc pc = .ok (.getfield idx, 3)) (kk : W p l e R s m args below meth c H locs cells slots Q (F0 m (pc + 3) ls (v :: rest))) : W p l e R s m args below meth c H locs cells slots Q (F0 m pc ls (.ref a :: rest)) :=
  va_get (D := G.1) (cl := gcl) (C := RX5) (T := TX5) (N := 12) S.1 S.2.1 L (fun _ h => h) S.2.2.2.1 hK.1 hw.1 q0 he rfl 6 (by decide) link (fun _ h => h) hv hdg kk
theorem pt_X5_6 {x : Int32} (S : CallFix p m c cc nL s args Ts own) (hK : KK G s) (hw : WD G ws A s H locs) (q0 : Nat) (he : ws[q0]? = some (a, .inr (5, fs))) (L : ∀ w ∈ u_ws RX5 TX5 12, w.before args s = true) (link : (Cond.fieldLink own idx "GossipMembershipModel" "failureKind" "I").before args s = true) (hs : ws.set q0 (a, .inr (5, fs.set 6 (.int x))) = ws') (hlen : 6 < fs.length) (hdg : decode cc pc = .ok (.putfield idx, 3)) (kk : ∀ (H1 : Heap) (locs1 : List Loc), WD G ws' A s H1 locs1 → W p l e R s m args below meth c H1 locs1 cells slots Q (F0 m (pc + 3) ls rest)) : W p l e R s m args below meth c H locs cells slots Q (F0 m pc ls (.int x :: .ref a :: rest)) := by
  subst hs
  exact va_put (D := G.1) (cl := gcl) (C := RX5) (T := TX5) (N := 12) S.1 S.2.1 L (fun _ h => h) tyX5 tyX5_ok nmX5 S.2.2.2.1 hK.1 hw.1 hw.2.1 hw.2.2 q0 he rfl 6 (by decide) link (fun _ h => h) rfl (ty := .int) (by decide +kernel) rfl rfl hlen hdg (fun H1 locs1 hP hD hS => kk H1 locs1 ⟨hP, hD, hS⟩)
theorem gt_X5_7 {v : Value} (S : CallFix p m c cc nL s args Ts own) (hK : KK G s) (hw : WD G ws A s H locs) (q0 : Nat) (he : ws[q0]? = some (a, .inr (5, fs))) (hv : fs[7]? = some v) (L : ∀ w ∈ u_ws RX5 TX5 12, w.before args s = true) (link : (Cond.fieldLink own idx "GossipMembershipModel" "failureAt" "I").before args s = true) (hdg : decode cc pc = .ok (.getfield idx, 3)) (kk : W p l e R s m args below meth c H locs cells slots Q (F0 m (pc + 3) ls (v :: rest))) : W p l e R s m args below meth c H locs cells slots Q (F0 m pc ls (.ref a :: rest)) :=
  va_get (D := G.1) (cl := gcl) (C := RX5) (T := TX5) (N := 12) S.1 S.2.1 L (fun _ h => h) S.2.2.2.1 hK.1 hw.1 q0 he rfl 7 (by decide) link (fun _ h => h) hv hdg kk
theorem pt_X5_7 {x : Int32} (S : CallFix p m c cc nL s args Ts own) (hK : KK G s) (hw : WD G ws A s H locs) (q0 : Nat) (he : ws[q0]? = some (a, .inr (5, fs))) (L : ∀ w ∈ u_ws RX5 TX5 12, w.before args s = true) (link : (Cond.fieldLink own idx "GossipMembershipModel" "failureAt" "I").before args s = true) (hs : ws.set q0 (a, .inr (5, fs.set 7 (.int x))) = ws') (hlen : 7 < fs.length) (hdg : decode cc pc = .ok (.putfield idx, 3)) (kk : ∀ (H1 : Heap) (locs1 : List Loc), WD G ws' A s H1 locs1 → W p l e R s m args below meth c H1 locs1 cells slots Q (F0 m (pc + 3) ls rest)) : W p l e R s m args below meth c H locs cells slots Q (F0 m pc ls (.int x :: .ref a :: rest)) := by
  subst hs
  exact va_put (D := G.1) (cl := gcl) (C := RX5) (T := TX5) (N := 12) S.1 S.2.1 L (fun _ h => h) tyX5 tyX5_ok nmX5 S.2.2.2.1 hK.1 hw.1 hw.2.1 hw.2.2 q0 he rfl 7 (by decide) link (fun _ h => h) rfl (ty := .int) (by decide +kernel) rfl rfl hlen hdg (fun H1 locs1 hP hD hS => kk H1 locs1 ⟨hP, hD, hS⟩)
theorem gt_X5_8 {v : Value} (S : CallFix p m c cc nL s args Ts own) (hK : KK G s) (hw : WD G ws A s H locs) (q0 : Nat) (he : ws[q0]? = some (a, .inr (5, fs))) (hv : fs[8]? = some v) (L : ∀ w ∈ u_ws RX5 TX5 12, w.before args s = true) (link : (Cond.fieldLink own idx "GossipMembershipModel" "sent" "[I").before args s = true) (hdg : decode cc pc = .ok (.getfield idx, 3)) (kk : W p l e R s m args below meth c H locs cells slots Q (F0 m (pc + 3) ls (v :: rest))) : W p l e R s m args below meth c H locs cells slots Q (F0 m pc ls (.ref a :: rest)) :=
  va_get (D := G.1) (cl := gcl) (C := RX5) (T := TX5) (N := 12) S.1 S.2.1 L (fun _ h => h) S.2.2.2.1 hK.1 hw.1 q0 he rfl 8 (by decide) link (fun _ h => h) hv hdg kk
theorem gt_X5_9 {v : Value} (S : CallFix p m c cc nL s args Ts own) (hK : KK G s) (hw : WD G ws A s H locs) (q0 : Nat) (he : ws[q0]? = some (a, .inr (5, fs))) (hv : fs[9]? = some v) (L : ∀ w ∈ u_ws RX5 TX5 12, w.before args s = true) (link : (Cond.fieldLink own idx "GossipMembershipModel" "sentMany" "I").before args s = true) (hdg : decode cc pc = .ok (.getfield idx, 3)) (kk : W p l e R s m args below meth c H locs cells slots Q (F0 m (pc + 3) ls (v :: rest))) : W p l e R s m args below meth c H locs cells slots Q (F0 m pc ls (.ref a :: rest)) :=
  va_get (D := G.1) (cl := gcl) (C := RX5) (T := TX5) (N := 12) S.1 S.2.1 L (fun _ h => h) S.2.2.2.1 hK.1 hw.1 q0 he rfl 9 (by decide) link (fun _ h => h) hv hdg kk
theorem pt_X5_9 {x : Int32} (S : CallFix p m c cc nL s args Ts own) (hK : KK G s) (hw : WD G ws A s H locs) (q0 : Nat) (he : ws[q0]? = some (a, .inr (5, fs))) (L : ∀ w ∈ u_ws RX5 TX5 12, w.before args s = true) (link : (Cond.fieldLink own idx "GossipMembershipModel" "sentMany" "I").before args s = true) (hs : ws.set q0 (a, .inr (5, fs.set 9 (.int x))) = ws') (hlen : 9 < fs.length) (hdg : decode cc pc = .ok (.putfield idx, 3)) (kk : ∀ (H1 : Heap) (locs1 : List Loc), WD G ws' A s H1 locs1 → W p l e R s m args below meth c H1 locs1 cells slots Q (F0 m (pc + 3) ls rest)) : W p l e R s m args below meth c H locs cells slots Q (F0 m pc ls (.int x :: .ref a :: rest)) := by
  subst hs
  exact va_put (D := G.1) (cl := gcl) (C := RX5) (T := TX5) (N := 12) S.1 S.2.1 L (fun _ h => h) tyX5 tyX5_ok nmX5 S.2.2.2.1 hK.1 hw.1 hw.2.1 hw.2.2 q0 he rfl 9 (by decide) link (fun _ h => h) rfl (ty := .int) (by decide +kernel) rfl rfl hlen hdg (fun H1 locs1 hP hD hS => kk H1 locs1 ⟨hP, hD, hS⟩)
theorem gt_X5_10 {v : Value} (S : CallFix p m c cc nL s args Ts own) (hK : KK G s) (hw : WD G ws A s H locs) (q0 : Nat) (he : ws[q0]? = some (a, .inr (5, fs))) (hv : fs[10]? = some v) (L : ∀ w ∈ u_ws RX5 TX5 12, w.before args s = true) (link : (Cond.fieldLink own idx "GossipMembershipModel" "spot" "I").before args s = true) (hdg : decode cc pc = .ok (.getfield idx, 3)) (kk : W p l e R s m args below meth c H locs cells slots Q (F0 m (pc + 3) ls (v :: rest))) : W p l e R s m args below meth c H locs cells slots Q (F0 m pc ls (.ref a :: rest)) :=
  va_get (D := G.1) (cl := gcl) (C := RX5) (T := TX5) (N := 12) S.1 S.2.1 L (fun _ h => h) S.2.2.2.1 hK.1 hw.1 q0 he rfl 10 (by decide) link (fun _ h => h) hv hdg kk
theorem pt_X5_10 {x : Int32} (S : CallFix p m c cc nL s args Ts own) (hK : KK G s) (hw : WD G ws A s H locs) (q0 : Nat) (he : ws[q0]? = some (a, .inr (5, fs))) (L : ∀ w ∈ u_ws RX5 TX5 12, w.before args s = true) (link : (Cond.fieldLink own idx "GossipMembershipModel" "spot" "I").before args s = true) (hs : ws.set q0 (a, .inr (5, fs.set 10 (.int x))) = ws') (hlen : 10 < fs.length) (hdg : decode cc pc = .ok (.putfield idx, 3)) (kk : ∀ (H1 : Heap) (locs1 : List Loc), WD G ws' A s H1 locs1 → W p l e R s m args below meth c H1 locs1 cells slots Q (F0 m (pc + 3) ls rest)) : W p l e R s m args below meth c H locs cells slots Q (F0 m pc ls (.int x :: .ref a :: rest)) := by
  subst hs
  exact va_put (D := G.1) (cl := gcl) (C := RX5) (T := TX5) (N := 12) S.1 S.2.1 L (fun _ h => h) tyX5 tyX5_ok nmX5 S.2.2.2.1 hK.1 hw.1 hw.2.1 hw.2.2 q0 he rfl 10 (by decide) link (fun _ h => h) rfl (ty := .int) (by decide +kernel) rfl rfl hlen hdg (fun H1 locs1 hP hD hS => kk H1 locs1 ⟨hP, hD, hS⟩)
theorem gt_X5_11 {v : Value} (S : CallFix p m c cc nL s args Ts own) (hK : KK G s) (hw : WD G ws A s H locs) (q0 : Nat) (he : ws[q0]? = some (a, .inr (5, fs))) (hv : fs[11]? = some v) (L : ∀ w ∈ u_ws RX5 TX5 12, w.before args s = true) (link : (Cond.fieldLink own idx "GossipMembershipModel" "isRead" "Z").before args s = true) (hdg : decode cc pc = .ok (.getfield idx, 3)) (kk : W p l e R s m args below meth c H locs cells slots Q (F0 m (pc + 3) ls (v :: rest))) : W p l e R s m args below meth c H locs cells slots Q (F0 m pc ls (.ref a :: rest)) :=
  va_get (D := G.1) (cl := gcl) (C := RX5) (T := TX5) (N := 12) S.1 S.2.1 L (fun _ h => h) S.2.2.2.1 hK.1 hw.1 q0 he rfl 11 (by decide) link (fun _ h => h) hv hdg kk
theorem pt_X5_11 {x : Int32} (S : CallFix p m c cc nL s args Ts own) (hK : KK G s) (hw : WD G ws A s H locs) (q0 : Nat) (he : ws[q0]? = some (a, .inr (5, fs))) (L : ∀ w ∈ u_ws RX5 TX5 12, w.before args s = true) (link : (Cond.fieldLink own idx "GossipMembershipModel" "isRead" "Z").before args s = true) (hn : narrow .boolean (.int x) = .int x) (hfit : fits .boolean (.int x) = true) (hs : ws.set q0 (a, .inr (5, fs.set 11 (.int x))) = ws') (hlen : 11 < fs.length) (hdg : decode cc pc = .ok (.putfield idx, 3)) (kk : ∀ (H1 : Heap) (locs1 : List Loc), WD G ws' A s H1 locs1 → W p l e R s m args below meth c H1 locs1 cells slots Q (F0 m (pc + 3) ls rest)) : W p l e R s m args below meth c H locs cells slots Q (F0 m pc ls (.int x :: .ref a :: rest)) := by
  subst hs
  exact va_put (D := G.1) (cl := gcl) (C := RX5) (T := TX5) (N := 12) S.1 S.2.1 L (fun _ h => h) tyX5 tyX5_ok nmX5 S.2.2.2.1 hK.1 hw.1 hw.2.1 hw.2.2 q0 he rfl 11 (by decide) link (fun _ h => h) rfl (ty := .boolean) (by decide +kernel) hn hfit hlen hdg (fun H1 locs1 hP hD hS => kk H1 locs1 ⟨hP, hD, hS⟩)
end GF
end
