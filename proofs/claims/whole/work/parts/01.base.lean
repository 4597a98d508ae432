-- ===== PART A: goes FIRST, ahead of the names: the tables' words, and 'selects' of the private methods out of them =====
/-- a private method of a class that the tables say can be made, by its rows of tables_1 -/
def lw_okq (q : MethodName × Nat) : Prop := (q.1.cls ≠ "java/lang/invoke/MethodHandle" ∧ q.1.cls ≠ "java/lang/invoke/VarHandle") ∧ Cond.instantiable q.1.cls q.2 ∈ tables_1 ∧ Cond.privateMethod q.1 ∈ tables_1 ∧ Cond.instanceMethod q.1 ∈ tables_1
theorem lw_p0 : lw_okq (⟨"UmbrellaDoors$Town", "readClause", "()Z"⟩, 14) := ⟨⟨by decide +kernel, by decide +kernel⟩, List.mem_of_getElem? (i := 87) (by decide +kernel), List.mem_of_getElem? (i := 267) (by decide +kernel), List.mem_of_getElem? (i := 268) (by decide +kernel)⟩
theorem lw_p1 : lw_okq (⟨"UmbrellaDoors$Town", "readWord", "()I"⟩, 14) := ⟨⟨by decide +kernel, by decide +kernel⟩, List.mem_of_getElem? (i := 87) (by decide +kernel), List.mem_of_getElem? (i := 271) (by decide +kernel), List.mem_of_getElem? (i := 272) (by decide +kernel)⟩
theorem lw_p2 : lw_okq (⟨"UmbrellaDoors$Town", "alikeWith", "(Ljava/lang/String;)I"⟩, 14) := ⟨⟨by decide +kernel, by decide +kernel⟩, List.mem_of_getElem? (i := 87) (by decide +kernel), List.mem_of_getElem? (i := 283) (by decide +kernel), List.mem_of_getElem? (i := 284) (by decide +kernel)⟩
theorem lw_p3 : lw_okq (⟨"UmbrellaDoors$Town", "byteAt", "(I)I"⟩, 14) := ⟨⟨by decide +kernel, by decide +kernel⟩, List.mem_of_getElem? (i := 87) (by decide +kernel), List.mem_of_getElem? (i := 297) (by decide +kernel), List.mem_of_getElem? (i := 298) (by decide +kernel)⟩
theorem lw_p4 : lw_okq (⟨"UmbrellaDoors$Town", "skip", "(C)Z"⟩, 14) := ⟨⟨by decide +kernel, by decide +kernel⟩, List.mem_of_getElem? (i := 87) (by decide +kernel), List.mem_of_getElem? (i := 342) (by decide +kernel), List.mem_of_getElem? (i := 343) (by decide +kernel)⟩
theorem lw_p5 : lw_okq (⟨"UmbrellaDoors$Town", "readNumber", "()I"⟩, 14) := ⟨⟨by decide +kernel, by decide +kernel⟩, List.mem_of_getElem? (i := 87) (by decide +kernel), List.mem_of_getElem? (i := 346) (by decide +kernel), List.mem_of_getElem? (i := 347) (by decide +kernel)⟩
theorem lw_p6 : lw_okq (⟨"UmbrellaDoors$Town", "readEither", "(I)Z"⟩, 14) := ⟨⟨by decide +kernel, by decide +kernel⟩, List.mem_of_getElem? (i := 87) (by decide +kernel), List.mem_of_getElem? (i := 350) (by decide +kernel), List.mem_of_getElem? (i := 351) (by decide +kernel)⟩
theorem lw_p7 : lw_okq (⟨"UmbrellaDoors$Town", "readBoth", "(I)Z"⟩, 14) := ⟨⟨by decide +kernel, by decide +kernel⟩, List.mem_of_getElem? (i := 87) (by decide +kernel), List.mem_of_getElem? (i := 354) (by decide +kernel), List.mem_of_getElem? (i := 355) (by decide +kernel)⟩
theorem lw_p8 : lw_okq (⟨"UmbrellaDoors$Town", "readSingle", "(I)Z"⟩, 14) := ⟨⟨by decide +kernel, by decide +kernel⟩, List.mem_of_getElem? (i := 87) (by decide +kernel), List.mem_of_getElem? (i := 358) (by decide +kernel), List.mem_of_getElem? (i := 359) (by decide +kernel)⟩
theorem lw_p9 : lw_okq (⟨"UmbrellaDoors$Town", "put", "(I)Z"⟩, 14) := ⟨⟨by decide +kernel, by decide +kernel⟩, List.mem_of_getElem? (i := 87) (by decide +kernel), List.mem_of_getElem? (i := 362) (by decide +kernel), List.mem_of_getElem? (i := 363) (by decide +kernel)⟩
theorem lw_p10 : lw_okq (⟨"UmbrellaDoors$Town", "readTest", "()Z"⟩, 14) := ⟨⟨by decide +kernel, by decide +kernel⟩, List.mem_of_getElem? (i := 87) (by decide +kernel), List.mem_of_getElem? (i := 366) (by decide +kernel), List.mem_of_getElem? (i := 367) (by decide +kernel)⟩
theorem lw_p11 : lw_okq (⟨"UmbrellaDoors$Town", "keepClause", "(III)V"⟩, 14) := ⟨⟨by decide +kernel, by decide +kernel⟩, List.mem_of_getElem? (i := 87) (by decide +kernel), List.mem_of_getElem? (i := 429) (by decide +kernel), List.mem_of_getElem? (i := 430) (by decide +kernel)⟩
theorem lw_p12 : lw_okq (⟨"UmbrellaDoors$Town", "addRain", "(II)V"⟩, 14) := ⟨⟨by decide +kernel, by decide +kernel⟩, List.mem_of_getElem? (i := 87) (by decide +kernel), List.mem_of_getElem? (i := 433) (by decide +kernel), List.mem_of_getElem? (i := 434) (by decide +kernel)⟩
theorem lw_p13 : lw_okq (⟨"UmbrellaDoors$Town", "layFacts", "(IIIII)V"⟩, 14) := ⟨⟨by decide +kernel, by decide +kernel⟩, List.mem_of_getElem? (i := 87) (by decide +kernel), List.mem_of_getElem? (i := 437) (by decide +kernel), List.mem_of_getElem? (i := 438) (by decide +kernel)⟩
theorem lw_p14 : lw_okq (⟨"UmbrellaDoors$Town", "holds", "(II)Z"⟩, 14) := ⟨⟨by decide +kernel, by decide +kernel⟩, List.mem_of_getElem? (i := 87) (by decide +kernel), List.mem_of_getElem? (i := 441) (by decide +kernel), List.mem_of_getElem? (i := 442) (by decide +kernel)⟩
theorem lw_p15 : lw_okq (⟨"UmbrellaDoors$Town", "testHolds", "(I)Z"⟩, 14) := ⟨⟨by decide +kernel, by decide +kernel⟩, List.mem_of_getElem? (i := 87) (by decide +kernel), List.mem_of_getElem? (i := 445) (by decide +kernel), List.mem_of_getElem? (i := 446) (by decide +kernel)⟩
def lw_privs_1 : List (MethodName × Nat) := [(⟨"UmbrellaDoors$Town", "readClause", "()Z"⟩, 14), (⟨"UmbrellaDoors$Town", "readWord", "()I"⟩, 14), (⟨"UmbrellaDoors$Town", "alikeWith", "(Ljava/lang/String;)I"⟩, 14), (⟨"UmbrellaDoors$Town", "byteAt", "(I)I"⟩, 14), (⟨"UmbrellaDoors$Town", "skip", "(C)Z"⟩, 14), (⟨"UmbrellaDoors$Town", "readNumber", "()I"⟩, 14), (⟨"UmbrellaDoors$Town", "readEither", "(I)Z"⟩, 14), (⟨"UmbrellaDoors$Town", "readBoth", "(I)Z"⟩, 14), (⟨"UmbrellaDoors$Town", "readSingle", "(I)Z"⟩, 14), (⟨"UmbrellaDoors$Town", "put", "(I)Z"⟩, 14), (⟨"UmbrellaDoors$Town", "readTest", "()Z"⟩, 14), (⟨"UmbrellaDoors$Town", "keepClause", "(III)V"⟩, 14), (⟨"UmbrellaDoors$Town", "addRain", "(II)V"⟩, 14), (⟨"UmbrellaDoors$Town", "layFacts", "(IIIII)V"⟩, 14), (⟨"UmbrellaDoors$Town", "holds", "(II)Z"⟩, 14), (⟨"UmbrellaDoors$Town", "testHolds", "(I)Z"⟩, 14)]
theorem lw_r1 : ∀ q ∈ lw_privs_1, lw_okq q := List.forall_mem_cons.mpr ⟨lw_p0, List.forall_mem_cons.mpr ⟨lw_p1, List.forall_mem_cons.mpr ⟨lw_p2, List.forall_mem_cons.mpr ⟨lw_p3, List.forall_mem_cons.mpr ⟨lw_p4, List.forall_mem_cons.mpr ⟨lw_p5, List.forall_mem_cons.mpr ⟨lw_p6, List.forall_mem_cons.mpr ⟨lw_p7, List.forall_mem_cons.mpr ⟨lw_p8, List.forall_mem_cons.mpr ⟨lw_p9, List.forall_mem_cons.mpr ⟨lw_p10, List.forall_mem_cons.mpr ⟨lw_p11, List.forall_mem_cons.mpr ⟨lw_p12, List.forall_mem_cons.mpr ⟨lw_p13, List.forall_mem_cons.mpr ⟨lw_p14, List.forall_mem_cons.mpr ⟨lw_p15, fun _ h => absurd h List.not_mem_nil⟩⟩⟩⟩⟩⟩⟩⟩⟩⟩⟩⟩⟩⟩⟩⟩
theorem lw_p16 : lw_okq (⟨"UmbrellaDoors$Town", "addLost", "(II)V"⟩, 14) := ⟨⟨by decide +kernel, by decide +kernel⟩, List.mem_of_getElem? (i := 87) (by decide +kernel), List.mem_of_getElem? (i := 450) (by decide +kernel), List.mem_of_getElem? (i := 451) (by decide +kernel)⟩
theorem lw_p17 : lw_okq (⟨"UmbrellaDoors", "personAt", "(I)LUmbrellaDoors$Walker;"⟩, 9) := ⟨⟨by decide +kernel, by decide +kernel⟩, List.mem_of_getElem? (i := 23) (by decide +kernel), List.mem_of_getElem? (i := 586) (by decide +kernel), List.mem_of_getElem? (i := 587) (by decide +kernel)⟩
theorem lw_p18 : lw_okq (⟨"UmbrellaDoors$World", "walk", "(LUmbrellaDoors$Walker;LUmbrellaDoors$Town;)V"⟩, 9) := ⟨⟨by decide +kernel, by decide +kernel⟩, List.mem_of_getElem? (i := 37) (by decide +kernel), List.mem_of_getElem? (i := 641) (by decide +kernel), List.mem_of_getElem? (i := 642) (by decide +kernel)⟩
theorem lw_p19 : lw_okq (⟨"UmbrellaDoors$World", "putDown", "()V"⟩, 9) := ⟨⟨by decide +kernel, by decide +kernel⟩, List.mem_of_getElem? (i := 37) (by decide +kernel), List.mem_of_getElem? (i := 663) (by decide +kernel), List.mem_of_getElem? (i := 664) (by decide +kernel)⟩
theorem lw_p20 : lw_okq (⟨"UmbrellaDoors", "beginThought", "()LUmbrellaDoors$World;"⟩, 9) := ⟨⟨by decide +kernel, by decide +kernel⟩, List.mem_of_getElem? (i := 23) (by decide +kernel), List.mem_of_getElem? (i := 676) (by decide +kernel), List.mem_of_getElem? (i := 677) (by decide +kernel)⟩
theorem lw_p21 : lw_okq (⟨"UmbrellaDoors", "weigh", "(IIJ)V"⟩, 9) := ⟨⟨by decide +kernel, by decide +kernel⟩, List.mem_of_getElem? (i := 23) (by decide +kernel), List.mem_of_getElem? (i := 689) (by decide +kernel), List.mem_of_getElem? (i := 690) (by decide +kernel)⟩
theorem lw_p22 : lw_okq (⟨"UmbrellaDoors", "addWeighed", "(LUmbrellaDoors$World;J)V"⟩, 9) := ⟨⟨by decide +kernel, by decide +kernel⟩, List.mem_of_getElem? (i := 23) (by decide +kernel), List.mem_of_getElem? (i := 693) (by decide +kernel), List.mem_of_getElem? (i := 694) (by decide +kernel)⟩
theorem lw_p23 : lw_okq (⟨"UmbrellaDoors", "bestStart", "(II)I"⟩, 9) := ⟨⟨by decide +kernel, by decide +kernel⟩, List.mem_of_getElem? (i := 23) (by decide +kernel), List.mem_of_getElem? (i := 730) (by decide +kernel), List.mem_of_getElem? (i := 731) (by decide +kernel)⟩
theorem lw_p24 : lw_okq (⟨"UmbrellaDoors", "seekCarts", "(II)V"⟩, 9) := ⟨⟨by decide +kernel, by decide +kernel⟩, List.mem_of_getElem? (i := 23) (by decide +kernel), List.mem_of_getElem? (i := 761) (by decide +kernel), List.mem_of_getElem? (i := 762) (by decide +kernel)⟩
theorem lw_p25 : lw_okq (⟨"UmbrellaDoorsModel", "clauseHere", "()V"⟩, 26) := ⟨⟨by decide +kernel, by decide +kernel⟩, List.mem_of_getElem? (i := 893) (by decide +kernel), List.mem_of_getElem? (i := 997) (by decide +kernel), List.mem_of_getElem? (i := 998) (by decide +kernel)⟩
theorem lw_p26 : lw_okq (⟨"UmbrellaDoorsModel", "here", "()I"⟩, 26) := ⟨⟨by decide +kernel, by decide +kernel⟩, List.mem_of_getElem? (i := 893) (by decide +kernel), List.mem_of_getElem? (i := 1001) (by decide +kernel), List.mem_of_getElem? (i := 1002) (by decide +kernel)⟩
theorem lw_p27 : lw_okq (⟨"UmbrellaDoorsModel", "much", "(ILjava/lang/String;)V"⟩, 26) := ⟨⟨by decide +kernel, by decide +kernel⟩, List.mem_of_getElem? (i := 893) (by decide +kernel), List.mem_of_getElem? (i := 1006) (by decide +kernel), List.mem_of_getElem? (i := 1007) (by decide +kernel)⟩
theorem lw_p28 : lw_okq (⟨"UmbrellaDoorsModel", "spells", "(Ljava/lang/String;)V"⟩, 26) := ⟨⟨by decide +kernel, by decide +kernel⟩, List.mem_of_getElem? (i := 893) (by decide +kernel), List.mem_of_getElem? (i := 1010) (by decide +kernel), List.mem_of_getElem? (i := 1011) (by decide +kernel)⟩
theorem lw_p29 : lw_okq (⟨"UmbrellaDoorsModel", "must", "(I)V"⟩, 26) := ⟨⟨by decide +kernel, by decide +kernel⟩, List.mem_of_getElem? (i := 893) (by decide +kernel), List.mem_of_getElem? (i := 1016) (by decide +kernel), List.mem_of_getElem? (i := 1017) (by decide +kernel)⟩
theorem lw_p30 : lw_okq (⟨"UmbrellaDoorsModel", "figures", "()I"⟩, 26) := ⟨⟨by decide +kernel, by decide +kernel⟩, List.mem_of_getElem? (i := 893) (by decide +kernel), List.mem_of_getElem? (i := 1020) (by decide +kernel), List.mem_of_getElem? (i := 1021) (by decide +kernel)⟩
theorem lw_p31 : lw_okq (⟨"UmbrellaDoorsModel", "some", "()V"⟩, 26) := ⟨⟨by decide +kernel, by decide +kernel⟩, List.mem_of_getElem? (i := 893) (by decide +kernel), List.mem_of_getElem? (i := 1024) (by decide +kernel), List.mem_of_getElem? (i := 1025) (by decide +kernel)⟩
def lw_privs_2 : List (MethodName × Nat) := [(⟨"UmbrellaDoors$Town", "addLost", "(II)V"⟩, 14), (⟨"UmbrellaDoors", "personAt", "(I)LUmbrellaDoors$Walker;"⟩, 9), (⟨"UmbrellaDoors$World", "walk", "(LUmbrellaDoors$Walker;LUmbrellaDoors$Town;)V"⟩, 9), (⟨"UmbrellaDoors$World", "putDown", "()V"⟩, 9), (⟨"UmbrellaDoors", "beginThought", "()LUmbrellaDoors$World;"⟩, 9), (⟨"UmbrellaDoors", "weigh", "(IIJ)V"⟩, 9), (⟨"UmbrellaDoors", "addWeighed", "(LUmbrellaDoors$World;J)V"⟩, 9), (⟨"UmbrellaDoors", "bestStart", "(II)I"⟩, 9), (⟨"UmbrellaDoors", "seekCarts", "(II)V"⟩, 9), (⟨"UmbrellaDoorsModel", "clauseHere", "()V"⟩, 26), (⟨"UmbrellaDoorsModel", "here", "()I"⟩, 26), (⟨"UmbrellaDoorsModel", "much", "(ILjava/lang/String;)V"⟩, 26), (⟨"UmbrellaDoorsModel", "spells", "(Ljava/lang/String;)V"⟩, 26), (⟨"UmbrellaDoorsModel", "must", "(I)V"⟩, 26), (⟨"UmbrellaDoorsModel", "figures", "()I"⟩, 26), (⟨"UmbrellaDoorsModel", "some", "()V"⟩, 26)]
theorem lw_r2 : ∀ q ∈ lw_privs_2, lw_okq q := List.forall_mem_cons.mpr ⟨lw_p16, List.forall_mem_cons.mpr ⟨lw_p17, List.forall_mem_cons.mpr ⟨lw_p18, List.forall_mem_cons.mpr ⟨lw_p19, List.forall_mem_cons.mpr ⟨lw_p20, List.forall_mem_cons.mpr ⟨lw_p21, List.forall_mem_cons.mpr ⟨lw_p22, List.forall_mem_cons.mpr ⟨lw_p23, List.forall_mem_cons.mpr ⟨lw_p24, List.forall_mem_cons.mpr ⟨lw_p25, List.forall_mem_cons.mpr ⟨lw_p26, List.forall_mem_cons.mpr ⟨lw_p27, List.forall_mem_cons.mpr ⟨lw_p28, List.forall_mem_cons.mpr ⟨lw_p29, List.forall_mem_cons.mpr ⟨lw_p30, List.forall_mem_cons.mpr ⟨lw_p31, fun _ h => absurd h List.not_mem_nil⟩⟩⟩⟩⟩⟩⟩⟩⟩⟩⟩⟩⟩⟩⟩⟩
theorem lw_p32 : lw_okq (⟨"UmbrellaDoorsModel", "every", "()V"⟩, 26) := ⟨⟨by decide +kernel, by decide +kernel⟩, List.mem_of_getElem? (i := 893) (by decide +kernel), List.mem_of_getElem? (i := 1028) (by decide +kernel), List.mem_of_getElem? (i := 1029) (by decide +kernel)⟩
theorem lw_p33 : lw_okq (⟨"UmbrellaDoorsModel", "factor", "()V"⟩, 26) := ⟨⟨by decide +kernel, by decide +kernel⟩, List.mem_of_getElem? (i := 893) (by decide +kernel), List.mem_of_getElem? (i := 1032) (by decide +kernel), List.mem_of_getElem? (i := 1033) (by decide +kernel)⟩
theorem lw_p34 : lw_okq (⟨"UmbrellaDoorsModel", "emits", "(I)V"⟩, 26) := ⟨⟨by decide +kernel, by decide +kernel⟩, List.mem_of_getElem? (i := 893) (by decide +kernel), List.mem_of_getElem? (i := 1036) (by decide +kernel), List.mem_of_getElem? (i := 1037) (by decide +kernel)⟩
theorem lw_p35 : lw_okq (⟨"UmbrellaDoorsModel", "among", "(Ljava/lang/String;)I"⟩, 26) := ⟨⟨by decide +kernel, by decide +kernel⟩, List.mem_of_getElem? (i := 893) (by decide +kernel), List.mem_of_getElem? (i := 1041) (by decide +kernel), List.mem_of_getElem? (i := 1042) (by decide +kernel)⟩
theorem lw_p36 : lw_okq (⟨"UmbrellaDoorsModel", "tellsHere", "(ILjava/lang/String;)V"⟩, 26) := ⟨⟨by decide +kernel, by decide +kernel⟩, List.mem_of_getElem? (i := 893) (by decide +kernel), List.mem_of_getElem? (i := 1048) (by decide +kernel), List.mem_of_getElem? (i := 1049) (by decide +kernel)⟩
theorem lw_p37 : lw_okq (⟨"UmbrellaDoorsModel", "clauseOfC", "()V"⟩, 26) := ⟨⟨by decide +kernel, by decide +kernel⟩, List.mem_of_getElem? (i := 893) (by decide +kernel), List.mem_of_getElem? (i := 1052) (by decide +kernel), List.mem_of_getElem? (i := 1053) (by decide +kernel)⟩
theorem lw_p38 : lw_okq (⟨"UmbrellaDoorsModel", "rainOf", "(II)I"⟩, 26) := ⟨⟨by decide +kernel, by decide +kernel⟩, List.mem_of_getElem? (i := 893) (by decide +kernel), List.mem_of_getElem? (i := 1063) (by decide +kernel), List.mem_of_getElem? (i := 1064) (by decide +kernel)⟩
theorem lw_p39 : lw_okq (⟨"UmbrellaDoorsModel", "looks", "(IIIII)V"⟩, 26) := ⟨⟨by decide +kernel, by decide +kernel⟩, List.mem_of_getElem? (i := 893) (by decide +kernel), List.mem_of_getElem? (i := 1067) (by decide +kernel), List.mem_of_getElem? (i := 1068) (by decide +kernel)⟩
theorem lw_p40 : lw_okq (⟨"UmbrellaDoorsModel", "tellsOf", "(II)I"⟩, 26) := ⟨⟨by decide +kernel, by decide +kernel⟩, List.mem_of_getElem? (i := 893) (by decide +kernel), List.mem_of_getElem? (i := 1071) (by decide +kernel), List.mem_of_getElem? (i := 1072) (by decide +kernel)⟩
theorem lw_p41 : lw_okq (⟨"UmbrellaDoorsModel", "isPerson", "(I)Z"⟩, 26) := ⟨⟨by decide +kernel, by decide +kernel⟩, List.mem_of_getElem? (i := 893) (by decide +kernel), List.mem_of_getElem? (i := 1083) (by decide +kernel), List.mem_of_getElem? (i := 1084) (by decide +kernel)⟩
theorem lw_p42 : lw_okq (⟨"UmbrellaDoorsModel", "doorOf", "(I)I"⟩, 26) := ⟨⟨by decide +kernel, by decide +kernel⟩, List.mem_of_getElem? (i := 893) (by decide +kernel), List.mem_of_getElem? (i := 1091) (by decide +kernel), List.mem_of_getElem? (i := 1092) (by decide +kernel)⟩
theorem lw_p43 : lw_okq (⟨"UmbrellaDoorsModel", "doesTake", "(II)Z"⟩, 26) := ⟨⟨by decide +kernel, by decide +kernel⟩, List.mem_of_getElem? (i := 893) (by decide +kernel), List.mem_of_getElem? (i := 1095) (by decide +kernel), List.mem_of_getElem? (i := 1096) (by decide +kernel)⟩
theorem lw_p44 : lw_okq (⟨"UmbrellaDoorsModel", "otherOf", "(I)I"⟩, 26) := ⟨⟨by decide +kernel, by decide +kernel⟩, List.mem_of_getElem? (i := 893) (by decide +kernel), List.mem_of_getElem? (i := 1099) (by decide +kernel), List.mem_of_getElem? (i := 1100) (by decide +kernel)⟩
theorem lw_p45 : lw_okq (⟨"UmbrellaDoorsModel", "begins", "()V"⟩, 26) := ⟨⟨by decide +kernel, by decide +kernel⟩, List.mem_of_getElem? (i := 893) (by decide +kernel), List.mem_of_getElem? (i := 1107) (by decide +kernel), List.mem_of_getElem? (i := 1108) (by decide +kernel)⟩
theorem lw_p46 : lw_okq (⟨"UmbrellaDoorsModel", "hourGoes", "(I)V"⟩, 26) := ⟨⟨by decide +kernel, by decide +kernel⟩, List.mem_of_getElem? (i := 893) (by decide +kernel), List.mem_of_getElem? (i := 1111) (by decide +kernel), List.mem_of_getElem? (i := 1112) (by decide +kernel)⟩
theorem lw_p47 : lw_okq (⟨"UmbrellaDoorsModel", "walksOut", "(II)V"⟩, 26) := ⟨⟨by decide +kernel, by decide +kernel⟩, List.mem_of_getElem? (i := 893) (by decide +kernel), List.mem_of_getElem? (i := 1115) (by decide +kernel), List.mem_of_getElem? (i := 1116) (by decide +kernel)⟩
def lw_privs_3 : List (MethodName × Nat) := [(⟨"UmbrellaDoorsModel", "every", "()V"⟩, 26), (⟨"UmbrellaDoorsModel", "factor", "()V"⟩, 26), (⟨"UmbrellaDoorsModel", "emits", "(I)V"⟩, 26), (⟨"UmbrellaDoorsModel", "among", "(Ljava/lang/String;)I"⟩, 26), (⟨"UmbrellaDoorsModel", "tellsHere", "(ILjava/lang/String;)V"⟩, 26), (⟨"UmbrellaDoorsModel", "clauseOfC", "()V"⟩, 26), (⟨"UmbrellaDoorsModel", "rainOf", "(II)I"⟩, 26), (⟨"UmbrellaDoorsModel", "looks", "(IIIII)V"⟩, 26), (⟨"UmbrellaDoorsModel", "tellsOf", "(II)I"⟩, 26), (⟨"UmbrellaDoorsModel", "isPerson", "(I)Z"⟩, 26), (⟨"UmbrellaDoorsModel", "doorOf", "(I)I"⟩, 26), (⟨"UmbrellaDoorsModel", "doesTake", "(II)Z"⟩, 26), (⟨"UmbrellaDoorsModel", "otherOf", "(I)I"⟩, 26), (⟨"UmbrellaDoorsModel", "begins", "()V"⟩, 26), (⟨"UmbrellaDoorsModel", "hourGoes", "(I)V"⟩, 26), (⟨"UmbrellaDoorsModel", "walksOut", "(II)V"⟩, 26)]
theorem lw_r3 : ∀ q ∈ lw_privs_3, lw_okq q := List.forall_mem_cons.mpr ⟨lw_p32, List.forall_mem_cons.mpr ⟨lw_p33, List.forall_mem_cons.mpr ⟨lw_p34, List.forall_mem_cons.mpr ⟨lw_p35, List.forall_mem_cons.mpr ⟨lw_p36, List.forall_mem_cons.mpr ⟨lw_p37, List.forall_mem_cons.mpr ⟨lw_p38, List.forall_mem_cons.mpr ⟨lw_p39, List.forall_mem_cons.mpr ⟨lw_p40, List.forall_mem_cons.mpr ⟨lw_p41, List.forall_mem_cons.mpr ⟨lw_p42, List.forall_mem_cons.mpr ⟨lw_p43, List.forall_mem_cons.mpr ⟨lw_p44, List.forall_mem_cons.mpr ⟨lw_p45, List.forall_mem_cons.mpr ⟨lw_p46, List.forall_mem_cons.mpr ⟨lw_p47, fun _ h => absurd h List.not_mem_nil⟩⟩⟩⟩⟩⟩⟩⟩⟩⟩⟩⟩⟩⟩⟩⟩
theorem lw_p48 : lw_okq (⟨"UmbrellaDoorsModel", "goesAlong", "(I)Z"⟩, 26) := ⟨⟨by decide +kernel, by decide +kernel⟩, List.mem_of_getElem? (i := 893) (by decide +kernel), List.mem_of_getElem? (i := 1119) (by decide +kernel), List.mem_of_getElem? (i := 1120) (by decide +kernel)⟩
theorem lw_p49 : lw_okq (⟨"UmbrellaDoorsModel", "keeps", "(I)V"⟩, 26) := ⟨⟨by decide +kernel, by decide +kernel⟩, List.mem_of_getElem? (i := 893) (by decide +kernel), List.mem_of_getElem? (i := 1131) (by decide +kernel), List.mem_of_getElem? (i := 1132) (by decide +kernel)⟩
theorem lw_p50 : lw_okq (⟨"UmbrellaDoorsModel", "goesBackTo", "(I)V"⟩, 26) := ⟨⟨by decide +kernel, by decide +kernel⟩, List.mem_of_getElem? (i := 893) (by decide +kernel), List.mem_of_getElem? (i := 1135) (by decide +kernel), List.mem_of_getElem? (i := 1136) (by decide +kernel)⟩
theorem lw_p51 : lw_okq (⟨"UmbrellaDoorsModel", "meanOf", "(I)J"⟩, 26) := ⟨⟨by decide +kernel, by decide +kernel⟩, List.mem_of_getElem? (i := 893) (by decide +kernel), List.mem_of_getElem? (i := 1144) (by decide +kernel), List.mem_of_getElem? (i := 1145) (by decide +kernel)⟩
theorem lw_p52 : lw_okq (⟨"UmbrellaDoorsModel", "allSkies", "(IIJ)V"⟩, 26) := ⟨⟨by decide +kernel, by decide +kernel⟩, List.mem_of_getElem? (i := 893) (by decide +kernel), List.mem_of_getElem? (i := 1148) (by decide +kernel), List.mem_of_getElem? (i := 1149) (by decide +kernel)⟩
theorem lw_p53 : lw_okq (⟨"UmbrellaDoorsModel", "keepsStands", "()V"⟩, 26) := ⟨⟨by decide +kernel, by decide +kernel⟩, List.mem_of_getElem? (i := 893) (by decide +kernel), List.mem_of_getElem? (i := 1166) (by decide +kernel), List.mem_of_getElem? (i := 1167) (by decide +kernel)⟩
theorem lw_p54 : lw_okq (⟨"UmbrellaDoorsModel", "putsStandsBack", "()V"⟩, 26) := ⟨⟨by decide +kernel, by decide +kernel⟩, List.mem_of_getElem? (i := 893) (by decide +kernel), List.mem_of_getElem? (i := 1171) (by decide +kernel), List.mem_of_getElem? (i := 1172) (by decide +kernel)⟩
theorem lw_p55 : lw_okq (⟨"UmbrellaDoorsModel", "umbrellas", "()I"⟩, 26) := ⟨⟨by decide +kernel, by decide +kernel⟩, List.mem_of_getElem? (i := 893) (by decide +kernel), List.mem_of_getElem? (i := 1179) (by decide +kernel), List.mem_of_getElem? (i := 1180) (by decide +kernel)⟩
theorem lw_p56 : lw_okq (⟨"UmbrellaDoorsModel", "isDry", "(II)Z"⟩, 26) := ⟨⟨by decide +kernel, by decide +kernel⟩, List.mem_of_getElem? (i := 893) (by decide +kernel), List.mem_of_getElem? (i := 1206) (by decide +kernel), List.mem_of_getElem? (i := 1207) (by decide +kernel)⟩
theorem lw_p57 : lw_okq (⟨"UmbrellaDoorsModel", "takesActs", "(I)I"⟩, 26) := ⟨⟨by decide +kernel, by decide +kernel⟩, List.mem_of_getElem? (i := 893) (by decide +kernel), List.mem_of_getElem? (i := 1223) (by decide +kernel), List.mem_of_getElem? (i := 1224) (by decide +kernel)⟩
theorem lw_p58 : lw_okq (⟨"UmbrellaDoorsModel", "runs", "(I)V"⟩, 26) := ⟨⟨by decide +kernel, by decide +kernel⟩, List.mem_of_getElem? (i := 893) (by decide +kernel), List.mem_of_getElem? (i := 1230) (by decide +kernel), List.mem_of_getElem? (i := 1231) (by decide +kernel)⟩
theorem lw_p59 : lw_okq (⟨"UmbrellaDoorsModel", "plainTakes", "(I)I"⟩, 26) := ⟨⟨by decide +kernel, by decide +kernel⟩, List.mem_of_getElem? (i := 893) (by decide +kernel), List.mem_of_getElem? (i := 1234) (by decide +kernel), List.mem_of_getElem? (i := 1235) (by decide +kernel)⟩
theorem lw_p60 : lw_okq (⟨"UmbrellaDoorsModel", "walksActs", "(I)I"⟩, 26) := ⟨⟨by decide +kernel, by decide +kernel⟩, List.mem_of_getElem? (i := 893) (by decide +kernel), List.mem_of_getElem? (i := 1238) (by decide +kernel), List.mem_of_getElem? (i := 1239) (by decide +kernel)⟩
theorem lw_p61 : lw_okq (⟨"UmbrellaDoorsModel", "backWalks", "(I)I"⟩, 26) := ⟨⟨by decide +kernel, by decide +kernel⟩, List.mem_of_getElem? (i := 893) (by decide +kernel), List.mem_of_getElem? (i := 1242) (by decide +kernel), List.mem_of_getElem? (i := 1243) (by decide +kernel)⟩
theorem lw_p62 : lw_okq (⟨"UmbrellaDoorsModel", "plainWalks", "(I)I"⟩, 26) := ⟨⟨by decide +kernel, by decide +kernel⟩, List.mem_of_getElem? (i := 893) (by decide +kernel), List.mem_of_getElem? (i := 1246) (by decide +kernel), List.mem_of_getElem? (i := 1247) (by decide +kernel)⟩
theorem lw_p63 : lw_okq (⟨"UmbrellaDoorsModel", "tellsActs", "(I)I"⟩, 26) := ⟨⟨by decide +kernel, by decide +kernel⟩, List.mem_of_getElem? (i := 893) (by decide +kernel), List.mem_of_getElem? (i := 1250) (by decide +kernel), List.mem_of_getElem? (i := 1251) (by decide +kernel)⟩
def lw_privs_4 : List (MethodName × Nat) := [(⟨"UmbrellaDoorsModel", "goesAlong", "(I)Z"⟩, 26), (⟨"UmbrellaDoorsModel", "keeps", "(I)V"⟩, 26), (⟨"UmbrellaDoorsModel", "goesBackTo", "(I)V"⟩, 26), (⟨"UmbrellaDoorsModel", "meanOf", "(I)J"⟩, 26), (⟨"UmbrellaDoorsModel", "allSkies", "(IIJ)V"⟩, 26), (⟨"UmbrellaDoorsModel", "keepsStands", "()V"⟩, 26), (⟨"UmbrellaDoorsModel", "putsStandsBack", "()V"⟩, 26), (⟨"UmbrellaDoorsModel", "umbrellas", "()I"⟩, 26), (⟨"UmbrellaDoorsModel", "isDry", "(II)Z"⟩, 26), (⟨"UmbrellaDoorsModel", "takesActs", "(I)I"⟩, 26), (⟨"UmbrellaDoorsModel", "runs", "(I)V"⟩, 26), (⟨"UmbrellaDoorsModel", "plainTakes", "(I)I"⟩, 26), (⟨"UmbrellaDoorsModel", "walksActs", "(I)I"⟩, 26), (⟨"UmbrellaDoorsModel", "backWalks", "(I)I"⟩, 26), (⟨"UmbrellaDoorsModel", "plainWalks", "(I)I"⟩, 26), (⟨"UmbrellaDoorsModel", "tellsActs", "(I)I"⟩, 26)]
theorem lw_r4 : ∀ q ∈ lw_privs_4, lw_okq q := List.forall_mem_cons.mpr ⟨lw_p48, List.forall_mem_cons.mpr ⟨lw_p49, List.forall_mem_cons.mpr ⟨lw_p50, List.forall_mem_cons.mpr ⟨lw_p51, List.forall_mem_cons.mpr ⟨lw_p52, List.forall_mem_cons.mpr ⟨lw_p53, List.forall_mem_cons.mpr ⟨lw_p54, List.forall_mem_cons.mpr ⟨lw_p55, List.forall_mem_cons.mpr ⟨lw_p56, List.forall_mem_cons.mpr ⟨lw_p57, List.forall_mem_cons.mpr ⟨lw_p58, List.forall_mem_cons.mpr ⟨lw_p59, List.forall_mem_cons.mpr ⟨lw_p60, List.forall_mem_cons.mpr ⟨lw_p61, List.forall_mem_cons.mpr ⟨lw_p62, List.forall_mem_cons.mpr ⟨lw_p63, fun _ h => absurd h List.not_mem_nil⟩⟩⟩⟩⟩⟩⟩⟩⟩⟩⟩⟩⟩⟩⟩⟩
theorem lw_p64 : lw_okq (⟨"UmbrellaDoorsModel", "plainTells", "(I)I"⟩, 26) := ⟨⟨by decide +kernel, by decide +kernel⟩, List.mem_of_getElem? (i := 893) (by decide +kernel), List.mem_of_getElem? (i := 1254) (by decide +kernel), List.mem_of_getElem? (i := 1255) (by decide +kernel)⟩
def lw_privs_5 : List (MethodName × Nat) := [(⟨"UmbrellaDoorsModel", "plainTells", "(I)I"⟩, 26)]
theorem lw_r5 : ∀ q ∈ lw_privs_5, lw_okq q := List.forall_mem_cons.mpr ⟨lw_p64, fun _ h => absurd h List.not_mem_nil⟩
def lw_privs : List (MethodName × Nat) := lw_privs_1 ++ (lw_privs_2 ++ (lw_privs_3 ++ (lw_privs_4 ++ (lw_privs_5))))
def lw_tbl : List Cond := k2_sels lw_privs ++ tables_1
theorem lw_privs_ok : ∀ q ∈ lw_privs, lw_okq q := by
  show ∀ q ∈ lw_privs_1 ++ (lw_privs_2 ++ (lw_privs_3 ++ (lw_privs_4 ++ (lw_privs_5)))), lw_okq q
  exact List.forall_mem_append.mpr ⟨lw_r1, List.forall_mem_append.mpr ⟨lw_r2, List.forall_mem_append.mpr ⟨lw_r3, List.forall_mem_append.mpr ⟨lw_r4, lw_r5⟩⟩⟩⟩

def RX0 : String := "UmbrellaDoors$Ahead"
def TX0 : u_T := fun k => match k with
  | 0 => ("UmbrellaDoors$Walker", "kind", "I", true)
  | 1 => ("UmbrellaDoors$Walker", "number", "I", true)
  | 2 => ("UmbrellaDoors$Walker", "a", "I", true)
  | 3 => ("UmbrellaDoors$Walker", "b", "I", true)
  | _ => ("UmbrellaDoors$Walker", "v", "I", false)
def tyX0 : Nat → FieldType := fun k => match k with
  | 0 => .int
  | 1 => .int
  | 2 => .int
  | 3 => .int
  | _ => .int
theorem nmX0 : ∀ a, a < 5 → ∀ b, b < 5 → a ≠ b → (TX0 a).2.1 ≠ (TX0 b).2.1 := by decide +kernel
theorem tyX0_ok : ∀ k, k < 5 → parseFieldDescriptor (TX0 k).2.2.1 = some (tyX0 k) := by decide +kernel
abbrev cX0_init : ByteArray := prog_2_method_1_code
def yX0_init : MethodName := ⟨RX0, "<init>", "(IIIII)V"⟩
abbrev cX0_wants : ByteArray := prog_2_method_2_code
def yX0_wants : MethodName := ⟨RX0, "wants", "(LUmbrellaDoors$World;LUmbrellaDoors$Town;I)Z"⟩
abbrev cX0_takes : ByteArray := prog_2_method_3_code
def yX0_takes : MethodName := ⟨RX0, "takes", "(ILUmbrellaDoors$Trace;)I"⟩
def RX1 : String := "UmbrellaDoors$Always"
def TX1 : u_T := fun k => match k with
  | 0 => ("UmbrellaDoors$Walker", "kind", "I", true)
  | 1 => ("UmbrellaDoors$Walker", "number", "I", true)
  | 2 => ("UmbrellaDoors$Walker", "a", "I", true)
  | 3 => ("UmbrellaDoors$Walker", "b", "I", true)
  | _ => ("UmbrellaDoors$Walker", "v", "I", false)
def tyX1 : Nat → FieldType := fun k => match k with
  | 0 => .int
  | 1 => .int
  | 2 => .int
  | 3 => .int
  | _ => .int
theorem nmX1 : ∀ a, a < 5 → ∀ b, b < 5 → a ≠ b → (TX1 a).2.1 ≠ (TX1 b).2.1 := by decide +kernel
theorem tyX1_ok : ∀ k, k < 5 → parseFieldDescriptor (TX1 k).2.2.1 = some (tyX1 k) := by decide +kernel
abbrev cX1_init : ByteArray := prog_3_method_1_code
def yX1_init : MethodName := ⟨RX1, "<init>", "(IIIII)V"⟩
abbrev cX1_wants : ByteArray := prog_3_method_2_code
def yX1_wants : MethodName := ⟨RX1, "wants", "(LUmbrellaDoors$World;LUmbrellaDoors$Town;I)Z"⟩
abbrev cX1_tells : ByteArray := prog_3_method_3_code
def yX1_tells : MethodName := ⟨RX1, "tells", "(ILUmbrellaDoors$Trace;)I"⟩
def RX2 : String := "UmbrellaDoors$Back"
def TX2 : u_T := fun k => match k with
  | 0 => ("UmbrellaDoors$Walker", "kind", "I", true)
  | 1 => ("UmbrellaDoors$Walker", "number", "I", true)
  | 2 => ("UmbrellaDoors$Walker", "a", "I", true)
  | 3 => ("UmbrellaDoors$Walker", "b", "I", true)
  | _ => ("UmbrellaDoors$Walker", "v", "I", false)
def tyX2 : Nat → FieldType := fun k => match k with
  | 0 => .int
  | 1 => .int
  | 2 => .int
  | 3 => .int
  | _ => .int
theorem nmX2 : ∀ a, a < 5 → ∀ b, b < 5 → a ≠ b → (TX2 a).2.1 ≠ (TX2 b).2.1 := by decide +kernel
theorem tyX2_ok : ∀ k, k < 5 → parseFieldDescriptor (TX2 k).2.2.1 = some (tyX2 k) := by decide +kernel
abbrev cX2_init : ByteArray := prog_4_method_1_code
def yX2_init : MethodName := ⟨RX2, "<init>", "(IIIII)V"⟩
abbrev cX2_wants : ByteArray := prog_4_method_2_code
def yX2_wants : MethodName := ⟨RX2, "wants", "(LUmbrellaDoors$World;LUmbrellaDoors$Town;I)Z"⟩
abbrev cX2_walks : ByteArray := prog_4_method_3_code
def yX2_walks : MethodName := ⟨RX2, "walks", "(ILUmbrellaDoors$Trace;)I"⟩
def RX3 : String := "UmbrellaDoors$Faithful"
def TX3 : u_T := fun k => match k with
  | 0 => ("UmbrellaDoors$Walker", "kind", "I", true)
  | 1 => ("UmbrellaDoors$Walker", "number", "I", true)
  | 2 => ("UmbrellaDoors$Walker", "a", "I", true)
  | 3 => ("UmbrellaDoors$Walker", "b", "I", true)
  | _ => ("UmbrellaDoors$Walker", "v", "I", false)
def tyX3 : Nat → FieldType := fun k => match k with
  | 0 => .int
  | 1 => .int
  | 2 => .int
  | 3 => .int
  | _ => .int
theorem nmX3 : ∀ a, a < 5 → ∀ b, b < 5 → a ≠ b → (TX3 a).2.1 ≠ (TX3 b).2.1 := by decide +kernel
theorem tyX3_ok : ∀ k, k < 5 → parseFieldDescriptor (TX3 k).2.2.1 = some (tyX3 k) := by decide +kernel
abbrev cX3_init : ByteArray := prog_5_method_1_code
def yX3_init : MethodName := ⟨RX3, "<init>", "(IIIII)V"⟩
abbrev cX3_wants : ByteArray := prog_5_method_2_code
def yX3_wants : MethodName := ⟨RX3, "wants", "(LUmbrellaDoors$World;LUmbrellaDoors$Town;I)Z"⟩
abbrev cX3_walks : ByteArray := prog_5_method_3_code
def yX3_walks : MethodName := ⟨RX3, "walks", "(ILUmbrellaDoors$Trace;)I"⟩
def RX4 : String := "UmbrellaDoors$Hardy"
def TX4 : u_T := fun k => match k with
  | 0 => ("UmbrellaDoors$Walker", "kind", "I", true)
  | 1 => ("UmbrellaDoors$Walker", "number", "I", true)
  | 2 => ("UmbrellaDoors$Walker", "a", "I", true)
  | 3 => ("UmbrellaDoors$Walker", "b", "I", true)
  | _ => ("UmbrellaDoors$Walker", "v", "I", false)
def tyX4 : Nat → FieldType := fun k => match k with
  | 0 => .int
  | 1 => .int
  | 2 => .int
  | 3 => .int
  | _ => .int
theorem nmX4 : ∀ a, a < 5 → ∀ b, b < 5 → a ≠ b → (TX4 a).2.1 ≠ (TX4 b).2.1 := by decide +kernel
theorem tyX4_ok : ∀ k, k < 5 → parseFieldDescriptor (TX4 k).2.2.1 = some (tyX4 k) := by decide +kernel
abbrev cX4_init : ByteArray := prog_6_method_1_code
def yX4_init : MethodName := ⟨RX4, "<init>", "(IIIII)V"⟩
abbrev cX4_wants : ByteArray := prog_6_method_2_code
def yX4_wants : MethodName := ⟨RX4, "wants", "(LUmbrellaDoors$World;LUmbrellaDoors$Town;I)Z"⟩
abbrev cX4_tells : ByteArray := prog_6_method_3_code
def yX4_tells : MethodName := ⟨RX4, "tells", "(ILUmbrellaDoors$Trace;)I"⟩
def RX5 : String := "UmbrellaDoors$Sharing"
def TX5 : u_T := fun k => match k with
  | 0 => ("UmbrellaDoors$Walker", "kind", "I", true)
  | 1 => ("UmbrellaDoors$Walker", "number", "I", true)
  | 2 => ("UmbrellaDoors$Walker", "a", "I", true)
  | 3 => ("UmbrellaDoors$Walker", "b", "I", true)
  | _ => ("UmbrellaDoors$Walker", "v", "I", false)
def tyX5 : Nat → FieldType := fun k => match k with
  | 0 => .int
  | 1 => .int
  | 2 => .int
  | 3 => .int
  | _ => .int
theorem nmX5 : ∀ a, a < 5 → ∀ b, b < 5 → a ≠ b → (TX5 a).2.1 ≠ (TX5 b).2.1 := by decide +kernel
theorem tyX5_ok : ∀ k, k < 5 → parseFieldDescriptor (TX5 k).2.2.1 = some (tyX5 k) := by decide +kernel
abbrev cX5_init : ByteArray := prog_7_method_1_code
def yX5_init : MethodName := ⟨RX5, "<init>", "(IIIII)V"⟩
abbrev cX5_shares : ByteArray := prog_7_method_2_code
def yX5_shares : MethodName := ⟨RX5, "shares", "()Z"⟩
abbrev cX5_takes : ByteArray := prog_7_method_3_code
def yX5_takes : MethodName := ⟨RX5, "takes", "(ILUmbrellaDoors$Trace;)I"⟩
def RX6 : String := "UmbrellaDoors$State"
def TX6 : u_T := fun k => match k with
  | 0 => ("UmbrellaDoors$State", "world", "LUmbrellaDoors$World;", true)
  | 1 => ("UmbrellaDoors$State", "people", "[LUmbrellaDoors$Walker;", true)
  | 2 => ("UmbrellaDoors$State", "steps", "[I", true)
  | 3 => ("UmbrellaDoors$State", "peopleSize", "I", false)
  | 4 => ("UmbrellaDoors$State", "holding", "LUmbrellaDoors$Town;", false)
  | 5 => ("UmbrellaDoors$State", "towns", "I", false)
  | 6 => ("UmbrellaDoors$State", "tape", "[B", true)
  | 7 => ("UmbrellaDoors$State", "tapeSize", "I", false)
  | 8 => ("UmbrellaDoors$State", "skies", "[I", true)
  | 9 => ("UmbrellaDoors$State", "rowSize", "I", false)
  | 10 => ("UmbrellaDoors$State", "bookDoors", "[I", true)
  | 11 => ("UmbrellaDoors$State", "bookCounts", "[I", true)
  | _ => ("UmbrellaDoors$State", "bookSize", "I", false)
def tyX6 : Nat → FieldType := fun k => match k with
  | 0 => .object "UmbrellaDoors$World"
  | 1 => .array (.object "UmbrellaDoors$Walker")
  | 2 => .array .int
  | 3 => .int
  | 4 => .object "UmbrellaDoors$Town"
  | 5 => .int
  | 6 => .array .byte
  | 7 => .int
  | 8 => .array .int
  | 9 => .int
  | 10 => .array .int
  | 11 => .array .int
  | _ => .int
theorem nmX6 : ∀ a, a < 13 → ∀ b, b < 13 → a ≠ b → (TX6 a).2.1 ≠ (TX6 b).2.1 := by decide +kernel
theorem tyX6_ok : ∀ k, k < 13 → parseFieldDescriptor (TX6 k).2.2.1 = some (tyX6 k) := by decide +kernel
abbrev cX6_init : ByteArray := prog_8_method_1_code
def yX6_init : MethodName := ⟨RX6, "<init>", "()V"⟩
abbrev cX6_copyFrom : ByteArray := prog_8_method_2_code
def yX6_copyFrom : MethodName := ⟨RX6, "copyFrom", "(LUmbrellaDoors$State;)V"⟩
abbrev cX6_vanishedAt : ByteArray := prog_8_method_3_code
def yX6_vanishedAt : MethodName := ⟨RX6, "vanishedAt", "(I)I"⟩
def RX7 : String := "UmbrellaDoors$Town"
def TX7 : u_T := fun k => match k with
  | 0 => ("UmbrellaDoors$Town", "wet", "I", false)
  | 1 => ("UmbrellaDoors$Town", "carry", "I", false)
  | 2 => ("UmbrellaDoors$Town", "carted", "I", false)
  | 3 => ("UmbrellaDoors$Town", "rains", "[I", true)
  | 4 => ("UmbrellaDoors$Town", "lostEvery", "[I", true)
  | 5 => ("UmbrellaDoors$Town", "lostFrom", "[I", true)
  | 6 => ("UmbrellaDoors$Town", "lostTo", "[I", true)
  | 7 => ("UmbrellaDoors$Town", "losts", "I", false)
  | 8 => ("UmbrellaDoors$Town", "code", "[I", true)
  | 9 => ("UmbrellaDoors$Town", "codeSize", "I", false)
  | 10 => ("UmbrellaDoors$Town", "facts", "[I", true)
  | 11 => ("UmbrellaDoors$Town", "text", "[B", false)
  | 12 => ("UmbrellaDoors$Town", "size", "I", false)
  | _ => ("UmbrellaDoors$Town", "place", "I", false)
def tyX7 : Nat → FieldType := fun k => match k with
  | 0 => .int
  | 1 => .int
  | 2 => .int
  | 3 => .array .int
  | 4 => .array .int
  | 5 => .array .int
  | 6 => .array .int
  | 7 => .int
  | 8 => .array .int
  | 9 => .int
  | 10 => .array .int
  | 11 => .array .byte
  | 12 => .int
  | _ => .int
theorem nmX7 : ∀ a, a < 14 → ∀ b, b < 14 → a ≠ b → (TX7 a).2.1 ≠ (TX7 b).2.1 := by decide +kernel
theorem tyX7_ok : ∀ k, k < 14 → parseFieldDescriptor (TX7 k).2.2.1 = some (tyX7 k) := by decide +kernel
abbrev cX7_init : ByteArray := prog_9_method_1_code
def yX7_init : MethodName := ⟨RX7, "<init>", "()V"⟩
abbrev cX7_rainOf : ByteArray := prog_9_method_2_code
def yX7_rainOf : MethodName := ⟨RX7, "rainOf", "(II)I"⟩
abbrev cX7_loses : ByteArray := prog_9_method_3_code
def yX7_loses : MethodName := ⟨RX7, "loses", "(IIIII)Z"⟩
abbrev cX7_layFacts : ByteArray := prog_9_method_4_code
def yX7_layFacts : MethodName := ⟨RX7, "layFacts", "(IIIII)V"⟩
abbrev cX7_holds : ByteArray := prog_9_method_5_code
def yX7_holds : MethodName := ⟨RX7, "holds", "(II)Z"⟩
abbrev cX7_testHolds : ByteArray := prog_9_method_6_code
def yX7_testHolds : MethodName := ⟨RX7, "testHolds", "(I)Z"⟩
abbrev cX7_readFrom : ByteArray := prog_9_method_7_code
def yX7_readFrom : MethodName := ⟨RX7, "readFrom", "([BI)I"⟩
abbrev cX7_readClause : ByteArray := prog_9_method_8_code
def yX7_readClause : MethodName := ⟨RX7, "readClause", "()Z"⟩
abbrev cX7_keepClause : ByteArray := prog_9_method_9_code
def yX7_keepClause : MethodName := ⟨RX7, "keepClause", "(III)V"⟩
abbrev cX7_addRain : ByteArray := prog_9_method_10_code
def yX7_addRain : MethodName := ⟨RX7, "addRain", "(II)V"⟩
abbrev cX7_addLost : ByteArray := prog_9_method_11_code
def yX7_addLost : MethodName := ⟨RX7, "addLost", "(II)V"⟩
abbrev cX7_readWord : ByteArray := prog_9_method_12_code
def yX7_readWord : MethodName := ⟨RX7, "readWord", "()I"⟩
abbrev cX7_wordOf : ByteArray := prog_9_method_13_code
def yX7_wordOf : MethodName := ⟨RX7, "wordOf", "(I)Ljava/lang/String;"⟩
abbrev cX7_alikeWith : ByteArray := prog_9_method_14_code
def yX7_alikeWith : MethodName := ⟨RX7, "alikeWith", "(Ljava/lang/String;)I"⟩
abbrev cX7_readNumber : ByteArray := prog_9_method_15_code
def yX7_readNumber : MethodName := ⟨RX7, "readNumber", "()I"⟩
abbrev cX7_readEither : ByteArray := prog_9_method_16_code
def yX7_readEither : MethodName := ⟨RX7, "readEither", "(I)Z"⟩
abbrev cX7_readBoth : ByteArray := prog_9_method_17_code
def yX7_readBoth : MethodName := ⟨RX7, "readBoth", "(I)Z"⟩
abbrev cX7_readSingle : ByteArray := prog_9_method_18_code
def yX7_readSingle : MethodName := ⟨RX7, "readSingle", "(I)Z"⟩
abbrev cX7_readTest : ByteArray := prog_9_method_19_code
def yX7_readTest : MethodName := ⟨RX7, "readTest", "()Z"⟩
abbrev cX7_skip : ByteArray := prog_9_method_20_code
def yX7_skip : MethodName := ⟨RX7, "skip", "(C)Z"⟩
abbrev cX7_byteAt : ByteArray := prog_9_method_21_code
def yX7_byteAt : MethodName := ⟨RX7, "byteAt", "(I)I"⟩
abbrev cX7_put : ByteArray := prog_9_method_22_code
def yX7_put : MethodName := ⟨RX7, "put", "(I)Z"⟩
def RX8 : String := "UmbrellaDoors$Trace"
def TX8 : u_T := fun k => match k with
  | 0 => ("UmbrellaDoors$Trace", "numbers", "[I", true)
  | _ => ("UmbrellaDoors$Trace", "ran", "I", false)
def tyX8 : Nat → FieldType := fun k => match k with
  | 0 => .array .int
  | _ => .int
theorem nmX8 : ∀ a, a < 2 → ∀ b, b < 2 → a ≠ b → (TX8 a).2.1 ≠ (TX8 b).2.1 := by decide +kernel
theorem tyX8_ok : ∀ k, k < 2 → parseFieldDescriptor (TX8 k).2.2.1 = some (tyX8 k) := by decide +kernel
abbrev cX8_init : ByteArray := prog_10_method_1_code
def yX8_init : MethodName := ⟨RX8, "<init>", "()V"⟩
abbrev cX8_began : ByteArray := prog_10_method_2_code
def yX8_began : MethodName := ⟨RX8, "began", "(I)V"⟩
def RX9 : String := "UmbrellaDoors$Walker"
def TX9 : u_T := fun k => match k with
  | 0 => ("UmbrellaDoors$Walker", "kind", "I", true)
  | 1 => ("UmbrellaDoors$Walker", "number", "I", true)
  | 2 => ("UmbrellaDoors$Walker", "a", "I", true)
  | 3 => ("UmbrellaDoors$Walker", "b", "I", true)
  | _ => ("UmbrellaDoors$Walker", "v", "I", false)
def tyX9 : Nat → FieldType := fun k => match k with
  | 0 => .int
  | 1 => .int
  | 2 => .int
  | 3 => .int
  | _ => .int
theorem nmX9 : ∀ a, a < 5 → ∀ b, b < 5 → a ≠ b → (TX9 a).2.1 ≠ (TX9 b).2.1 := by decide +kernel
theorem tyX9_ok : ∀ k, k < 5 → parseFieldDescriptor (TX9 k).2.2.1 = some (tyX9 k) := by decide +kernel
abbrev cX9_init : ByteArray := prog_11_method_1_code
def yX9_init : MethodName := ⟨RX9, "<init>", "(IIIII)V"⟩
abbrev cX9_otherDoor : ByteArray := prog_11_method_2_code
def yX9_otherDoor : MethodName := ⟨RX9, "otherDoor", "(I)I"⟩
abbrev cX9_wants : ByteArray := prog_11_method_3_code
def yX9_wants : MethodName := ⟨RX9, "wants", "(LUmbrellaDoors$World;LUmbrellaDoors$Town;I)Z"⟩
abbrev cX9_shares : ByteArray := prog_11_method_4_code
def yX9_shares : MethodName := ⟨RX9, "shares", "()Z"⟩
abbrev cX9_takes : ByteArray := prog_11_method_5_code
def yX9_takes : MethodName := ⟨RX9, "takes", "(ILUmbrellaDoors$Trace;)I"⟩
abbrev cX9_walks : ByteArray := prog_11_method_6_code
def yX9_walks : MethodName := ⟨RX9, "walks", "(ILUmbrellaDoors$Trace;)I"⟩
abbrev cX9_tells : ByteArray := prog_11_method_7_code
def yX9_tells : MethodName := ⟨RX9, "tells", "(ILUmbrellaDoors$Trace;)I"⟩
def RX10 : String := "UmbrellaDoors$World"
def TX10 : u_T := fun k => match k with
  | 0 => ("UmbrellaDoors$World", "standing", "[I", true)
  | 1 => ("UmbrellaDoors$World", "at", "[I", true)
  | 2 => ("UmbrellaDoors$World", "hour", "I", false)
  | 3 => ("UmbrellaDoors$World", "sky", "I", false)
  | 4 => ("UmbrellaDoors$World", "costs", "I", false)
  | 5 => ("UmbrellaDoors$World", "wets", "I", false)
  | 6 => ("UmbrellaDoors$World", "gone", "I", false)
  | 7 => ("UmbrellaDoors$World", "coming", "[I", true)
  | _ => ("UmbrellaDoors$World", "shelteredWays", "I", false)
def tyX10 : Nat → FieldType := fun k => match k with
  | 0 => .array .int
  | 1 => .array .int
  | 2 => .int
  | 3 => .int
  | 4 => .int
  | 5 => .int
  | 6 => .int
  | 7 => .array .int
  | _ => .int
theorem nmX10 : ∀ a, a < 9 → ∀ b, b < 9 → a ≠ b → (TX10 a).2.1 ≠ (TX10 b).2.1 := by decide +kernel
theorem tyX10_ok : ∀ k, k < 9 → parseFieldDescriptor (TX10 k).2.2.1 = some (tyX10 k) := by decide +kernel
abbrev cX10_init : ByteArray := prog_12_method_1_code
def yX10_init : MethodName := ⟨RX10, "<init>", "()V"⟩
abbrev cX10_copyFrom : ByteArray := prog_12_method_2_code
def yX10_copyFrom : MethodName := ⟨RX10, "copyFrom", "(LUmbrellaDoors$World;)V"⟩
abbrev cX10_forgetTallies : ByteArray := prog_12_method_3_code
def yX10_forgetTallies : MethodName := ⟨RX10, "forgetTallies", "()V"⟩
abbrev cX10_layStands : ByteArray := prog_12_method_4_code
def yX10_layStands : MethodName := ⟨RX10, "layStands", "(IIII)V"⟩
abbrev cX10_standingInAll : ByteArray := prog_12_method_5_code
def yX10_standingInAll : MethodName := ⟨RX10, "standingInAll", "()I"⟩
abbrev cX10_wouldTake : ByteArray := prog_12_method_6_code
def yX10_wouldTake : MethodName := ⟨RX10, "wouldTake", "(LUmbrellaDoors$Walker;LUmbrellaDoors$Town;I)Z"⟩
abbrev cX10_pass : ByteArray := prog_12_method_7_code
def yX10_pass : MethodName := ⟨RX10, "pass", "(LUmbrellaDoors$State;I)V"⟩
abbrev cX10_walk : ByteArray := prog_12_method_8_code
def yX10_walk : MethodName := ⟨RX10, "walk", "(LUmbrellaDoors$Walker;LUmbrellaDoors$Town;)V"⟩
abbrev cX10_putDown : ByteArray := prog_12_method_9_code
def yX10_putDown : MethodName := ⟨RX10, "putDown", "()V"⟩
abbrev cX10_moveCart : ByteArray := prog_12_method_10_code
def yX10_moveCart : MethodName := ⟨RX10, "moveCart", "(I)I"⟩
def RX11 : String := "UmbrellaDoors"
def TX11 : u_T := fun k => match k with
  | 0 => ("UmbrellaDoors", "now", "LUmbrellaDoors$State;", true)
  | 1 => ("UmbrellaDoors", "kept", "LUmbrellaDoors$State;", true)
  | 2 => ("UmbrellaDoors", "keptOne", "Z", false)
  | 3 => ("UmbrellaDoors", "bodies", "LUmbrellaDoors$Trace;", true)
  | 4 => ("UmbrellaDoors", "thoughts", "[LUmbrellaDoors$World;", true)
  | 5 => ("UmbrellaDoors", "standSums", "[J", true)
  | 6 => ("UmbrellaDoors", "costSum", "J", false)
  | 7 => ("UmbrellaDoors", "drySum", "J", false)
  | _ => ("UmbrellaDoors", "bestSet", "I", false)
def tyX11 : Nat → FieldType := fun k => match k with
  | 0 => .object "UmbrellaDoors$State"
  | 1 => .object "UmbrellaDoors$State"
  | 2 => .boolean
  | 3 => .object "UmbrellaDoors$Trace"
  | 4 => .array (.object "UmbrellaDoors$World")
  | 5 => .array .long
  | 6 => .long
  | 7 => .long
  | _ => .int
theorem nmX11 : ∀ a, a < 9 → ∀ b, b < 9 → a ≠ b → (TX11 a).2.1 ≠ (TX11 b).2.1 := by decide +kernel
theorem tyX11_ok : ∀ k, k < 9 → parseFieldDescriptor (TX11 k).2.2.1 = some (tyX11 k) := by decide +kernel
abbrev cX11_init : ByteArray := prog_1_method_1_code
def yX11_init : MethodName := ⟨RX11, "<init>", "()V"⟩
abbrev cX11_stand : ByteArray := prog_1_method_2_code
def yX11_stand : MethodName := ⟨RX11, "stand", "(II)I"⟩
abbrev cX11_feed : ByteArray := prog_1_method_3_code
def yX11_feed : MethodName := ⟨RX11, "feed", "(JI)I"⟩
abbrev cX11_town : ByteArray := prog_1_method_4_code
def yX11_town : MethodName := ⟨RX11, "town", "()I"⟩
abbrev cX11_told : ByteArray := prog_1_method_5_code
def yX11_told : MethodName := ⟨RX11, "told", "(I)I"⟩
abbrev cX11_person : ByteArray := prog_1_method_6_code
def yX11_person : MethodName := ⟨RX11, "person", "(III)I"⟩
abbrev cX11_step : ByteArray := prog_1_method_7_code
def yX11_step : MethodName := ⟨RX11, "step", "(II)I"⟩
abbrev cX11_of : ByteArray := prog_1_method_8_code
def yX11_of : MethodName := ⟨RX11, "of", "(II)I"⟩
abbrev cX11_go : ByteArray := prog_1_method_9_code
def yX11_go : MethodName := ⟨RX11, "go", "(I)I"⟩
abbrev cX11_row : ByteArray := prog_1_method_10_code
def yX11_row : MethodName := ⟨RX11, "row", "(I)I"⟩
abbrev cX11_hand : ByteArray := prog_1_method_11_code
def yX11_hand : MethodName := ⟨RX11, "hand", "(II)I"⟩
abbrev cX11_mean : ByteArray := prog_1_method_12_code
def yX11_mean : MethodName := ⟨RX11, "mean", "(III)J"⟩
abbrev cX11_least : ByteArray := prog_1_method_13_code
def yX11_least : MethodName := ⟨RX11, "least", "(II)I"⟩
abbrev cX11_start : ByteArray := prog_1_method_14_code
def yX11_start : MethodName := ⟨RX11, "start", "(II)I"⟩
abbrev cX11_rule : ByteArray := prog_1_method_15_code
def yX11_rule : MethodName := ⟨RX11, "rule", "(II)I"⟩
abbrev cX11_gather : ByteArray := prog_1_method_16_code
def yX11_gather : MethodName := ⟨RX11, "gather", "(I)I"⟩
abbrev cX11_penny : ByteArray := prog_1_method_17_code
def yX11_penny : MethodName := ⟨RX11, "penny", "(III)J"⟩
abbrev cX11_cart : ByteArray := prog_1_method_18_code
def yX11_cart : MethodName := ⟨RX11, "cart", "()I"⟩
abbrev cX11_needed : ByteArray := prog_1_method_19_code
def yX11_needed : MethodName := ⟨RX11, "needed", "()I"⟩
abbrev cX11_book : ByteArray := prog_1_method_20_code
def yX11_book : MethodName := ⟨RX11, "book", "(II)I"⟩
abbrev cX11_vanish : ByteArray := prog_1_method_21_code
def yX11_vanish : MethodName := ⟨RX11, "vanish", "(I)I"⟩
abbrev cX11_act : ByteArray := prog_1_method_22_code
def yX11_act : MethodName := ⟨RX11, "act", "(III)I"⟩
abbrev cX11_trace : ByteArray := prog_1_method_23_code
def yX11_trace : MethodName := ⟨RX11, "trace", "(I)I"⟩
abbrev cX11_as : ByteArray := prog_1_method_24_code
def yX11_as : MethodName := ⟨RX11, "as", "(II)I"⟩
abbrev cX11_image : ByteArray := prog_1_method_25_code
def yX11_image : MethodName := ⟨RX11, "image", "()I"⟩
abbrev cX11_undo : ByteArray := prog_1_method_26_code
def yX11_undo : MethodName := ⟨RX11, "undo", "()I"⟩
abbrev cX11_count : ByteArray := prog_1_method_27_code
def yX11_count : MethodName := ⟨RX11, "count", "(I)I"⟩
abbrev cX11_isDoor : ByteArray := prog_1_method_28_code
def yX11_isDoor : MethodName := ⟨RX11, "isDoor", "(I)Z"⟩
abbrev cX11_personAt : ByteArray := prog_1_method_29_code
def yX11_personAt : MethodName := ⟨RX11, "personAt", "(I)LUmbrellaDoors$Walker;"⟩
abbrev cX11_oneOf : ByteArray := prog_1_method_30_code
def yX11_oneOf : MethodName := ⟨RX11, "oneOf", "(IIIII)LUmbrellaDoors$Walker;"⟩
abbrev cX11_isOfKind : ByteArray := prog_1_method_31_code
def yX11_isOfKind : MethodName := ⟨RX11, "isOfKind", "(LUmbrellaDoors$Walker;I)Z"⟩
abbrev cX11_beginThought : ByteArray := prog_1_method_32_code
def yX11_beginThought : MethodName := ⟨RX11, "beginThought", "()LUmbrellaDoors$World;"⟩
abbrev cX11_weigh : ByteArray := prog_1_method_33_code
def yX11_weigh : MethodName := ⟨RX11, "weigh", "(IIJ)V"⟩
abbrev cX11_addWeighed : ByteArray := prog_1_method_34_code
def yX11_addWeighed : MethodName := ⟨RX11, "addWeighed", "(LUmbrellaDoors$World;J)V"⟩
abbrev cX11_bestStart : ByteArray := prog_1_method_35_code
def yX11_bestStart : MethodName := ⟨RX11, "bestStart", "(II)I"⟩
abbrev cX11_standIn : ByteArray := prog_1_method_36_code
def yX11_standIn : MethodName := ⟨RX11, "standIn", "(II)I"⟩
abbrev cX11_seekCarts : ByteArray := prog_1_method_37_code
def yX11_seekCarts : MethodName := ⟨RX11, "seekCarts", "(II)V"⟩
abbrev cX11_comesFirst : ByteArray := prog_1_method_38_code
def yX11_comesFirst : MethodName := ⟨RX11, "comesFirst", "(II)Z"⟩
abbrev cX11_tenTo : ByteArray := prog_1_method_39_code
def yX11_tenTo : MethodName := ⟨RX11, "tenTo", "(I)J"⟩
abbrev cX11_fractionPart : ByteArray := prog_1_method_40_code
def yX11_fractionPart : MethodName := ⟨RX11, "fractionPart", "(JJI)J"⟩
abbrev cX11_commonDivisor : ByteArray := prog_1_method_41_code
def yX11_commonDivisor : MethodName := ⟨RX11, "commonDivisor", "(JJ)J"⟩
def RX12 : String := "UmbrellaDoorsModel"
def TX12 : u_T := fun k => match k with
  | 0 => ("UmbrellaDoorsModel", "thrown", "I", false)
  | 1 => ("UmbrellaDoorsModel", "s", "[I", true)
  | 2 => ("UmbrellaDoorsModel", "image", "[I", true)
  | 3 => ("UmbrellaDoorsModel", "hasImage", "Z", false)
  | 4 => ("UmbrellaDoorsModel", "frames", "[I", true)
  | 5 => ("UmbrellaDoorsModel", "act", "I", false)
  | 6 => ("UmbrellaDoorsModel", "spot", "I", false)
  | 7 => ("UmbrellaDoorsModel", "end", "I", false)
  | 8 => ("UmbrellaDoorsModel", "isWrong", "Z", false)
  | 9 => ("UmbrellaDoorsModel", "open", "I", false)
  | 10 => ("UmbrellaDoorsModel", "by", "[I", true)
  | 11 => ("UmbrellaDoorsModel", "truths", "[Z", true)
  | 12 => ("UmbrellaDoorsModel", "rains", "I", false)
  | 13 => ("UmbrellaDoorsModel", "isLost", "Z", false)
  | 14 => ("UmbrellaDoorsModel", "took", "[Z", true)
  | 15 => ("UmbrellaDoorsModel", "isOut", "[Z", true)
  | 16 => ("UmbrellaDoorsModel", "brings", "[Z", true)
  | 17 => ("UmbrellaDoorsModel", "costs", "J", false)
  | 18 => ("UmbrellaDoorsModel", "dry", "J", false)
  | 19 => ("UmbrellaDoorsModel", "stood", "[J", true)
  | 20 => ("UmbrellaDoorsModel", "stands", "[I", true)
  | 21 => ("UmbrellaDoorsModel", "bodies", "[I", true)
  | 22 => ("UmbrellaDoorsModel", "ran", "I", false)
  | 23 => ("UmbrellaDoorsModel", "kindNow", "I", false)
  | 24 => ("UmbrellaDoorsModel", "number", "I", false)
  | _ => ("UmbrellaDoorsModel", "tellsV", "I", false)
def tyX12 : Nat → FieldType := fun k => match k with
  | 0 => .int
  | 1 => .array .int
  | 2 => .array .int
  | 3 => .boolean
  | 4 => .array .int
  | 5 => .int
  | 6 => .int
  | 7 => .int
  | 8 => .boolean
  | 9 => .int
  | 10 => .array .int
  | 11 => .array .boolean
  | 12 => .int
  | 13 => .boolean
  | 14 => .array .boolean
  | 15 => .array .boolean
  | 16 => .array .boolean
  | 17 => .long
  | 18 => .long
  | 19 => .array .long
  | 20 => .array .int
  | 21 => .array .int
  | 22 => .int
  | 23 => .int
  | 24 => .int
  | _ => .int
theorem nmX12 : ∀ a, a < 26 → ∀ b, b < 26 → a ≠ b → (TX12 a).2.1 ≠ (TX12 b).2.1 := by decide +kernel
theorem tyX12_ok : ∀ k, k < 26 → parseFieldDescriptor (TX12 k).2.2.1 = some (tyX12 k) := by decide +kernel
abbrev cX12_init : ByteArray := prog_14_method_1_code
def yX12_init : MethodName := ⟨RX12, "<init>", "()V"⟩
abbrev cX12_in : ByteArray := prog_14_method_3_code
def yX12_in : MethodName := ⟨RX12, "in", "(III)Z"⟩
abbrev cX12_isDoor : ByteArray := prog_14_method_4_code
def yX12_isDoor : MethodName := ⟨RX12, "isDoor", "(I)Z"⟩
abbrev cX12_isPerson : ByteArray := prog_14_method_5_code
def yX12_isPerson : MethodName := ⟨RX12, "isPerson", "(I)Z"⟩
abbrev cX12_umbrellas : ByteArray := prog_14_method_6_code
def yX12_umbrellas : MethodName := ⟨RX12, "umbrellas", "()I"⟩
abbrev cX12_keeps : ByteArray := prog_14_method_7_code
def yX12_keeps : MethodName := ⟨RX12, "keeps", "(I)V"⟩
abbrev cX12_goesBackTo : ByteArray := prog_14_method_8_code
def yX12_goesBackTo : MethodName := ⟨RX12, "goesBackTo", "(I)V"⟩
abbrev cX12_stand : ByteArray := prog_14_method_9_code
def yX12_stand : MethodName := ⟨RX12, "stand", "(II)I"⟩
abbrev cX12_feed : ByteArray := prog_14_method_10_code
def yX12_feed : MethodName := ⟨RX12, "feed", "(JI)I"⟩
abbrev cX12_here : ByteArray := prog_14_method_11_code
def yX12_here : MethodName := ⟨RX12, "here", "()I"⟩
abbrev cX12_must : ByteArray := prog_14_method_12_code
def yX12_must : MethodName := ⟨RX12, "must", "(I)V"⟩
abbrev cX12_spells : ByteArray := prog_14_method_13_code
def yX12_spells : MethodName := ⟨RX12, "spells", "(Ljava/lang/String;)V"⟩
abbrev cX12_figures : ByteArray := prog_14_method_14_code
def yX12_figures : MethodName := ⟨RX12, "figures", "()I"⟩
abbrev cX12_among : ByteArray := prog_14_method_15_code
def yX12_among : MethodName := ⟨RX12, "among", "(Ljava/lang/String;)I"⟩
abbrev cX12_emits : ByteArray := prog_14_method_16_code
def yX12_emits : MethodName := ⟨RX12, "emits", "(I)V"⟩
abbrev cX12_factor : ByteArray := prog_14_method_17_code
def yX12_factor : MethodName := ⟨RX12, "factor", "()V"⟩
abbrev cX12_every : ByteArray := prog_14_method_18_code
def yX12_every : MethodName := ⟨RX12, "every", "()V"⟩
abbrev cX12_some : ByteArray := prog_14_method_19_code
def yX12_some : MethodName := ⟨RX12, "some", "()V"⟩
abbrev cX12_much : ByteArray := prog_14_method_20_code
def yX12_much : MethodName := ⟨RX12, "much", "(ILjava/lang/String;)V"⟩
abbrev cX12_tellsHere : ByteArray := prog_14_method_21_code
def yX12_tellsHere : MethodName := ⟨RX12, "tellsHere", "(ILjava/lang/String;)V"⟩
abbrev cX12_clauseOfC : ByteArray := prog_14_method_22_code
def yX12_clauseOfC : MethodName := ⟨RX12, "clauseOfC", "()V"⟩
abbrev cX12_clauseHere : ByteArray := prog_14_method_23_code
def yX12_clauseHere : MethodName := ⟨RX12, "clauseHere", "()V"⟩
abbrev cX12_town : ByteArray := prog_14_method_24_code
def yX12_town : MethodName := ⟨RX12, "town", "()I"⟩
abbrev cX12_tellsOf : ByteArray := prog_14_method_25_code
def yX12_tellsOf : MethodName := ⟨RX12, "tellsOf", "(II)I"⟩
abbrev cX12_looks : ByteArray := prog_14_method_26_code
def yX12_looks : MethodName := ⟨RX12, "looks", "(IIIII)V"⟩
abbrev cX12_rainOf : ByteArray := prog_14_method_27_code
def yX12_rainOf : MethodName := ⟨RX12, "rainOf", "(II)I"⟩
abbrev cX12_told : ByteArray := prog_14_method_28_code
def yX12_told : MethodName := ⟨RX12, "told", "(I)I"⟩
abbrev cX12_person : ByteArray := prog_14_method_29_code
def yX12_person : MethodName := ⟨RX12, "person", "(III)I"⟩
abbrev cX12_step : ByteArray := prog_14_method_30_code
def yX12_step : MethodName := ⟨RX12, "step", "(II)I"⟩
abbrev cX12_doorOf : ByteArray := prog_14_method_31_code
def yX12_doorOf : MethodName := ⟨RX12, "doorOf", "(I)I"⟩
abbrev cX12_otherOf : ByteArray := prog_14_method_32_code
def yX12_otherOf : MethodName := ⟨RX12, "otherOf", "(I)I"⟩
abbrev cX12_doesTake : ByteArray := prog_14_method_33_code
def yX12_doesTake : MethodName := ⟨RX12, "doesTake", "(II)Z"⟩
abbrev cX12_of : ByteArray := prog_14_method_34_code
def yX12_of : MethodName := ⟨RX12, "of", "(II)I"⟩
abbrev cX12_goesAlong : ByteArray := prog_14_method_35_code
def yX12_goesAlong : MethodName := ⟨RX12, "goesAlong", "(I)Z"⟩
abbrev cX12_walksOut : ByteArray := prog_14_method_36_code
def yX12_walksOut : MethodName := ⟨RX12, "walksOut", "(II)V"⟩
abbrev cX12_hourGoes : ByteArray := prog_14_method_37_code
def yX12_hourGoes : MethodName := ⟨RX12, "hourGoes", "(I)V"⟩
abbrev cX12_begins : ByteArray := prog_14_method_38_code
def yX12_begins : MethodName := ⟨RX12, "begins", "()V"⟩
abbrev cX12_go : ByteArray := prog_14_method_39_code
def yX12_go : MethodName := ⟨RX12, "go", "(I)I"⟩
abbrev cX12_row : ByteArray := prog_14_method_40_code
def yX12_row : MethodName := ⟨RX12, "row", "(I)I"⟩
abbrev cX12_hand : ByteArray := prog_14_method_41_code
def yX12_hand : MethodName := ⟨RX12, "hand", "(II)I"⟩
abbrev cX12_allSkies : ByteArray := prog_14_method_42_code
def yX12_allSkies : MethodName := ⟨RX12, "allSkies", "(IIJ)V"⟩
abbrev cX12_meanOf : ByteArray := prog_14_method_43_code
def yX12_meanOf : MethodName := ⟨RX12, "meanOf", "(I)J"⟩
abbrev cX12_power : ByteArray := prog_14_method_44_code
def yX12_power : MethodName := ⟨RX12, "power", "(I)J"⟩
abbrev cX12_divisor : ByteArray := prog_14_method_45_code
def yX12_divisor : MethodName := ⟨RX12, "divisor", "(JJ)J"⟩
abbrev cX12_lowest : ByteArray := prog_14_method_46_code
def yX12_lowest : MethodName := ⟨RX12, "lowest", "(JJI)J"⟩
abbrev cX12_mean : ByteArray := prog_14_method_47_code
def yX12_mean : MethodName := ⟨RX12, "mean", "(III)J"⟩
abbrev cX12_keepsStands : ByteArray := prog_14_method_48_code
def yX12_keepsStands : MethodName := ⟨RX12, "keepsStands", "()V"⟩
abbrev cX12_putsStandsBack : ByteArray := prog_14_method_49_code
def yX12_putsStandsBack : MethodName := ⟨RX12, "putsStandsBack", "()V"⟩
abbrev cX12_least : ByteArray := prog_14_method_50_code
def yX12_least : MethodName := ⟨RX12, "least", "(II)I"⟩
abbrev cX12_start : ByteArray := prog_14_method_51_code
def yX12_start : MethodName := ⟨RX12, "start", "(II)I"⟩
abbrev cX12_rule : ByteArray := prog_14_method_52_code
def yX12_rule : MethodName := ⟨RX12, "rule", "(II)I"⟩
abbrev cX12_gather : ByteArray := prog_14_method_53_code
def yX12_gather : MethodName := ⟨RX12, "gather", "(I)I"⟩
abbrev cX12_penny : ByteArray := prog_14_method_54_code
def yX12_penny : MethodName := ⟨RX12, "penny", "(III)J"⟩
abbrev cX12_cart : ByteArray := prog_14_method_55_code
def yX12_cart : MethodName := ⟨RX12, "cart", "()I"⟩
abbrev cX12_count1 : ByteArray := prog_14_method_56_code
def yX12_count1 : MethodName := ⟨RX12, "count1", "(I)I"⟩
abbrev cX12_isDry : ByteArray := prog_14_method_57_code
def yX12_isDry : MethodName := ⟨RX12, "isDry", "(II)Z"⟩
abbrev cX12_needed : ByteArray := prog_14_method_58_code
def yX12_needed : MethodName := ⟨RX12, "needed", "()I"⟩
abbrev cX12_book : ByteArray := prog_14_method_59_code
def yX12_book : MethodName := ⟨RX12, "book", "(II)I"⟩
abbrev cX12_vanish : ByteArray := prog_14_method_60_code
def yX12_vanish : MethodName := ⟨RX12, "vanish", "(I)I"⟩
abbrev cX12_runs : ByteArray := prog_14_method_61_code
def yX12_runs : MethodName := ⟨RX12, "runs", "(I)V"⟩
abbrev cX12_isUnder : ByteArray := prog_14_method_62_code
def yX12_isUnder : MethodName := ⟨RX12, "isUnder", "(II)Z"⟩
abbrev cX12_plainTakes : ByteArray := prog_14_method_63_code
def yX12_plainTakes : MethodName := ⟨RX12, "plainTakes", "(I)I"⟩
abbrev cX12_takesActs : ByteArray := prog_14_method_64_code
def yX12_takesActs : MethodName := ⟨RX12, "takesActs", "(I)I"⟩
abbrev cX12_plainWalks : ByteArray := prog_14_method_65_code
def yX12_plainWalks : MethodName := ⟨RX12, "plainWalks", "(I)I"⟩
abbrev cX12_backWalks : ByteArray := prog_14_method_66_code
def yX12_backWalks : MethodName := ⟨RX12, "backWalks", "(I)I"⟩
abbrev cX12_walksActs : ByteArray := prog_14_method_67_code
def yX12_walksActs : MethodName := ⟨RX12, "walksActs", "(I)I"⟩
abbrev cX12_plainTells : ByteArray := prog_14_method_68_code
def yX12_plainTells : MethodName := ⟨RX12, "plainTells", "(I)I"⟩
abbrev cX12_tellsActs : ByteArray := prog_14_method_69_code
def yX12_tellsActs : MethodName := ⟨RX12, "tellsActs", "(I)I"⟩
abbrev cX12_act : ByteArray := prog_14_method_70_code
def yX12_act : MethodName := ⟨RX12, "act", "(III)I"⟩
abbrev cX12_trace : ByteArray := prog_14_method_71_code
def yX12_trace : MethodName := ⟨RX12, "trace", "(I)I"⟩
abbrev cX12_as : ByteArray := prog_14_method_72_code
def yX12_as : MethodName := ⟨RX12, "as", "(II)I"⟩
abbrev cX12_image : ByteArray := prog_14_method_73_code
def yX12_image : MethodName := ⟨RX12, "image", "()I"⟩
abbrev cX12_undo : ByteArray := prog_14_method_74_code
def yX12_undo : MethodName := ⟨RX12, "undo", "()I"⟩
abbrev cX12_count : ByteArray := prog_14_method_75_code
def yX12_count : MethodName := ⟨RX12, "count", "(I)I"⟩
def RJ11 : String := "java/lang/Character"
def RJ6 : String := "java/lang/Integer"
abbrev cJ6_bitCount_0f7a4 : ByteArray := prog_16_method_49_code
def yJ6_bitCount_0f7a4 : MethodName := ⟨RJ6, "bitCount", "(I)I"⟩
def RJ9 : String := "java/lang/Math"
abbrev cJ9_abs_067f4 : ByteArray := prog_17_method_61_code
def yJ9_abs_067f4 : MethodName := ⟨RJ9, "abs", "(J)J"⟩
abbrev cJ9_max_7cf53 : ByteArray := prog_17_method_65_code
def yJ9_max_7cf53 : MethodName := ⟨RJ9, "max", "(II)I"⟩
abbrev cJ9_max_f86c9 : ByteArray := prog_17_method_66_code
def yJ9_max_f86c9 : MethodName := ⟨RJ9, "max", "(JJ)J"⟩
abbrev cJ9_min_7cf53 : ByteArray := prog_17_method_69_code
def yJ9_min_7cf53 : MethodName := ⟨RJ9, "min", "(II)I"⟩
def RJ0 : String := "java/lang/String"
abbrev cJ0_length_8abf5 : ByteArray := prog_18_method_54_code
def yJ0_length_8abf5 : MethodName := ⟨RJ0, "length", "()I"⟩
abbrev cJ0_charAt_5068e : ByteArray := prog_18_method_56_code
def yJ0_charAt_5068e : MethodName := ⟨RJ0, "charAt", "(I)C"⟩
abbrev cJ0_indexOf_0f7a4 : ByteArray := prog_18_method_79_code
def yJ0_indexOf_0f7a4 : MethodName := ⟨RJ0, "indexOf", "(I)I"⟩
abbrev cJ0_indexOf_7cf53 : ByteArray := prog_18_method_80_code
def yJ0_indexOf_7cf53 : MethodName := ⟨RJ0, "indexOf", "(II)I"⟩
abbrev cJ0_coder_7d493 : ByteArray := prog_18_method_152_code
def yJ0_coder_7d493 : MethodName := ⟨RJ0, "coder", "()B"⟩
abbrev cJ0_isLatin1_aae02 : ByteArray := prog_18_method_154_code
def yJ0_isLatin1_aae02 : MethodName := ⟨RJ0, "isLatin1", "()Z"⟩
abbrev cJ0_checkIndex_df160 : ByteArray := prog_18_method_155_code
def yJ0_checkIndex_df160 : MethodName := ⟨RJ0, "checkIndex", "(II)V"⟩
def RJ1 : String := "java/lang/StringLatin1"
abbrev cJ1_charAt_3b067 : ByteArray := prog_19_method_2_code
def yJ1_charAt_3b067 : MethodName := ⟨RJ1, "charAt", "([BI)C"⟩
abbrev cJ1_canEncode_9a6ad : ByteArray := prog_19_method_4_code
def yJ1_canEncode_9a6ad : MethodName := ⟨RJ1, "canEncode", "(I)Z"⟩
abbrev cJ1_indexOf_4cfef : ByteArray := prog_19_method_22_code
def yJ1_indexOf_4cfef : MethodName := ⟨RJ1, "indexOf", "([BIII)I"⟩
abbrev cJ1_indexOfChar_4cfef : ByteArray := prog_19_method_23_code
def yJ1_indexOfChar_4cfef : MethodName := ⟨RJ1, "indexOfChar", "([BIII)I"⟩
def RJ2 : String := "java/lang/StringUTF16"
def RJ10 : String := "java/lang/System"
def RJ3 : String := "jdk/internal/util/Preconditions"
abbrev cJ3_checkIndex_8e157 : ByteArray := prog_22_method_11_code
def yJ3_checkIndex_8e157 : MethodName := ⟨RJ3, "checkIndex", "(IILjava/util/function/BiFunction;)I"⟩
def RL : String := "UmbrellaDoorsLaw"
abbrev cL_law : ByteArray := code
def yL_law : MethodName := ⟨RL, "law", "([I)Z"⟩
abbrev vwCl : List vw_C := [(RX0, TX0, 5), (RX1, TX1, 5), (RX2, TX2, 5), (RX3, TX3, 5), (RX4, TX4, 5), (RX5, TX5, 5), (RX6, TX6, 13), (RX7, TX7, 14), (RX8, TX8, 2), (RX9, TX9, 5), (RX10, TX10, 9), (RX11, TX11, 9), (RX12, TX12, 26)]
theorem am_in0 : ∀ w ∈ u_ws RX0 TX0 5, w ∈ lw_tbl := by decide +kernel
theorem am_in1 : ∀ w ∈ u_ws RX1 TX1 5, w ∈ lw_tbl := by decide +kernel
theorem am_in2 : ∀ w ∈ u_ws RX2 TX2 5, w ∈ lw_tbl := by decide +kernel
theorem am_in3 : ∀ w ∈ u_ws RX3 TX3 5, w ∈ lw_tbl := by decide +kernel
theorem am_in4 : ∀ w ∈ u_ws RX4 TX4 5, w ∈ lw_tbl := by decide +kernel
theorem am_in5 : ∀ w ∈ u_ws RX5 TX5 5, w ∈ lw_tbl := by decide +kernel
theorem am_in6 : ∀ w ∈ u_ws RX6 TX6 13, w ∈ lw_tbl := by decide +kernel
theorem am_in7 : ∀ w ∈ u_ws RX7 TX7 14, w ∈ lw_tbl := by decide +kernel
theorem am_in8 : ∀ w ∈ u_ws RX8 TX8 2, w ∈ lw_tbl := by decide +kernel
theorem am_in9 : ∀ w ∈ u_ws RX9 TX9 5, w ∈ lw_tbl := by decide +kernel
theorem am_in10 : ∀ w ∈ u_ws RX10 TX10 9, w ∈ lw_tbl := by decide +kernel
theorem am_in11 : ∀ w ∈ u_ws RX11 TX11 9, w ∈ lw_tbl := by decide +kernel
theorem am_in12 : ∀ w ∈ u_ws RX12 TX12 26, w ∈ lw_tbl := by decide +kernel
