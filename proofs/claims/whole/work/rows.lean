section
-- ===== PART A: goes FIRST, ahead of the names: the tables' words, and 'selects' of the private methods out of them =====
/-- a private method of a class that the tables say can be made, by its rows of tables_1 -/
def lw_okq (q : MethodName × Nat) : Prop := (q.1.cls ≠ "java/lang/invoke/MethodHandle" ∧ q.1.cls ≠ "java/lang/invoke/VarHandle") ∧ Cond.instantiable q.1.cls q.2 ∈ tables_1 ∧ Cond.privateMethod q.1 ∈ tables_1 ∧ Cond.instanceMethod q.1 ∈ tables_1
theorem lw_p0 : lw_okq (⟨"DataMaker$Stock", "makeSize", "(I)V"⟩, 10) := ⟨⟨by decide +kernel, by decide +kernel⟩, List.mem_of_getElem? (i := 68) (by decide +kernel), List.mem_of_getElem? (i := 268) (by decide +kernel), List.mem_of_getElem? (i := 269) (by decide +kernel)⟩
theorem lw_p1 : lw_okq (⟨"DataMaker$Stock", "extend", "(LDataMaker$Value;I)V"⟩, 10) := ⟨⟨by decide +kernel, by decide +kernel⟩, List.mem_of_getElem? (i := 68) (by decide +kernel), List.mem_of_getElem? (i := 284) (by decide +kernel), List.mem_of_getElem? (i := 285) (by decide +kernel)⟩
theorem lw_p2 : lw_okq (⟨"DataMaker$Stock", "isHopeless", "(LDataMaker$Value;Z)Z"⟩, 10) := ⟨⟨by decide +kernel, by decide +kernel⟩, List.mem_of_getElem? (i := 68) (by decide +kernel), List.mem_of_getElem? (i := 296) (by decide +kernel), List.mem_of_getElem? (i := 297) (by decide +kernel)⟩
theorem lw_p3 : lw_okq (⟨"DataMaker$Value", "partsDiffer", "()I"⟩, 16) := ⟨⟨by decide +kernel, by decide +kernel⟩, List.mem_of_getElem? (i := 75) (by decide +kernel), List.mem_of_getElem? (i := 308) (by decide +kernel), List.mem_of_getElem? (i := 309) (by decide +kernel)⟩
theorem lw_p4 : lw_okq (⟨"DataMaker$Stock", "keep", "(LDataMaker$Value;)V"⟩, 10) := ⟨⟨by decide +kernel, by decide +kernel⟩, List.mem_of_getElem? (i := 68) (by decide +kernel), List.mem_of_getElem? (i := 312) (by decide +kernel), List.mem_of_getElem? (i := 313) (by decide +kernel)⟩
theorem lw_p5 : lw_okq (⟨"DataMaker$Stock", "extendByNumbers", "(LDataMaker$Value;I)V"⟩, 10) := ⟨⟨by decide +kernel, by decide +kernel⟩, List.mem_of_getElem? (i := 68) (by decide +kernel), List.mem_of_getElem? (i := 320) (by decide +kernel), List.mem_of_getElem? (i := 321) (by decide +kernel)⟩
theorem lw_p6 : lw_okq (⟨"DataMaker$Stock", "copyToExtend", "(LDataMaker$Value;)LDataMaker$Value;"⟩, 10) := ⟨⟨by decide +kernel, by decide +kernel⟩, List.mem_of_getElem? (i := 68) (by decide +kernel), List.mem_of_getElem? (i := 324) (by decide +kernel), List.mem_of_getElem? (i := 325) (by decide +kernel)⟩
theorem lw_p7 : lw_okq (⟨"DataMaker$Value", "joinInts", "(III)V"⟩, 16) := ⟨⟨by decide +kernel, by decide +kernel⟩, List.mem_of_getElem? (i := 75) (by decide +kernel), List.mem_of_getElem? (i := 332) (by decide +kernel), List.mem_of_getElem? (i := 333) (by decide +kernel)⟩
theorem lw_p8 : lw_okq (⟨"DataMaker$Stock", "extendByParts", "(LDataMaker$Value;III)V"⟩, 10) := ⟨⟨by decide +kernel, by decide +kernel⟩, List.mem_of_getElem? (i := 68) (by decide +kernel), List.mem_of_getElem? (i := 336) (by decide +kernel), List.mem_of_getElem? (i := 337) (by decide +kernel)⟩
theorem lw_p9 : lw_okq (⟨"DataMaker$Stock", "closeSize", "(I)V"⟩, 10) := ⟨⟨by decide +kernel, by decide +kernel⟩, List.mem_of_getElem? (i := 68) (by decide +kernel), List.mem_of_getElem? (i := 359) (by decide +kernel), List.mem_of_getElem? (i := 360) (by decide +kernel)⟩
theorem lw_p10 : lw_okq (⟨"DataMaker$Code", "appendValue", "(LDataMaker$Value;I)V"⟩, 2) := ⟨⟨by decide +kernel, by decide +kernel⟩, List.mem_of_getElem? (i := 208) (by decide +kernel), List.mem_of_getElem? (i := 376) (by decide +kernel), List.mem_of_getElem? (i := 377) (by decide +kernel)⟩
theorem lw_p11 : lw_okq (⟨"DataMaker$Code", "append", "(I)V"⟩, 2) := ⟨⟨by decide +kernel, by decide +kernel⟩, List.mem_of_getElem? (i := 208) (by decide +kernel), List.mem_of_getElem? (i := 380) (by decide +kernel), List.mem_of_getElem? (i := 381) (by decide +kernel)⟩
theorem lw_p12 : lw_okq (⟨"java/lang/Throwable", "fillInStackTrace", "(I)Ljava/lang/Throwable;"⟩, 6) := ⟨⟨by decide +kernel, by decide +kernel⟩, List.mem_of_getElem? (i := 439) (by decide +kernel), List.mem_of_getElem? (i := 437) (by decide +kernel), List.mem_of_getElem? (i := 438) (by decide +kernel)⟩
theorem lw_p13 : lw_okq (⟨"DataMaker", "forgetValues", "()V"⟩, 6) := ⟨⟨by decide +kernel, by decide +kernel⟩, List.mem_of_getElem? (i := 19) (by decide +kernel), List.mem_of_getElem? (i := 469) (by decide +kernel), List.mem_of_getElem? (i := 470) (by decide +kernel)⟩
theorem lw_p14 : lw_okq (⟨"DataMaker", "requireType", "(I)V"⟩, 6) := ⟨⟨by decide +kernel, by decide +kernel⟩, List.mem_of_getElem? (i := 19) (by decide +kernel), List.mem_of_getElem? (i := 505) (by decide +kernel), List.mem_of_getElem? (i := 506) (by decide +kernel)⟩
theorem lw_p15 : lw_okq (⟨"DataMaker$Grammar", "isParameter", "(I)Z"⟩, 8) := ⟨⟨by decide +kernel, by decide +kernel⟩, List.mem_of_getElem? (i := 27) (by decide +kernel), List.mem_of_getElem? (i := 533) (by decide +kernel), List.mem_of_getElem? (i := 534) (by decide +kernel)⟩
def lw_privs_1 : List (MethodName × Nat) := [(⟨"DataMaker$Stock", "makeSize", "(I)V"⟩, 10), (⟨"DataMaker$Stock", "extend", "(LDataMaker$Value;I)V"⟩, 10), (⟨"DataMaker$Stock", "isHopeless", "(LDataMaker$Value;Z)Z"⟩, 10), (⟨"DataMaker$Value", "partsDiffer", "()I"⟩, 16), (⟨"DataMaker$Stock", "keep", "(LDataMaker$Value;)V"⟩, 10), (⟨"DataMaker$Stock", "extendByNumbers", "(LDataMaker$Value;I)V"⟩, 10), (⟨"DataMaker$Stock", "copyToExtend", "(LDataMaker$Value;)LDataMaker$Value;"⟩, 10), (⟨"DataMaker$Value", "joinInts", "(III)V"⟩, 16), (⟨"DataMaker$Stock", "extendByParts", "(LDataMaker$Value;III)V"⟩, 10), (⟨"DataMaker$Stock", "closeSize", "(I)V"⟩, 10), (⟨"DataMaker$Code", "appendValue", "(LDataMaker$Value;I)V"⟩, 2), (⟨"DataMaker$Code", "append", "(I)V"⟩, 2), (⟨"java/lang/Throwable", "fillInStackTrace", "(I)Ljava/lang/Throwable;"⟩, 6), (⟨"DataMaker", "forgetValues", "()V"⟩, 6), (⟨"DataMaker", "requireType", "(I)V"⟩, 6), (⟨"DataMaker$Grammar", "isParameter", "(I)Z"⟩, 8)]
theorem lw_r1 : ∀ q ∈ lw_privs_1, lw_okq q := List.forall_mem_cons.mpr ⟨lw_p0, List.forall_mem_cons.mpr ⟨lw_p1, List.forall_mem_cons.mpr ⟨lw_p2, List.forall_mem_cons.mpr ⟨lw_p3, List.forall_mem_cons.mpr ⟨lw_p4, List.forall_mem_cons.mpr ⟨lw_p5, List.forall_mem_cons.mpr ⟨lw_p6, List.forall_mem_cons.mpr ⟨lw_p7, List.forall_mem_cons.mpr ⟨lw_p8, List.forall_mem_cons.mpr ⟨lw_p9, List.forall_mem_cons.mpr ⟨lw_p10, List.forall_mem_cons.mpr ⟨lw_p11, List.forall_mem_cons.mpr ⟨lw_p12, List.forall_mem_cons.mpr ⟨lw_p13, List.forall_mem_cons.mpr ⟨lw_p14, List.forall_mem_cons.mpr ⟨lw_p15, fun _ h => absurd h List.not_mem_nil⟩⟩⟩⟩⟩⟩⟩⟩⟩⟩⟩⟩⟩⟩⟩⟩
theorem lw_p16 : lw_okq (⟨"DataMaker", "requireSize", "(I)V"⟩, 6) := ⟨⟨by decide +kernel, by decide +kernel⟩, List.mem_of_getElem? (i := 19) (by decide +kernel), List.mem_of_getElem? (i := 552) (by decide +kernel), List.mem_of_getElem? (i := 553) (by decide +kernel)⟩
theorem lw_p17 : lw_okq (⟨"DataMaker", "requireKnown", "(I)V"⟩, 6) := ⟨⟨by decide +kernel, by decide +kernel⟩, List.mem_of_getElem? (i := 19) (by decide +kernel), List.mem_of_getElem? (i := 557) (by decide +kernel), List.mem_of_getElem? (i := 558) (by decide +kernel)⟩
theorem lw_p18 : lw_okq (⟨"DataMaker", "requireProperty", "(I)V"⟩, 6) := ⟨⟨by decide +kernel, by decide +kernel⟩, List.mem_of_getElem? (i := 19) (by decide +kernel), List.mem_of_getElem? (i := 577) (by decide +kernel), List.mem_of_getElem? (i := 578) (by decide +kernel)⟩
theorem lw_p19 : lw_okq (⟨"DataMaker$Told", "parseValue", "(I)LDataMaker$Value;"⟩, 6) := ⟨⟨by decide +kernel, by decide +kernel⟩, List.mem_of_getElem? (i := 180) (by decide +kernel), List.mem_of_getElem? (i := 643) (by decide +kernel), List.mem_of_getElem? (i := 644) (by decide +kernel)⟩
theorem lw_p20 : lw_okq (⟨"DataMaker$Told", "next", "()I"⟩, 6) := ⟨⟨by decide +kernel, by decide +kernel⟩, List.mem_of_getElem? (i := 180) (by decide +kernel), List.mem_of_getElem? (i := 647) (by decide +kernel), List.mem_of_getElem? (i := 648) (by decide +kernel)⟩
theorem lw_p21 : lw_okq (⟨"DataMaker$Told", "parseArgument", "(LDataMaker$Value;I)Z"⟩, 6) := ⟨⟨by decide +kernel, by decide +kernel⟩, List.mem_of_getElem? (i := 180) (by decide +kernel), List.mem_of_getElem? (i := 655) (by decide +kernel), List.mem_of_getElem? (i := 656) (by decide +kernel)⟩
theorem lw_p22 : lw_okq (⟨"DataMaker", "chosen", "()LDataMaker$Value;"⟩, 6) := ⟨⟨by decide +kernel, by decide +kernel⟩, List.mem_of_getElem? (i := 19) (by decide +kernel), List.mem_of_getElem? (i := 682) (by decide +kernel), List.mem_of_getElem? (i := 683) (by decide +kernel)⟩
theorem lw_p23 : lw_okq (⟨"DataMaker$Reductions", "addPartsOf", "(LDataMaker$Value;II)V"⟩, 2) := ⟨⟨by decide +kernel, by decide +kernel⟩, List.mem_of_getElem? (i := 222) (by decide +kernel), List.mem_of_getElem? (i := 738) (by decide +kernel), List.mem_of_getElem? (i := 739) (by decide +kernel)⟩
theorem lw_p24 : lw_okq (⟨"DataMaker$Reductions", "has", "(I)Z"⟩, 2) := ⟨⟨by decide +kernel, by decide +kernel⟩, List.mem_of_getElem? (i := 222) (by decide +kernel), List.mem_of_getElem? (i := 743) (by decide +kernel), List.mem_of_getElem? (i := 744) (by decide +kernel)⟩
theorem lw_p25 : lw_okq (⟨"DataMaker$Reductions", "append", "(LDataMaker$Value;)V"⟩, 2) := ⟨⟨by decide +kernel, by decide +kernel⟩, List.mem_of_getElem? (i := 222) (by decide +kernel), List.mem_of_getElem? (i := 751) (by decide +kernel), List.mem_of_getElem? (i := 752) (by decide +kernel)⟩
theorem lw_p26 : lw_okq (⟨"DataMakerModel", "change", "()V"⟩, 25) := ⟨⟨by decide +kernel, by decide +kernel⟩, List.mem_of_getElem? (i := 779) (by decide +kernel), List.mem_of_getElem? (i := 871) (by decide +kernel), List.mem_of_getElem? (i := 872) (by decide +kernel)⟩
theorem lw_p27 : lw_okq (⟨"DataMakerModel", "fail", "(I)I"⟩, 25) := ⟨⟨by decide +kernel, by decide +kernel⟩, List.mem_of_getElem? (i := 779) (by decide +kernel), List.mem_of_getElem? (i := 879) (by decide +kernel), List.mem_of_getElem? (i := 880) (by decide +kernel)⟩
theorem lw_p28 : lw_okq (⟨"DataMakerModel", "isType", "(I)Z"⟩, 25) := ⟨⟨by decide +kernel, by decide +kernel⟩, List.mem_of_getElem? (i := 779) (by decide +kernel), List.mem_of_getElem? (i := 887) (by decide +kernel), List.mem_of_getElem? (i := 888) (by decide +kernel)⟩
theorem lw_p29 : lw_okq (⟨"DataMakerModel", "make", "()V"⟩, 25) := ⟨⟨by decide +kernel, by decide +kernel⟩, List.mem_of_getElem? (i := 779) (by decide +kernel), List.mem_of_getElem? (i := 902) (by decide +kernel), List.mem_of_getElem? (i := 903) (by decide +kernel)⟩
theorem lw_p30 : lw_okq (⟨"DataMakerModel", "write", "(II)Z"⟩, 25) := ⟨⟨by decide +kernel, by decide +kernel⟩, List.mem_of_getElem? (i := 779) (by decide +kernel), List.mem_of_getElem? (i := 906) (by decide +kernel), List.mem_of_getElem? (i := 907) (by decide +kernel)⟩
theorem lw_p31 : lw_okq (⟨"DataMakerModel", "choices", "(II)[[I"⟩, 25) := ⟨⟨by decide +kernel, by decide +kernel⟩, List.mem_of_getElem? (i := 779) (by decide +kernel), List.mem_of_getElem? (i := 910) (by decide +kernel), List.mem_of_getElem? (i := 911) (by decide +kernel)⟩
def lw_privs_2 : List (MethodName × Nat) := [(⟨"DataMaker", "requireSize", "(I)V"⟩, 6), (⟨"DataMaker", "requireKnown", "(I)V"⟩, 6), (⟨"DataMaker", "requireProperty", "(I)V"⟩, 6), (⟨"DataMaker$Told", "parseValue", "(I)LDataMaker$Value;"⟩, 6), (⟨"DataMaker$Told", "next", "()I"⟩, 6), (⟨"DataMaker$Told", "parseArgument", "(LDataMaker$Value;I)Z"⟩, 6), (⟨"DataMaker", "chosen", "()LDataMaker$Value;"⟩, 6), (⟨"DataMaker$Reductions", "addPartsOf", "(LDataMaker$Value;II)V"⟩, 2), (⟨"DataMaker$Reductions", "has", "(I)Z"⟩, 2), (⟨"DataMaker$Reductions", "append", "(LDataMaker$Value;)V"⟩, 2), (⟨"DataMakerModel", "change", "()V"⟩, 25), (⟨"DataMakerModel", "fail", "(I)I"⟩, 25), (⟨"DataMakerModel", "isType", "(I)Z"⟩, 25), (⟨"DataMakerModel", "make", "()V"⟩, 25), (⟨"DataMakerModel", "write", "(II)Z"⟩, 25), (⟨"DataMakerModel", "choices", "(II)[[I"⟩, 25)]
theorem lw_r2 : ∀ q ∈ lw_privs_2, lw_okq q := List.forall_mem_cons.mpr ⟨lw_p16, List.forall_mem_cons.mpr ⟨lw_p17, List.forall_mem_cons.mpr ⟨lw_p18, List.forall_mem_cons.mpr ⟨lw_p19, List.forall_mem_cons.mpr ⟨lw_p20, List.forall_mem_cons.mpr ⟨lw_p21, List.forall_mem_cons.mpr ⟨lw_p22, List.forall_mem_cons.mpr ⟨lw_p23, List.forall_mem_cons.mpr ⟨lw_p24, List.forall_mem_cons.mpr ⟨lw_p25, List.forall_mem_cons.mpr ⟨lw_p26, List.forall_mem_cons.mpr ⟨lw_p27, List.forall_mem_cons.mpr ⟨lw_p28, List.forall_mem_cons.mpr ⟨lw_p29, List.forall_mem_cons.mpr ⟨lw_p30, List.forall_mem_cons.mpr ⟨lw_p31, fun _ h => absurd h List.not_mem_nil⟩⟩⟩⟩⟩⟩⟩⟩⟩⟩⟩⟩⟩⟩⟩⟩
theorem lw_p32 : lw_okq (⟨"DataMakerModel", "value", "(II)I"⟩, 25) := ⟨⟨by decide +kernel, by decide +kernel⟩, List.mem_of_getElem? (i := 779) (by decide +kernel), List.mem_of_getElem? (i := 914) (by decide +kernel), List.mem_of_getElem? (i := 915) (by decide +kernel)⟩
theorem lw_p33 : lw_okq (⟨"DataMakerModel", "look", "([IIII)I"⟩, 25) := ⟨⟨by decide +kernel, by decide +kernel⟩, List.mem_of_getElem? (i := 779) (by decide +kernel), List.mem_of_getElem? (i := 924) (by decide +kernel), List.mem_of_getElem? (i := 925) (by decide +kernel)⟩
theorem lw_p34 : lw_okq (⟨"DataMakerModel", "isTrue", "(I[IIIII)Z"⟩, 25) := ⟨⟨by decide +kernel, by decide +kernel⟩, List.mem_of_getElem? (i := 779) (by decide +kernel), List.mem_of_getElem? (i := 934) (by decide +kernel), List.mem_of_getElem? (i := 935) (by decide +kernel)⟩
theorem lw_p35 : lw_okq (⟨"DataMakerModel", "end", "([II)I"⟩, 25) := ⟨⟨by decide +kernel, by decide +kernel⟩, List.mem_of_getElem? (i := 779) (by decide +kernel), List.mem_of_getElem? (i := 938) (by decide +kernel), List.mem_of_getElem? (i := 939) (by decide +kernel)⟩
theorem lw_p36 : lw_okq (⟨"DataMakerModel", "asks", "(II)Z"⟩, 25) := ⟨⟨by decide +kernel, by decide +kernel⟩, List.mem_of_getElem? (i := 779) (by decide +kernel), List.mem_of_getElem? (i := 946) (by decide +kernel), List.mem_of_getElem? (i := 947) (by decide +kernel)⟩
theorem lw_p37 : lw_okq (⟨"DataMakerModel", "upTo", "(II)I"⟩, 25) := ⟨⟨by decide +kernel, by decide +kernel⟩, List.mem_of_getElem? (i := 779) (by decide +kernel), List.mem_of_getElem? (i := 950) (by decide +kernel), List.mem_of_getElem? (i := 951) (by decide +kernel)⟩
theorem lw_p38 : lw_okq (⟨"DataMakerModel", "isTrueOf", "(II)Z"⟩, 25) := ⟨⟨by decide +kernel, by decide +kernel⟩, List.mem_of_getElem? (i := 779) (by decide +kernel), List.mem_of_getElem? (i := 962) (by decide +kernel), List.mem_of_getElem? (i := 963) (by decide +kernel)⟩
theorem lw_p39 : lw_okq (⟨"DataMakerModel", "choose", "(II)V"⟩, 25) := ⟨⟨by decide +kernel, by decide +kernel⟩, List.mem_of_getElem? (i := 779) (by decide +kernel), List.mem_of_getElem? (i := 970) (by decide +kernel), List.mem_of_getElem? (i := 971) (by decide +kernel)⟩
theorem lw_p40 : lw_okq (⟨"DataMakerModel", "find", "(I[II)I"⟩, 25) := ⟨⟨by decide +kernel, by decide +kernel⟩, List.mem_of_getElem? (i := 779) (by decide +kernel), List.mem_of_getElem? (i := 988) (by decide +kernel), List.mem_of_getElem? (i := 989) (by decide +kernel)⟩
theorem lw_p41 : lw_okq (⟨"DataMakerModel", "has", "()Z"⟩, 25) := ⟨⟨by decide +kernel, by decide +kernel⟩, List.mem_of_getElem? (i := 779) (by decide +kernel), List.mem_of_getElem? (i := 996) (by decide +kernel), List.mem_of_getElem? (i := 997) (by decide +kernel)⟩
theorem lw_p42 : lw_okq (⟨"DataMakerModel", "current", "()I"⟩, 25) := ⟨⟨by decide +kernel, by decide +kernel⟩, List.mem_of_getElem? (i := 779) (by decide +kernel), List.mem_of_getElem? (i := 1000) (by decide +kernel), List.mem_of_getElem? (i := 1001) (by decide +kernel)⟩
theorem lw_p43 : lw_okq (⟨"DataMakerModel", "findReductions", "()V"⟩, 25) := ⟨⟨by decide +kernel, by decide +kernel⟩, List.mem_of_getElem? (i := 779) (by decide +kernel), List.mem_of_getElem? (i := 1028) (by decide +kernel), List.mem_of_getElem? (i := 1029) (by decide +kernel)⟩
theorem lw_p44 : lw_okq (⟨"DataMakerModel", "add", "(I)V"⟩, 25) := ⟨⟨by decide +kernel, by decide +kernel⟩, List.mem_of_getElem? (i := 779) (by decide +kernel), List.mem_of_getElem? (i := 1032) (by decide +kernel), List.mem_of_getElem? (i := 1033) (by decide +kernel)⟩
def lw_privs_3 : List (MethodName × Nat) := [(⟨"DataMakerModel", "value", "(II)I"⟩, 25), (⟨"DataMakerModel", "look", "([IIII)I"⟩, 25), (⟨"DataMakerModel", "isTrue", "(I[IIIII)Z"⟩, 25), (⟨"DataMakerModel", "end", "([II)I"⟩, 25), (⟨"DataMakerModel", "asks", "(II)Z"⟩, 25), (⟨"DataMakerModel", "upTo", "(II)I"⟩, 25), (⟨"DataMakerModel", "isTrueOf", "(II)Z"⟩, 25), (⟨"DataMakerModel", "choose", "(II)V"⟩, 25), (⟨"DataMakerModel", "find", "(I[II)I"⟩, 25), (⟨"DataMakerModel", "has", "()Z"⟩, 25), (⟨"DataMakerModel", "current", "()I"⟩, 25), (⟨"DataMakerModel", "findReductions", "()V"⟩, 25), (⟨"DataMakerModel", "add", "(I)V"⟩, 25)]
theorem lw_r3 : ∀ q ∈ lw_privs_3, lw_okq q := List.forall_mem_cons.mpr ⟨lw_p32, List.forall_mem_cons.mpr ⟨lw_p33, List.forall_mem_cons.mpr ⟨lw_p34, List.forall_mem_cons.mpr ⟨lw_p35, List.forall_mem_cons.mpr ⟨lw_p36, List.forall_mem_cons.mpr ⟨lw_p37, List.forall_mem_cons.mpr ⟨lw_p38, List.forall_mem_cons.mpr ⟨lw_p39, List.forall_mem_cons.mpr ⟨lw_p40, List.forall_mem_cons.mpr ⟨lw_p41, List.forall_mem_cons.mpr ⟨lw_p42, List.forall_mem_cons.mpr ⟨lw_p43, List.forall_mem_cons.mpr ⟨lw_p44, fun _ h => absurd h List.not_mem_nil⟩⟩⟩⟩⟩⟩⟩⟩⟩⟩⟩⟩⟩
def lw_privs : List (MethodName × Nat) := lw_privs_1 ++ (lw_privs_2 ++ (lw_privs_3))
def lw_tbl : List Cond := k2_sels lw_privs ++ tables_1
theorem lw_privs_ok : ∀ q ∈ lw_privs, lw_okq q := by
  show ∀ q ∈ lw_privs_1 ++ (lw_privs_2 ++ (lw_privs_3)), lw_okq q
  exact List.forall_mem_append.mpr ⟨lw_r1, List.forall_mem_append.mpr ⟨lw_r2, lw_r3⟩⟩
/-- the streams that the claim lets the run draw from -/
abbrev lw_cs : List Choice := [Jvm.Choice.named "NaN.bits"]
theorem lw_bits : nanBits ∈ lw_cs := by first | decide | exact List.mem_cons_self | simp [lw_cs, nanBits]
end
section
/-! ===== BEGIN words of one list among another's, by their places ===== -/
theorem goodIn_r {big : List Cond} (ws : List Cond) (ps : List Nat) (hp : ws = ps.filterMap (fun i => big[i]?)) (h : ws.all goodWord = true) : GoodIn big ws := by
  intro w hw
  have h1 := List.all_eq_true.mp h w hw
  rw [hp] at hw
  obtain ⟨i, -, hi⟩ := List.mem_filterMap.mp hw
  have hm : w ∈ big := by first | exact List.mem_of_getElem? hi | exact List.getElem?_mem hi
  exact ⟨hm, good_of_word h1⟩
theorem goodIn_app {big a b : List Cond} (ha : GoodIn big a) (hb : GoodIn big b) : GoodIn big (a ++ b) := fun w h => (List.mem_append.mp h).elim (ha w) (hb w)
theorem goodIn_ca {big a b : List Cond} {c : Cond} (ha : GoodIn big (c :: a)) (hb : GoodIn big b) : GoodIn big (c :: (a ++ b)) := fun w h => (List.mem_cons.mp h).elim (fun e => ha w (List.mem_cons.mpr (Or.inl e))) (fun h => (List.mem_append.mp h).elim (fun h => ha w (List.mem_cons.mpr (Or.inr h))) (hb w))
theorem goodIn_sub {big ws : List Cond} (hm : ∀ w ∈ ws, w ∈ big) (h : ws.all goodWord = true) : GoodIn big ws := fun w hw => ⟨hm w hw, good_of_word (List.all_eq_true.mp h w hw)⟩
/-! ===== END ===== -/

/-! ===== BEGIN exceptions that leave a method, and their catching by the caller (launches without stack traces) ===== -/
section VXA
/-! The laws vx_back, vx_callV, vx_callS, vx_callSW, vx_throw0, vx_throwS follow proofs of the library, with one case more: JvmDerived/Free/Laws.lean (Back.of_free), Shelf42/LK1.lean (callV, callS), Shelf/KitTraced.lean (throwNew0V, throwNewS). -/
/-- where a method has thrown q: the class by its name, the cell, what was written, the world -/
def vx_T (XC : String → State → State → Prop) (st : State) (q : Addr) (t : State) (mc ms : Nat) (free : Addr → Prop) : Prop :=
  ∃ (E : String) (ce : Cell) (L : List Loc), XC E st t ∧ t.heap[q]? = some ce ∧ ce.vm = .none ∧ st.vm.findClass E = some ce.cls ∧ st.WarmedH t.vm ∧ st.sameButNew ({ t with vm := st.vm } : State) L mc ms ∧ ∀ z ∈ L, free z.base
def vx_Q (Qc : Array Value → State → Outcome → State → Prop) (XC : String → State → State → Prop) (mc ms : Nat) (free : Addr → Prop) : Array Value → State → Outcome → State → Prop := fun a st o t =>
  (Qc a st o t ∧ ∃ L, FrameEnd st o t L mc ms ∧ ∀ q ∈ L, free q.base) ∨ ∃ q, o = .threw q ∧ vx_T XC st q t mc ms free
/-- a callee that returns or throws -/
def vx_Met (l : Launch) (y : MethodName) (ws : List Cond) (rm : Room) (Pc : Array Value → State → Prop) (Qc : Array Value → State → Outcome → State → Prop) (XC : String → State → State → Prop) (mc ms : Nat) (free : Addr → Prop) : Prop :=
  MetFree l y (headSpec ws rm) Pc (fun _ _ _ _ _ => True) (vx_Q Qc XC mc ms free)
def vx_Post (XC : String → State → State → Prop) (mc ms : Nat) (free : Addr → Prop) : Pt → Array Value → Addr → Pt → Prop := fun A a q B =>
  ∃ (g : JFrame) (mk : MethodId) (t : State) (L : List Loc) (E : String) (ce : Cell), B.U.heap = t.heap ∧ B.U.vm = t.vm ∧ XC E (A.U.calling g mk a) t ∧ t.heap[q]? = some ce ∧ ce.vm = .none ∧ A.U.vm.findClass E = some ce.cls ∧ B.locs = A.locs ++ L ∧ (∀ z ∈ L, free z.base) ∧ B.cells = A.cells + mc ∧ B.slots = A.slots + ms
def vx_Back (l : Launch) (R : Room) (p : Program) (e : Env) (below : List Frame) (s : State) (sargs : Array Value) (y : MethodName) (len W9 : Nat)
    (Pre : Pt → Array Value → Prop) (Post : Pt → Array Value → Option Value → Pt → Prop) (PostX : Pt → Array Value → Addr → Pt → Prop) : Prop :=
  ∀ (m : MethodId) (meth : Method) (c : Code) (A : Pt) (g : JFrame) (ig : Instr) (mk : MethodId) (a : Array Value),
    Stand p l e R s m sargs below meth c A.U A.locs A.cells A.slots → g.method = m → g.locals.size = c.maxLocals → decode c.code g.pc = .ok (ig, len) →
    2 * g.monitorRoom + (g.stack.map fun v => v.category).sum ≤ W9 → A.U.methodNamed? y = some mk → Pre A a →
    (∃ (v : Option Value) (B : Pt), Stand p l e R s m sargs below meth c B.U B.locs B.cells B.slots ∧ Post A a v B ∧
      Steps p.tables e below (doInvoke e (A.U.setTop g) [] mk a).1 (B.U.setTop { g with pc := g.pc + len, stack := v.toList ++ g.stack })) ∨
    (∃ (q : Addr) (B : Pt), Stand p l e R s m sargs below meth c B.U B.locs B.cells B.slots ∧ PostX A a q B ∧
      Steps p.tables e below (doInvoke e (A.U.setTop g) [] mk a).1 ((B.U.setTop g).pushFrame (.throwing q)))
section Payer
variable {l : Launch} {R : Room} {p : Program} {e : Env} {below : List Frame} {s : State} {sargs : Array Value} {y : MethodName} {len W9 : Nat}
theorem vx_back {ws : List Cond} {rm : Room} {Pc : Array Value → State → Prop} {Qc : Array Value → State → Outcome → State → Prop} {XC : String → State → State → Prop} {mc ms : Nat} {free : Addr → Prop} {bytes : ByteArray} {maxL : Nat} {ret : Option FieldType}
    (hM : vx_Met l y ws rm Pc Qc XC mc ms free) (hblind : FrameBlind Pc) (hrc : rm.cells = mc) (hrs : rm.slots = ms)
    (hframes : rm.frames + 1 ≤ R.frames) (hlocals : W9 + (maxL + 11) + rm.locals ≤ R.locals)
    (hws : ∀ w ∈ ws, ∀ a' U, s.WarmedH U.vm → w.before a' U = true) (hcode : Cond.code y bytes maxL ret ∈ ws) (hinit : ∀ a' U, s.WarmedH U.vm → (Cond.initialized y.cls).before a' U = true) :
    vx_Back l R p e below s sargs y len W9 (PreOf R mc ms Pc) (PostOf Qc mc ms free) (vx_Post XC mc ms free) := by
  intro m meth c A g ig mk a X hg hsize hdg hW hn hp
  have h1 : (headSpec ws rm).pre.before a A.U = true := atoms_intro fun w hw => hws w hw _ _ X.warmed
  have h2 : (Cond.code y bytes maxL ret).before a A.U = true := hws _ hcode _ _ X.warmed
  have h3 : (Cond.initialized y.cls).before a A.U = true := hinit _ _ X.warmed
  have h4 : A.cells + (headSpec ws rm).room.cells ≤ R.cells := by rw [show (headSpec ws rm).room.cells = mc from hrc]; exact hp.1
  have h5 : A.slots + (headSpec ws rm).room.slots ≤ R.slots := by rw [show (headSpec ws rm).room.slots = ms from hrs]; exact hp.2.1
  have hPc : Pc a (A.U.calling g mk a) := hblind _ _ _ _ hp.2.2
  obtain ⟨U, Ls, c0, s0⟩ := A
  dsimp only [Pt.U, Pt.locs, Pt.cells, Pt.slots] at h1 h2 h3 h4 h5 X hn hPc ⊢
  obtain ⟨methY, cY, hmY, hcY, -, hlY, -, -, -, -⟩ := Cond.code_spec hn h2
  obtain ⟨kY, hkY, -⟩ := className_of_methodNamed hn
  have hinitY : kY.init = .initialized := Cond.initialized_spec (findClass_of_methodNamed hn) hkY h3
  have h : At U g.method c below := by rw [hg]; exact X.here
  have hlocals9 : W9 + (maxL + 11) + (headSpec ws rm).room.locals ≤ R.locals := hlocals
  have happ : (headSpec ws rm).appliesLoose y e.platform (U.calling g mk a) = true :=
    Spec.appliesLoose_calling (g := g) h hdg hn hkY hinitY
      (X.room_calling (g := g) (R' := (headSpec ws rm).room) hsize hmY hcY hframes (by rw [hlY]; omega) h4 h5) h1
  obtain ⟨mid, hmid⟩ := h.above
  have hfr : (U.setTop g).frames = (.java g :: mid) ++ below := by rw [State.frames_setTop' g h.top, hmid]; rfl
  obtain ⟨o, s₂, hsteps, -, hend, hq⟩ := Steps.callFree hM p X.admits X.cas X.clock (acts := []) hfr happ hPc trivial
  have hq' : vx_Q Qc XC mc ms free a (U.calling g mk a) o s₂ := hq
  rw [State.frames_setTop' g h.top] at hend
  obtain ⟨g₀, hg0⟩ := Option.isSome_iff_exists.mp h.top
  obtain ⟨r, hr⟩ := State.topJava?_eq_some.mp hg0
  have hr' : (({ U with heap := s₂.heap, slotsUsed := s₂.slotsUsed } : State).setVm s₂.vm).frames = .java g₀ :: r := hr
  rcases hq' with ⟨hqc, L, hfe, hL⟩ | ⟨q, rfl, E, ce, L, hx, hce, hcv, hcl, hW₂, hsm, hL⟩
  · obtain ⟨⟨v, rfl⟩, hW₂, e2, q2, q3, q4, q5, q6⟩ := id hfe
    have e3 : s₂ = ({ (U.calling g mk a).setFrames s₂.frames with heap := s₂.heap, slotsUsed := s₂.slotsUsed } : State).setVm s₂.vm := by
      have : s₂ = ({ s₂ with vm := (U.calling g mk a).vm } : State).setVm s₂.vm := rfl
      rw [e2] at this
      exact this
    obtain ⟨c₂, i₂, len₂, hc₂, hd₂, hf₂⟩ := hend
    have hW' : U.WarmedH s₂.vm := hW₂
    have hcc : c₂ = c := by
      have h1 : s₂.code? g.method = U.code? g.method := by
        rw [State.code?_eq, State.code?_eq, hW'.alike.method?]
      exact Option.some.inj (hc₂.symm.trans (h1.trans h.code))
    subst hcc
    have hlen : len₂ = len := by rw [hdg] at hd₂; cases hd₂; rfl
    subst hlen
    have hs₂ : s₂ = (({ U with heap := s₂.heap, slotsUsed := s₂.slotsUsed } : State).setVm s₂.vm).setTop { g with pc := g.pc + len₂, stack := v.toList ++ g.stack } := by
      refine e3.trans ?_
      rw [hf₂, State.calling_eq h.top, State.setFrames_setFrames, State.setTop_of_frames _ hr', hr]
      rfl
    have hsame : U.sameButNew ({ U with heap := s₂.heap, slotsUsed := s₂.slotsUsed } : State) L mc ms := by
      refine ⟨?_, q2, q3, q4, q5, q6⟩
      obtain ⟨t, ht, -⟩ := State.frames_cons hr
      show ({ U with heap := s₂.heap, slotsUsed := s₂.slotsUsed } : State) = { U.setFrames U.frames with heap := s₂.heap, slotsUsed := s₂.slotsUsed }
      rw [State.setFrames_self ht]
    subst hg
    refine Or.inl ⟨v, ⟨(({ U with heap := s₂.heap, slotsUsed := s₂.slotsUsed } : State).setVm s₂.vm), Ls ++ L, c0 + mc, s0 + ms⟩,
      ⟨X.admits, X.cas, X.clock, X.frames, X.room, X.hears, X.method, X.code, (X.here.setHeapUsed s₂.heap s₂.slotsUsed).setVm hW'.alike, X.tail, State.WarmedH.trans X.warmed hW', X.limits, X.bytes, X.same.trans (hsame.setVm s.vm)⟩,
      ⟨g, mk, s₂, L, rfl, rfl, hqc, rfl, hL, rfl, rfl⟩, ?_⟩
    show Steps p.tables e below _ ((({ U with heap := s₂.heap, slotsUsed := s₂.slotsUsed } : State).setVm s₂.vm).setTop { g with pc := g.pc + len₂, stack := v.toList ++ g.stack })
    rw [← hs₂]
    exact hsteps
  · obtain ⟨e2, q2, q3, q4, q5, q6⟩ := id hsm
    have e3 : s₂ = ({ (U.calling g mk a).setFrames s₂.frames with heap := s₂.heap, slotsUsed := s₂.slotsUsed } : State).setVm s₂.vm := by
      have : s₂ = ({ s₂ with vm := (U.calling g mk a).vm } : State).setVm s₂.vm := rfl
      rw [e2] at this
      exact this
    have hf₂ : s₂.frames = .throwing q :: .java g :: U.frames.tail := hend
    have hW' : U.WarmedH s₂.vm := hW₂
    have hs₂ : s₂ = ((({ U with heap := s₂.heap, slotsUsed := s₂.slotsUsed } : State).setVm s₂.vm).setTop g).pushFrame (.throwing q) := by
      refine e3.trans ?_
      rw [hf₂, State.calling_eq h.top, State.setFrames_setFrames, State.pushFrame, State.frames_setTop _ hr', State.setTop_of_frames _ hr', State.setFrames_setFrames, hr]
      rfl
    have hsame : U.sameButNew ({ U with heap := s₂.heap, slotsUsed := s₂.slotsUsed } : State) L mc ms := by
      refine ⟨?_, q2, q3, q4, q5, q6⟩
      obtain ⟨t, ht, -⟩ := State.frames_cons hr
      show ({ U with heap := s₂.heap, slotsUsed := s₂.slotsUsed } : State) = { U.setFrames U.frames with heap := s₂.heap, slotsUsed := s₂.slotsUsed }
      rw [State.setFrames_self ht]
    subst hg
    refine Or.inr ⟨q, ⟨(({ U with heap := s₂.heap, slotsUsed := s₂.slotsUsed } : State).setVm s₂.vm), Ls ++ L, c0 + mc, s0 + ms⟩,
      ⟨X.admits, X.cas, X.clock, X.frames, X.room, X.hears, X.method, X.code, (X.here.setHeapUsed s₂.heap s₂.slotsUsed).setVm hW'.alike, X.tail, State.WarmedH.trans X.warmed hW', X.limits, X.bytes, X.same.trans (hsame.setVm s.vm)⟩,
      ⟨g, mk, s₂, L, E, ce, rfl, rfl, hx, hce, hcv, hcl, rfl, hL, rfl, rfl⟩, ?_⟩
    show Steps p.tables e below _ (((({ U with heap := s₂.heap, slotsUsed := s₂.slotsUsed } : State).setVm s₂.vm).setTop g).pushFrame (.throwing q))
    rw [← hs₂]
    exact hsteps
end Payer
section Calls
variable {p : Program} {l : Launch} {e : Env} {R : Room} {s : State} {m : MethodId} {args : Array Value} {below : List Frame} {meth : Method} {c : Code} {T : State} {locs : List Loc} {cells slots : Nat}
theorem vx_callV (X : Stand p l e R s m args below meth c T locs cells slots) (hexec : p.tables.exec = Jvm.exec) {own C : String} {index : Nat} {y : MethodName} {bytes : ByteArray} {maxL : Nat} {ret : Option FieldType}
    (hown : s.vm.findClass own = some m.cls) (hlink : (Cond.methodLink own index y).before args s = true) (hinst : (Cond.instanceMethod y).before args s = true) (hsel : (Cond.selects C y y).before args s = true)
    (hcode : (Cond.code y bytes maxL ret).before args s = true) (hy : y.cls ≠ "java/lang/invoke/MethodHandle" ∧ y.cls ≠ "java/lang/invoke/VarHandle")
    {W9 : Nat} {Pre : Pt → Array Value → Prop} {Post : Pt → Array Value → Option Value → Pt → Prop} {PostX : Pt → Array Value → Addr → Pt → Prop} (hK : vx_Back l R p e below s args y 3 W9 Pre Post PostX)
    {b : Addr} {cellB : Cell} (hcell : T.heap[b]? = some cellB) (hobj : cellB.vm.isStatics = false) (hcls : s.vm.findClass C = some cellB.cls)
    {g : JFrame} (hg : g.method = m) (hsize : g.locals.size = c.maxLocals) {argsL rest : List Value} (hlen : ∀ sig, parseMethodDescriptor y.desc = some sig → argsL.length = sig.parameters.length)
    (hstack : g.stack = argsL.reverse ++ .ref b :: rest) (hW : 2 * g.monitorRoom + (rest.map fun v => v.category).sum ≤ W9) (hdg : decode c.code g.pc = .ok (.invokevirtual index, 3))
    (hpre : ∀ vm₁, s.WarmedH vm₁ → Pre ⟨T.setVm vm₁, locs, cells, slots⟩ (Value.ref b :: argsL).toArray) :
    (∃ (v : Option Value) (vm₁ : Vm) (B : Pt), s.WarmedH vm₁ ∧ Stand p l e R s m args below meth c B.U B.locs B.cells B.slots ∧ Post ⟨T.setVm vm₁, locs, cells, slots⟩ (Value.ref b :: argsL).toArray v B ∧
      ∀ target, Steps p.tables e below (B.U.setTop { g with pc := g.pc + 3, stack := v.toList ++ rest }) target → Steps p.tables e below (T.setTop g) target) ∨
    (∃ (q : Addr) (vm₁ : Vm) (B : Pt), s.WarmedH vm₁ ∧ Stand p l e R s m args below meth c B.U B.locs B.cells B.slots ∧ PostX ⟨T.setVm vm₁, locs, cells, slots⟩ (Value.ref b :: argsL).toArray q B ∧
      Steps p.tables e below (T.setTop g) ((B.U.setTop { g with stack := rest }).pushFrame (.throwing q))) := by
  obtain ⟨mk, methM, hnamed, hmethM, hstM, habM⟩ := Cond.instanceMethod_spec hinst
  obtain ⟨methM', cM, hmethM', -, -, -, -, -, -, hsigM⟩ := Cond.code_spec hnamed hcode
  cases hmethM.symm.trans hmethM'
  obtain ⟨c2, r2, m2, q1, q2, q3, q4, kP, hkP, hkPi⟩ := Cond.selects_spec hsel
  cases hcls.symm.trans q1
  cases (State.methodFound?_of_named hnamed hy).symm.trans q2
  cases hnamed.symm.trans q3
  have hselP : selectMethod e.platform s.vm cellB.cls mk = .method mk := by rw [Launch.admits_selectMethod X.admits]; exact q4
  obtain ⟨vm₁, X₁, hstep₁⟩ := X.invokevirtual hexec hown hlink hnamed hmethM hstM hkP hkPi hy (a := b) (cell := cellB) hcell
    (fun z h => by rw [h] at hobj; cases hobj) hselP hmethM habM hkP hkPi (g := g) hg (argsL := argsL) (rest := rest) (hlen _ hsigM) hstack hdg
  rcases hK m meth c ⟨T.setVm vm₁, locs, cells, slots⟩ { g with stack := rest } (.invokevirtual index) mk (Value.ref b :: argsL).toArray X₁ hg hsize hdg hW (X₁.named hnamed) (hpre vm₁ X₁.warmed) with ⟨v, B, X', hpost, hsteps⟩ | ⟨q, B, X', hpost, hsteps⟩
  · exact Or.inl ⟨v, vm₁, B, X₁.warmed, X', hpost, fun target h => hstep₁ _ fun acts => by rw [doInvoke_state]; exact hsteps.trans h⟩
  · exact Or.inr ⟨q, vm₁, B, X₁.warmed, X', hpost, hstep₁ _ fun acts => by rw [doInvoke_state]; exact hsteps⟩
theorem vx_callS (X : Stand p l e R s m args below meth c T locs cells slots) (hexec : p.tables.exec = Jvm.exec) {own : String} {index : Nat} {y : MethodName} {bytes : ByteArray} {maxL : Nat} {ret : Option FieldType}
    (hown : s.vm.findClass own = some m.cls) (hlink : (Cond.methodLink own index y).before args s = true) (hstat : (Cond.static y).before args s = true) (hinit : (Cond.initialized y.cls).before args s = true)
    (hcode : (Cond.code y bytes maxL ret).before args s = true) (hy : y.cls ≠ "java/lang/invoke/MethodHandle" ∧ y.cls ≠ "java/lang/invoke/VarHandle")
    {W9 : Nat} {Pre : Pt → Array Value → Prop} {Post : Pt → Array Value → Option Value → Pt → Prop} {PostX : Pt → Array Value → Addr → Pt → Prop} (hK : vx_Back l R p e below s args y 3 W9 Pre Post PostX)
    {g : JFrame} (hg : g.method = m) (hsize : g.locals.size = c.maxLocals) {argsL rest : List Value} (hlen : ∀ sig, parseMethodDescriptor y.desc = some sig → argsL.length = sig.parameters.length)
    (hstack : g.stack = argsL.reverse ++ rest) (hW : 2 * g.monitorRoom + (rest.map fun v => v.category).sum ≤ W9) (hdg : decode c.code g.pc = .ok (.invokestatic index, 3))
    (hpre : ∀ vm₁, s.WarmedH vm₁ → Pre ⟨T.setVm vm₁, locs, cells, slots⟩ argsL.toArray) :
    (∃ (v : Option Value) (vm₁ : Vm) (B : Pt), s.WarmedH vm₁ ∧ Stand p l e R s m args below meth c B.U B.locs B.cells B.slots ∧ Post ⟨T.setVm vm₁, locs, cells, slots⟩ argsL.toArray v B ∧
      ∀ target, Steps p.tables e below (B.U.setTop { g with pc := g.pc + 3, stack := v.toList ++ rest }) target → Steps p.tables e below (T.setTop g) target) ∨
    (∃ (q : Addr) (vm₁ : Vm) (B : Pt), s.WarmedH vm₁ ∧ Stand p l e R s m args below meth c B.U B.locs B.cells B.slots ∧ PostX ⟨T.setVm vm₁, locs, cells, slots⟩ argsL.toArray q B ∧
      Steps p.tables e below (T.setTop g) ((B.U.setTop { g with stack := rest }).pushFrame (.throwing q))) := by
  obtain ⟨mk, hnamed⟩ := Cond.code_named hcode
  obtain ⟨methM, cM, hmethM, -, -, -, -, -, -, hsigM⟩ := Cond.code_spec hnamed hcode
  have hstatic : methM.isStatic = true := Cond.static_spec hnamed hmethM hstat
  obtain ⟨kP, hkP, -⟩ := className_of_methodNamed hnamed
  have hinitP : kP.init = .initialized := Cond.initialized_spec (findClass_of_methodNamed hnamed) hkP hinit
  obtain ⟨vm₁, X₁, hstep₁⟩ := X.invokestatic hexec hown hlink hnamed hmethM hstatic hkP hinitP hy (g := g) hg (argsL := argsL) (rest := rest) (hlen _ hsigM) hstack hdg
  rcases hK m meth c ⟨T.setVm vm₁, locs, cells, slots⟩ { g with stack := rest } (.invokestatic index) mk argsL.toArray X₁ hg hsize hdg hW (X₁.named hnamed) (hpre vm₁ X₁.warmed) with ⟨v, B, X', hpost, hsteps⟩ | ⟨q, B, X', hpost, hsteps⟩
  · exact Or.inl ⟨v, vm₁, B, X₁.warmed, X', hpost, fun target h => hstep₁ _ fun acts => by rw [doInvoke_state]; exact hsteps.trans h⟩
  · exact Or.inr ⟨q, vm₁, B, X₁.warmed, X', hpost, hstep₁ _ fun acts => by rw [doInvoke_state]; exact hsteps⟩
end Calls
theorem vx_cls {s : State} {T : State} {vm₁ : Vm} {E : String} {k : ClassId} (hW : s.WarmedH vm₁) (h : (T.setVm vm₁).vm.findClass E = some k) : s.vm.findClass E = some k := by
  have h1 : vm₁.findClass E = some k := h
  rw [hW.alike.findClass] at h1
  exact h1
/-- the method's frame g, with q thrown over it -/
def vx_W (p : Program) (l : Launch) (e : Env) (R : Room) (s : State) (m : MethodId) (args : Array Value) (below : List Frame) (meth : Method) (c : Code) (H : Heap) (locs : List Loc) (cells slots : Nat) (Q : State → Prop) (g : JFrame) (q : Addr) : Prop :=
  ∀ T : State, T.heap = H → Stand p l e R s m args below meth c T locs cells slots → ∃ t, Steps p.tables e below ((T.setTop g).pushFrame (.throwing q)) t ∧ Q t
def vx_Run (p : Program) (l : Launch) (e : Env) (R : Room) (s : State) (m : MethodId) (args : Array Value) (below : List Frame) (meth : Method) (c : Code) (H : Heap) (locs : List Loc) (cells slots mc ms : Nat) (g : JFrame) (rest : List Value) (Qa : State → Outcome → State → Prop) (XC : String → State → State → Prop) (free : Addr → Prop) : Prop :=
  ∀ T : State, T.heap = H → Stand p l e R s m args below meth c T locs cells slots →
    (∃ (v : Option Value) (st₀ t T' : State) (L : List Loc), st₀.heap = H ∧ Stand p l e R s m args below meth c T' (locs ++ L) (cells + mc) (slots + ms) ∧ (∀ q ∈ L, free q.base) ∧ T'.heap = t.heap ∧ T'.vm = t.vm ∧ Qa st₀ (.returned v) t ∧
      Goes p e below T g T' { g with pc := g.pc + 3, stack := v.toList ++ rest }) ∨
    (∃ (q : Addr) (st₀ t T' : State) (L : List Loc) (E : String) (ce : Cell), st₀.heap = H ∧ Stand p l e R s m args below meth c T' (locs ++ L) (cells + mc) (slots + ms) ∧ (∀ z ∈ L, free z.base) ∧ T'.heap = t.heap ∧ T'.vm = t.vm ∧ XC E st₀ t ∧ t.heap[q]? = some ce ∧ ce.vm = .none ∧ s.vm.findClass E = some ce.cls ∧
      Steps p.tables e below (T.setTop g) ((T'.setTop { g with stack := rest }).pushFrame (.throwing q)))
def vx_X {S : Type} (px : S → Prop) (B : String → S → State → Prop) (A : Nat → Prop) : String → State → State → Prop := fun E st t => ∃ u : S, px u ∧ B E u t ∧ va_F A st t
section Runs
variable {p : Program} {l : Launch} {e : Env} {R : Room} {s : State} {m : MethodId} {args : Array Value} {below : List Frame} {meth : Method} {c : Code} {H : Heap} {locs : List Loc} {cells slots : Nat}
variable {y : MethodName} {bytes cc : ByteArray} {maxL nL mc ms n index : Nat} {ret : Option FieldType} {ws : List Cond} {rm : Room} {Pc : Array Value → State → Prop} {Qc : Array Value → State → Outcome → State → Prop} {XC : String → State → State → Prop} {free : Addr → Prop} {Ts : List Cond} {own C : String} {b : Addr} {As rest : List Value} {g : JFrame}
theorem vx_callBack (cb : CallB R s args own index y bytes maxL ret ws rm mc ms n) (hM : vx_Met l y ws rm Pc Qc XC mc ms free) (hbl : FrameBlind Pc) : vx_Back l R p e below s args y 3 8 (PreOf R mc ms Pc) (PostOf Qc mc ms free) (vx_Post XC mc ms free) := by
  obtain ⟨hrc, hrs, hfr, hlo, hws, hcw, -, hini, -⟩ := cb
  exact vx_back (bytes := bytes) (maxL := maxL) (ret := ret) hM hbl hrc hrs hfr hlo hws hcw (fun a' U hW => word_at hW (Or.inl (by first | rfl | simp [Cond.onTables, Cond.keeps, Cond.steady])) hini)
theorem vx_runV (S : CallFix p m c cc nL s args Ts own) (hM : vx_Met l y ws rm Pc Qc XC mc ms free) (cw : CallW R s args own C index y bytes maxL ret ws rm mc ms n) (hp : PreV s H C b Pc As)
    (hg : g.method = m) (hn : As.length = n) (hsize : g.locals.size = nL) (hstack : g.stack = As.reverse ++ .ref b :: rest) (hW : 2 * g.monitorRoom + (rest.map fun v => v.category).sum ≤ 8) (hdg : decode cc g.pc = .ok (.invokevirtual index, 3)) (hf : cells + mc ≤ R.cells ∧ slots + ms ≤ R.slots) :
    vx_Run p l e R s m args below meth c H locs cells slots mc ms g rest (Qc (Value.ref b :: As).toArray) XC free := by
  have hK : vx_Back l R p e below s args y 3 8 (PreOf R mc ms Pc) (PostOf Qc mc ms free) (vx_Post XC mc ms free) := vx_callBack cw.1 hM hp.1
  obtain ⟨⟨-, -, -, -, -, -, hcode, -, hy, hlen, hl⟩, hin, hse⟩ := cw
  obtain ⟨hx, hb, hml, ho, -⟩ := S
  obtain ⟨-, ⟨cellB, hcB, hoB, hclB⟩, hPc⟩ := hp
  intro T hT X
  rcases vx_callV X hx (C := C) (bytes := bytes) (maxL := maxL) (ret := ret) ho hl hin hse hcode hy hK (by rw [hT]; exact hcB) hoB hclB hg (hsize.trans hml.symm) (argsL := As) (rest := rest) (fun sig h => hn.trans (hlen sig h)) hstack hW (by rw [hb]; exact hdg)
    (fun vm₁ hW₁ => ⟨hf.1, hf.2, hPc (T.setVm vm₁) hT hW₁⟩) with ⟨v, vm₁, ⟨U', l2, c2, s2⟩, hW₁, X', ⟨g', mk, t, L, e1, e2, hq, h1, hL, h2, h3⟩, st⟩ | ⟨q, vm₁, ⟨U', l2, c2, s2⟩, hW₁, X', ⟨g', mk, t, L, E, ce, e1, e2, hq, hce, hcv, hcl, h1, hL, h2, h3⟩, st⟩
  · dsimp only [Pt.U, Pt.locs, Pt.cells, Pt.slots] at X' e1 e2 h1 h2 h3 st
    subst h1; subst h2; subst h3
    exact Or.inl ⟨v, (T.setVm vm₁).calling g' mk (Value.ref b :: As).toArray, t, U', L, hT, X', hL, e1, e2, hq, st⟩
  · dsimp only [Pt.U, Pt.locs, Pt.cells, Pt.slots] at X' e1 e2 h1 h2 h3 st hcl
    subst h1; subst h2; subst h3
    exact Or.inr ⟨q, (T.setVm vm₁).calling g' mk (Value.ref b :: As).toArray, t, U', L, E, ce, hT, X', hL, e1, e2, hq, hce, hcv, vx_cls hW₁ hcl, st⟩
theorem vx_runS (S : CallFix p m c cc nL s args Ts own) (hM : vx_Met l y ws rm Pc Qc XC mc ms free) (cw : CallB R s args own index y bytes maxL ret ws rm mc ms n ∧ (Cond.static y).before args s = true) (hp : PreS s H Pc As)
    (hg : g.method = m) (hn : As.length = n) (hsize : g.locals.size = nL) (hstack : g.stack = As.reverse ++ rest) (hW : 2 * g.monitorRoom + (rest.map fun v => v.category).sum ≤ 8) (hdg : decode cc g.pc = .ok (.invokestatic index, 3)) (hf : cells + mc ≤ R.cells ∧ slots + ms ≤ R.slots) :
    vx_Run p l e R s m args below meth c H locs cells slots mc ms g rest (Qc As.toArray) XC free := by
  have hK : vx_Back l R p e below s args y 3 8 (PreOf R mc ms Pc) (PostOf Qc mc ms free) (vx_Post XC mc ms free) := vx_callBack cw.1 hM hp.1
  obtain ⟨⟨-, -, -, -, -, -, hcode, hini, hy, hlen, hl⟩, hstt⟩ := cw
  obtain ⟨hx, hb, hml, ho, -⟩ := S
  intro T hT X
  rcases vx_callS X hx (bytes := bytes) (maxL := maxL) (ret := ret) ho hl hstt hini hcode hy hK hg (hsize.trans hml.symm) (argsL := As) (rest := rest) (fun sig h => hn.trans (hlen sig h)) hstack hW (by rw [hb]; exact hdg)
    (fun vm₁ hW₁ => ⟨hf.1, hf.2, hp.2 (T.setVm vm₁) hT hW₁⟩) with ⟨v, vm₁, ⟨U', l2, c2, s2⟩, hW₁, X', ⟨g', mk, t, L, e1, e2, hq, h1, hL, h2, h3⟩, st⟩ | ⟨q, vm₁, ⟨U', l2, c2, s2⟩, hW₁, X', ⟨g', mk, t, L, E, ce, e1, e2, hq, hce, hcv, hcl, h1, hL, h2, h3⟩, st⟩
  · dsimp only [Pt.U, Pt.locs, Pt.cells, Pt.slots] at X' e1 e2 h1 h2 h3 st
    subst h1; subst h2; subst h3
    exact Or.inl ⟨v, (T.setVm vm₁).calling g' mk As.toArray, t, U', L, hT, X', hL, e1, e2, hq, st⟩
  · dsimp only [Pt.U, Pt.locs, Pt.cells, Pt.slots] at X' e1 e2 h1 h2 h3 st hcl
    subst h1; subst h2; subst h3
    exact Or.inr ⟨q, (T.setVm vm₁).calling g' mk As.toArray, t, U', L, E, ce, hT, X', hL, e1, e2, hq, hce, hcv, vx_cls hW₁ hcl, st⟩
end Runs
section Rows
variable {p : Program} {l : Launch} {e : Env} {R : Room} {s : State} {m : MethodId} {args : Array Value} {below : List Frame} {meth : Method} {c : Code} {H : Heap} {locs : List Loc} {cells slots : Nat} {Q : State → Prop}
variable {mc ms : Nat} {free : Addr → Prop} {A0 A1 : Nat → Prop} {H0 : Heap} {a : Array Value} {pc : Nat} {ls : Array Slot} {st0 rest : List Value}
theorem vx_keep {st₀ t T' : State} {L : List Loc} (h0 : st₀.heap = H) (e1 : T'.heap = t.heap) (hS : va_S A0 H0 H locs) (hA : ∀ q, q < H.size → A1 q → A0 q) (hf : ∀ q, free q → A0 q) (hL : ∀ q ∈ L, free q.base) (hF : va_F A1 st₀ t) :
    H.size ≤ T'.heap.size ∧ (∀ q : Nat, q < H.size → ¬ A1 q → T'.heap[q]? = H[q]?) ∧ va_S A0 H0 T'.heap (locs ++ L) := by
  obtain ⟨hz, hk⟩ := hF
  rw [h0] at hz hk
  exact ⟨by rw [e1]; exact hz, fun q h1 h2 => by rw [e1]; exact hk q h1 h2,
    ⟨Nat.le_trans hS.1 (by rw [e1]; exact hz), fun q h1 h2 => by rw [e1, hk q (Nat.lt_of_lt_of_le h1 hS.1) (fun z => h2 (hA q (Nat.lt_of_lt_of_le h1 hS.1) z))]; exact hS.2.1 q h1 h2, fun q hq => by
      rcases List.mem_append.mp hq with h | h
      · exact hS.2.2 q h
      · exact hf _ (hL q h)⟩⟩
theorem vx_calli {S SX : Type} {post : Int32 → S → Prop} {px : SX → Prop} {B : S → State → Prop} {BX : String → SX → State → Prop} {AX : Nat → Prop} (hr : vx_Run p l e R s m args below meth c H locs cells slots mc ms (F0 m pc ls st0) rest (va_Qi post B A1 a) (vx_X px BX AX) free) (hS : va_S A0 H0 H locs) (hA : ∀ q, q < H.size → A1 q → A0 q) (hf : ∀ q, free q → A0 q) (hAX : ∀ q, q < H.size → AX q → A0 q)
    (kx : ∀ (E : String) (ce : Cell) (q9 : Addr) (u : SX) (t : State) (H1 : Heap) (locs1 : List Loc), t.heap = H1 → s.vm.Alike t.vm → px u → BX E u t → H.size ≤ H1.size → (∀ q : Nat, q < H.size → ¬ AX q → H1[q]? = H[q]?) → va_S A0 H0 H1 locs1 → H1[q9]? = some ce → ce.vm = .none → s.vm.findClass E = some ce.cls → vx_W p l e R s m args below meth c H1 locs1 (cells + mc) (slots + ms) Q (F0 m pc ls rest) q9)
    (kk : ∀ (r : Int32) (u : S) (t : State) (H1 : Heap) (locs1 : List Loc), t.heap = H1 → s.vm.Alike t.vm → post r u → B u t → H.size ≤ H1.size → (∀ q : Nat, q < H.size → ¬ A1 q → H1[q]? = H[q]?) → va_S A0 H0 H1 locs1 → W p l e R s m args below meth c H1 locs1 (cells + mc) (slots + ms) Q (F0 m (pc + 3) ls (.int r :: rest))) : W p l e R s m args below meth c H locs cells slots Q (F0 m pc ls st0) := by
  intro T hT X
  rcases hr T hT X with ⟨v, st₀, t, T', L, h0, X', hL, e1, e2, ⟨⟨r, u, hv, hp, hb⟩, hF⟩, st⟩ | ⟨q, st₀, t, T', L, E, ce, h0, X', hL, e1, e2, ⟨u, hp, hb, hF⟩, hce, hcv, hcl, st⟩
  · cases hv
    obtain ⟨k1, k2, k3⟩ := vx_keep h0 e1 hS hA hf hL hF
    obtain ⟨t2, a1, b1⟩ := kk r u t T'.heap (locs ++ L) e1.symm (by rw [← e2]; exact X'.warmed.alike) hp hb k1 k2 k3 T' rfl X'
    exact ⟨t2, st t2 a1, b1⟩
  · obtain ⟨k1, k2, k3⟩ := vx_keep h0 e1 hS hAX hf hL hF
    obtain ⟨t2, a1, b1⟩ := kx E ce q u t T'.heap (locs ++ L) e1.symm (by rw [← e2]; exact X'.warmed.alike) hp hb k1 k2 k3 (by rw [e1]; exact hce) hcv hcl T' rfl X'
    exact ⟨t2, st.trans a1, b1⟩
theorem vx_calll {S SX : Type} {post : Int64 → S → Prop} {px : SX → Prop} {B : S → State → Prop} {BX : String → SX → State → Prop} {AX : Nat → Prop} (hr : vx_Run p l e R s m args below meth c H locs cells slots mc ms (F0 m pc ls st0) rest (va_Ql post B A1 a) (vx_X px BX AX) free) (hS : va_S A0 H0 H locs) (hA : ∀ q, q < H.size → A1 q → A0 q) (hf : ∀ q, free q → A0 q) (hAX : ∀ q, q < H.size → AX q → A0 q)
    (kx : ∀ (E : String) (ce : Cell) (q9 : Addr) (u : SX) (t : State) (H1 : Heap) (locs1 : List Loc), t.heap = H1 → s.vm.Alike t.vm → px u → BX E u t → H.size ≤ H1.size → (∀ q : Nat, q < H.size → ¬ AX q → H1[q]? = H[q]?) → va_S A0 H0 H1 locs1 → H1[q9]? = some ce → ce.vm = .none → s.vm.findClass E = some ce.cls → vx_W p l e R s m args below meth c H1 locs1 (cells + mc) (slots + ms) Q (F0 m pc ls rest) q9)
    (kk : ∀ (r : Int64) (u : S) (t : State) (H1 : Heap) (locs1 : List Loc), t.heap = H1 → s.vm.Alike t.vm → post r u → B u t → H.size ≤ H1.size → (∀ q : Nat, q < H.size → ¬ A1 q → H1[q]? = H[q]?) → va_S A0 H0 H1 locs1 → W p l e R s m args below meth c H1 locs1 (cells + mc) (slots + ms) Q (F0 m (pc + 3) ls (.long r :: rest))) : W p l e R s m args below meth c H locs cells slots Q (F0 m pc ls st0) := by
  intro T hT X
  rcases hr T hT X with ⟨v, st₀, t, T', L, h0, X', hL, e1, e2, ⟨⟨r, u, hv, hp, hb⟩, hF⟩, st⟩ | ⟨q, st₀, t, T', L, E, ce, h0, X', hL, e1, e2, ⟨u, hp, hb, hF⟩, hce, hcv, hcl, st⟩
  · cases hv
    obtain ⟨k1, k2, k3⟩ := vx_keep h0 e1 hS hA hf hL hF
    obtain ⟨t2, a1, b1⟩ := kk r u t T'.heap (locs ++ L) e1.symm (by rw [← e2]; exact X'.warmed.alike) hp hb k1 k2 k3 T' rfl X'
    exact ⟨t2, st t2 a1, b1⟩
  · obtain ⟨k1, k2, k3⟩ := vx_keep h0 e1 hS hAX hf hL hF
    obtain ⟨t2, a1, b1⟩ := kx E ce q u t T'.heap (locs ++ L) e1.symm (by rw [← e2]; exact X'.warmed.alike) hp hb k1 k2 k3 (by rw [e1]; exact hce) hcv hcl T' rfl X'
    exact ⟨t2, st.trans a1, b1⟩
theorem vx_callf {S SX : Type} {post : UInt32 → S → Prop} {px : SX → Prop} {B : S → State → Prop} {BX : String → SX → State → Prop} {AX : Nat → Prop} (hr : vx_Run p l e R s m args below meth c H locs cells slots mc ms (F0 m pc ls st0) rest (va_Qf post B A1 a) (vx_X px BX AX) free) (hS : va_S A0 H0 H locs) (hA : ∀ q, q < H.size → A1 q → A0 q) (hf : ∀ q, free q → A0 q) (hAX : ∀ q, q < H.size → AX q → A0 q)
    (kx : ∀ (E : String) (ce : Cell) (q9 : Addr) (u : SX) (t : State) (H1 : Heap) (locs1 : List Loc), t.heap = H1 → s.vm.Alike t.vm → px u → BX E u t → H.size ≤ H1.size → (∀ q : Nat, q < H.size → ¬ AX q → H1[q]? = H[q]?) → va_S A0 H0 H1 locs1 → H1[q9]? = some ce → ce.vm = .none → s.vm.findClass E = some ce.cls → vx_W p l e R s m args below meth c H1 locs1 (cells + mc) (slots + ms) Q (F0 m pc ls rest) q9)
    (kk : ∀ (r : UInt32) (u : S) (t : State) (H1 : Heap) (locs1 : List Loc), t.heap = H1 → s.vm.Alike t.vm → post r u → B u t → H.size ≤ H1.size → (∀ q : Nat, q < H.size → ¬ A1 q → H1[q]? = H[q]?) → va_S A0 H0 H1 locs1 → W p l e R s m args below meth c H1 locs1 (cells + mc) (slots + ms) Q (F0 m (pc + 3) ls (.float r :: rest))) : W p l e R s m args below meth c H locs cells slots Q (F0 m pc ls st0) := by
  intro T hT X
  rcases hr T hT X with ⟨v, st₀, t, T', L, h0, X', hL, e1, e2, ⟨⟨r, u, hv, hp, hb⟩, hF⟩, st⟩ | ⟨q, st₀, t, T', L, E, ce, h0, X', hL, e1, e2, ⟨u, hp, hb, hF⟩, hce, hcv, hcl, st⟩
  · cases hv
    obtain ⟨k1, k2, k3⟩ := vx_keep h0 e1 hS hA hf hL hF
    obtain ⟨t2, a1, b1⟩ := kk r u t T'.heap (locs ++ L) e1.symm (by rw [← e2]; exact X'.warmed.alike) hp hb k1 k2 k3 T' rfl X'
    exact ⟨t2, st t2 a1, b1⟩
  · obtain ⟨k1, k2, k3⟩ := vx_keep h0 e1 hS hAX hf hL hF
    obtain ⟨t2, a1, b1⟩ := kx E ce q u t T'.heap (locs ++ L) e1.symm (by rw [← e2]; exact X'.warmed.alike) hp hb k1 k2 k3 (by rw [e1]; exact hce) hcv hcl T' rfl X'
    exact ⟨t2, st.trans a1, b1⟩
theorem vx_calld {S SX : Type} {post : UInt64 → S → Prop} {px : SX → Prop} {B : S → State → Prop} {BX : String → SX → State → Prop} {AX : Nat → Prop} (hr : vx_Run p l e R s m args below meth c H locs cells slots mc ms (F0 m pc ls st0) rest (va_Qd post B A1 a) (vx_X px BX AX) free) (hS : va_S A0 H0 H locs) (hA : ∀ q, q < H.size → A1 q → A0 q) (hf : ∀ q, free q → A0 q) (hAX : ∀ q, q < H.size → AX q → A0 q)
    (kx : ∀ (E : String) (ce : Cell) (q9 : Addr) (u : SX) (t : State) (H1 : Heap) (locs1 : List Loc), t.heap = H1 → s.vm.Alike t.vm → px u → BX E u t → H.size ≤ H1.size → (∀ q : Nat, q < H.size → ¬ AX q → H1[q]? = H[q]?) → va_S A0 H0 H1 locs1 → H1[q9]? = some ce → ce.vm = .none → s.vm.findClass E = some ce.cls → vx_W p l e R s m args below meth c H1 locs1 (cells + mc) (slots + ms) Q (F0 m pc ls rest) q9)
    (kk : ∀ (r : UInt64) (u : S) (t : State) (H1 : Heap) (locs1 : List Loc), t.heap = H1 → s.vm.Alike t.vm → post r u → B u t → H.size ≤ H1.size → (∀ q : Nat, q < H.size → ¬ A1 q → H1[q]? = H[q]?) → va_S A0 H0 H1 locs1 → W p l e R s m args below meth c H1 locs1 (cells + mc) (slots + ms) Q (F0 m (pc + 3) ls (.double r :: rest))) : W p l e R s m args below meth c H locs cells slots Q (F0 m pc ls st0) := by
  intro T hT X
  rcases hr T hT X with ⟨v, st₀, t, T', L, h0, X', hL, e1, e2, ⟨⟨r, u, hv, hp, hb⟩, hF⟩, st⟩ | ⟨q, st₀, t, T', L, E, ce, h0, X', hL, e1, e2, ⟨u, hp, hb, hF⟩, hce, hcv, hcl, st⟩
  · cases hv
    obtain ⟨k1, k2, k3⟩ := vx_keep h0 e1 hS hA hf hL hF
    obtain ⟨t2, a1, b1⟩ := kk r u t T'.heap (locs ++ L) e1.symm (by rw [← e2]; exact X'.warmed.alike) hp hb k1 k2 k3 T' rfl X'
    exact ⟨t2, st t2 a1, b1⟩
  · obtain ⟨k1, k2, k3⟩ := vx_keep h0 e1 hS hAX hf hL hF
    obtain ⟨t2, a1, b1⟩ := kx E ce q u t T'.heap (locs ++ L) e1.symm (by rw [← e2]; exact X'.warmed.alike) hp hb k1 k2 k3 (by rw [e1]; exact hce) hcv hcl T' rfl X'
    exact ⟨t2, st.trans a1, b1⟩
theorem vx_callv {S SX : Type} {post : S → Prop} {px : SX → Prop} {B : S → State → Prop} {BX : String → SX → State → Prop} {AX : Nat → Prop} (hr : vx_Run p l e R s m args below meth c H locs cells slots mc ms (F0 m pc ls st0) rest (va_Qv post B A1 a) (vx_X px BX AX) free) (hS : va_S A0 H0 H locs) (hA : ∀ q, q < H.size → A1 q → A0 q) (hf : ∀ q, free q → A0 q) (hAX : ∀ q, q < H.size → AX q → A0 q)
    (kx : ∀ (E : String) (ce : Cell) (q9 : Addr) (u : SX) (t : State) (H1 : Heap) (locs1 : List Loc), t.heap = H1 → s.vm.Alike t.vm → px u → BX E u t → H.size ≤ H1.size → (∀ q : Nat, q < H.size → ¬ AX q → H1[q]? = H[q]?) → va_S A0 H0 H1 locs1 → H1[q9]? = some ce → ce.vm = .none → s.vm.findClass E = some ce.cls → vx_W p l e R s m args below meth c H1 locs1 (cells + mc) (slots + ms) Q (F0 m pc ls rest) q9)
    (kk : ∀ (u : S) (t : State) (H1 : Heap) (locs1 : List Loc), t.heap = H1 → s.vm.Alike t.vm → post u → B u t → H.size ≤ H1.size → (∀ q : Nat, q < H.size → ¬ A1 q → H1[q]? = H[q]?) → va_S A0 H0 H1 locs1 → W p l e R s m args below meth c H1 locs1 (cells + mc) (slots + ms) Q (F0 m (pc + 3) ls (rest))) : W p l e R s m args below meth c H locs cells slots Q (F0 m pc ls st0) := by
  intro T hT X
  rcases hr T hT X with ⟨v, st₀, t, T', L, h0, X', hL, e1, e2, ⟨⟨u, hv, hp, hb⟩, hF⟩, st⟩ | ⟨q, st₀, t, T', L, E, ce, h0, X', hL, e1, e2, ⟨u, hp, hb, hF⟩, hce, hcv, hcl, st⟩
  · cases hv
    obtain ⟨k1, k2, k3⟩ := vx_keep h0 e1 hS hA hf hL hF
    obtain ⟨t2, a1, b1⟩ := kk u t T'.heap (locs ++ L) e1.symm (by rw [← e2]; exact X'.warmed.alike) hp hb k1 k2 k3 T' rfl X'
    exact ⟨t2, st t2 a1, b1⟩
  · obtain ⟨k1, k2, k3⟩ := vx_keep h0 e1 hS hAX hf hL hF
    obtain ⟨t2, a1, b1⟩ := kx E ce q u t T'.heap (locs ++ L) e1.symm (by rw [← e2]; exact X'.warmed.alike) hp hb k1 k2 k3 (by rw [e1]; exact hce) hcv hcl T' rfl X'
    exact ⟨t2, st.trans a1, b1⟩
/-- caught by the row x of this method's table; the rows ahead don't take it -/
theorem vx_catch {own name : String} {E : String} {ce : Cell} {q : Addr} (hown : s.vm.findClass own = some m.cls) (pre : List ExceptionTableEntry) (x : ExceptionTableEntry) (suf : List ExceptionTableEntry) (hsplit : c.exceptionTable.toList = pre ++ x :: suf)
    (hpass : ∀ z ∈ pre, covers z pc = false ∨ (z.catchType ≠ 0 ∧ ∃ nm : String, (Cond.classLink own z.catchType nm).before args s = true ∧ va_Nc E nm s)) (hx : covers x pc = true) (h0 : x.catchType ≠ 0)
    (hlink : (Cond.classLink own x.catchType name).before args s = true) (hcast : (Cond.castable E name).before args s = true) (hcell : H[q]? = some ce) (hv : ce.vm = .none) (hcl : s.vm.findClass E = some ce.cls)
    (kk : W p l e R s m args below meth c H locs cells slots Q (F0 m x.handlerPc ls [.ref q])) : vx_W p l e R s m args below meth c H locs cells slots Q (F0 m pc ls rest) q := by
  intro T hT X
  have hpl : e.platform.magicAccessors = ({} : Platform).magicAccessors := by rw [X.admits.platform]
  obtain ⟨c3, c4, hc3, hc4, hasg⟩ := Cond.castable_spec hcast
  cases Option.some.inj (hc3.symm.trans hcl)
  obtain ⟨c5, hc5, hcl5⟩ := Cond.classLink_spec hown hlink e.platform hpl
  cases Option.some.inj (hc4.symm.trans hc5)
  obtain ⟨vm', X', st⟩ := X.thenCaughtThrough q (g := F0 m pc ls rest) rfl (Steps.refl _) (by rw [hT]; exact hcell) (by rw [hv]; rfl) (by obtain ⟨k9, h9, -⟩ := Vm.findClass_spec hcl; exact ⟨k9, h9⟩) pre x suf hsplit
    (fun z hz => by
      rcases hpass z hz with h | ⟨hz0, nm, hl1, hn1⟩
      · exact Or.inl h
      · obtain ⟨c6, hc6, hcl6⟩ := Cond.classLink_spec hown hl1 e.platform hpl
        obtain ⟨a8, b8, h1, h2, h3⟩ := hn1
        cases Option.some.inj (h1.symm.trans hcl)
        cases Option.some.inj (h2.symm.trans hc6)
        exact Or.inr ⟨hz0, _, hcl6, h3⟩) hx (Or.inr ⟨h0, c4, hcl5, hasg⟩)
  obtain ⟨t, a1, b1⟩ := kk (T.setVm vm') hT X'
  exact ⟨t, st.trans a1, b1⟩
end Rows
section Ends
variable {p : Program} {l : Launch} {e : Env} {R : Room} {s : State} {m : MethodId} {args : Array Value} {below : List Frame} {meth : Method} {c : Code} {H : Heap} {locs : List Loc} {cells slots : Nat} {Q : State → Prop}
variable {mc ms : Nat} {free : Addr → Prop} {A0 A1 : Nat → Prop} {H0 : Heap} {a : Array Value} {ls : Array Slot} {st0 rest : List Value}
variable {Qc : Array Value → State → Outcome → State → Prop} {XC : String → State → State → Prop}
/-- what a body that may throw owes at its end -/
def vx_MQ (below : List Frame) (Qc : Array Value → State → Outcome → State → Prop) (XC : String → State → State → Prop) (a : Array Value) (s : State) (mc ms : Nat) (free : Addr → Prop) : State → Prop := fun t =>
  ∃ o, t.status = .running ∧ Ended t below o ∧ vx_Q Qc XC mc ms free a s o t
theorem vx_ret {g : JFrame} {mc ms : Nat} (k : W p l e R s m args below meth c H locs cells slots (MQ below Qc args s mc ms free) g) : W p l e R s m args below meth c H locs cells slots (vx_MQ below Qc XC args s mc ms free) g := by
  intro T hT X
  obtain ⟨t, a1, o, b1, b2, b3, b4⟩ := k T hT X
  exact ⟨t, a1, o, b1, b2, Or.inl ⟨b3, b4⟩⟩
/-- not caught here: it goes on to the caller -/
theorem vx_widen {g : JFrame} {q : Addr} {k n : Nat} (h1 : cells ≤ k) (h2 : slots ≤ n) (kk : vx_W p l e R s m args below meth c H locs k n Q g q) : vx_W p l e R s m args below meth c H locs cells slots Q g q := fun T hT X => kk T hT (stand_widen X h1 h2)
theorem vx_out {pc : Nat} {E : String} {ce : Cell} {q : Addr} {mc ms : Nat} (hout : ∀ x ∈ c.exceptionTable.toList, covers x pc = false) (hlocks : meth.locks = false) (hcell : H[q]? = some ce) (hv : ce.vm = .none) (hcl : s.vm.findClass E = some ce.cls)
    (hx : ∀ t : State, t.heap = H → s.vm.Alike t.vm → XC E s t) (hf : ∀ z ∈ locs, free z.base) (hc : cells ≤ mc) (hs : slots ≤ ms) :
    vx_W p l e R s m args below meth c H locs cells slots (vx_MQ below Qc XC args s mc ms free) (F0 m pc ls rest) q := by
  intro T hT X
  obtain ⟨st1, hrun, hend, hW, hsm⟩ := X.leaveThrown q (g := F0 m pc ls rest) rfl rfl rfl hout hlocks
  have hcell9 : (T.setFrames (.throwing q :: below)).heap[q]? = some ce := by
    show T.heap[q]? = some ce
    rw [hT]; exact hcell
  exact ⟨_, st1, .threw q, hrun, hend, Or.inr ⟨q, rfl, E, ce, locs, hx _ hT hW.alike, hcell9, hv, hcl, hW, hsm.mono hc hs, hf⟩⟩
theorem vx_frame {U : State} {k n : Nat} (h : s.sameButNew ({ U with vm := s.vm } : State) locs k n) : s.heap.size ≤ U.heap.size ∧ ∀ q : Nat, q < s.heap.size → (∀ z ∈ locs, z.base ≠ q) → U.heap[q]? = s.heap[q]? := by
  obtain ⟨-, h2, -, -, -, h6⟩ := h
  refine ⟨h2, fun q hq hz => ?_⟩
  obtain ⟨c9, e1, e2, e3, e4⟩ := h6 q _ (Array.getElem?_eq_getElem hq)
  have hs : c9.slots = (s.heap[q]).slots := Array.ext_getElem? fun i => e4 i fun hm => hz _ hm rfl
  have h9 : c9 = s.heap[q] := by
    rw [hs] at e2
    exact e2
  have e5 : U.heap[q]? = some c9 := e1
  rw [e5, h9, Array.getElem?_eq_getElem hq]
/-- the words of a throw but the four that speak of the heap -/
def vx_no (w : Cond) : Bool := decide (w ≠ .isRef (.static Bundle.tN "UNASSIGNED_STACK" Bundle.steD)) && decide (w ≠ .isRef (.static Bundle.tN "SUPPRESSED_SENTINEL" Bundle.listD)) && decide (w ≠ .laysStatic Bundle.tN "UNASSIGNED_STACK" Bundle.steD) && decide (w ≠ .laysStatic Bundle.tN "SUPPRESSED_SENTINEL" Bundle.listD)
def vx_at0 (own : String) (ic : Nat) (X : String) (names : List String) : List Cond := (Bundle.ownAtoms0 own ic X names).filter vx_no
def vx_atS (own : String) (ic : Nat) (X : String) (names : List String) : List Cond := (Bundle.ownAtoms own ic X names).filter vx_no
/-- a word that the tables alone decide, or a good one -/
def vx_ot (w : Cond) : Bool := w.onTables || goodWord w
theorem vx_ot_at {args a' : Array Value} {s U : State} {w : Cond} (hW : s.WarmedH U.vm) (hvm : s.vm = U.vm) (hg : vx_ot w = true) (h : w.before args s = true) : w.before a' U = true := by
  simp only [vx_ot, Bool.or_eq_true] at hg
  rcases hg with hg | hg
  · exact va_tabs hg hvm h
  · exact word_at hW (good_of_word hg) h
/-- a list's words: the good ones out of the method's own list, the others by premises of their own -/
theorem vx_hat {args : Array Value} {s : State} {L B : List Cond} (h1 : ∀ w ∈ L.filter goodWord, w.before args s = true) (h2 : ∀ w ∈ L.filter (fun w => !goodWord w), w ∈ B) (h3 : ∀ w ∈ B, w.before args s = true) : ∀ w ∈ L, w.before args s = true := by
  intro w hw
  by_cases g : goodWord w = true
  · exact h1 w (List.mem_filter.mpr ⟨hw, g⟩)
  · refine h3 w (h2 w (List.mem_filter.mpr ⟨hw, ?_⟩))
    show (!goodWord w) = true
    cases hgw : goodWord w
    · rfl
    · exact absurd hgw g
theorem vx_c {args : Array Value} {s : State} {w : Cond} {B : List Cond} (h : w.before args s = true) (t : ∀ w ∈ B, w.before args s = true) : ∀ w' ∈ w :: B, w'.before args s = true := fun w' h' => (List.mem_cons.mp h').elim (fun e => by rw [e]; exact h) (t w')
theorem vx_n {args : Array Value} {s : State} : ∀ w ∈ ([] : List Cond), w.before args s = true := fun _ h => nomatch h
theorem vx_own {args : Array Value} {s : State} {L : List Cond} (h1 : ∀ w ∈ L.filter vx_no, w.before args s = true)
    (hU : (Cond.isRef (.static Bundle.tN "UNASSIGNED_STACK" Bundle.steD)).before args s = true) (hN : (Cond.isRef (.static Bundle.tN "SUPPRESSED_SENTINEL" Bundle.listD)).before args s = true)
    (lU : (Cond.laysStatic Bundle.tN "UNASSIGNED_STACK" Bundle.steD).before args s = true) (lN : (Cond.laysStatic Bundle.tN "SUPPRESSED_SENTINEL" Bundle.listD).before args s = true) : ∀ w ∈ L, w.before args s = true := by
  intro w hw
  by_cases e1 : w = .isRef (.static Bundle.tN "UNASSIGNED_STACK" Bundle.steD)
  · rw [e1]; exact hU
  · by_cases e2 : w = .isRef (.static Bundle.tN "SUPPRESSED_SENTINEL" Bundle.listD)
    · rw [e2]; exact hN
    · by_cases e3 : w = .laysStatic Bundle.tN "UNASSIGNED_STACK" Bundle.steD
      · rw [e3]; exact lU
      · by_cases e4 : w = .laysStatic Bundle.tN "SUPPRESSED_SENTINEL" Bundle.listD
        · rw [e4]; exact lN
        · exact h1 w (List.mem_filter.mpr ⟨hw, by unfold vx_no; rw [decide_eq_true e1, decide_eq_true e2, decide_eq_true e3, decide_eq_true e4]; rfl⟩)
/-- where a static field lies, its class's statics cell in H -/
def vx_L (C n d : String) (A : Nat → Prop) (U : State) (H : Heap) : Prop := ∃ (c : ClassId) (k : Class) (i : Nat) (f : Field) (a : Nat) (cell : Cell), U.vm.findClass C = some c ∧ U.fieldFound? C n d = some (c, k, i, f) ∧ f.isStatic = true ∧ k.statics = some a ∧ H[a]? = some cell ∧ cell.vm.isStatics = true ∧ cell.cls = c ∧ f.slot < cell.slots.size ∧ k.staticTypes[f.slot]? = some f.type ∧ ¬ A a
theorem vx_L.moved {C n d : String} {A : Nat → Prop} {u U : State} {H : Heap} (hvm : u.vm.Alike U.vm) (h : vx_L C n d A u H) : vx_L C n d A U H := by
  obtain ⟨c, k, i, f, a, cell, h1, h2, h3, h4, h5, h6, h7, h8, h9, h10⟩ := h
  obtain ⟨k', hi', he⟩ := State.fieldFound?_setVm hvm h2
  exact ⟨c, k', i, f, a, cell, by rw [hvm.findClass]; exact h1, hi', h3, by rw [he]; exact h4, h5, h6, h7, h8, by rw [he]; exact h9, h10⟩
theorem vx_L.kept {C n d : String} {A : Nat → Prop} {U : State} {H H1 : Heap} (h : vx_L C n d A U H) (hq : ∀ a : Nat, a < H.size → ¬ A a → H1[a]? = H[a]?) : vx_L C n d A U H1 := by
  obtain ⟨c, k, i, f, a, cell, h1, h2, h3, h4, h5, h6, h7, h8, h9, h10⟩ := h
  exact ⟨c, k, i, f, a, cell, h1, h2, h3, h4, by rw [hq a (Array.getElem?_eq_some_iff.mp h5).1 h10]; exact h5, h6, h7, h8, h9, h10⟩
theorem vx_L.narrow {C n d : String} {A B : Nat → Prop} {U : State} {H : Heap} (h : vx_L C n d A U H) (hAB : ∀ q, B q → A q) : vx_L C n d B U H := by
  obtain ⟨c, k, i, f, a, cell, h1, h2, h3, h4, h5, h6, h7, h8, h9, h10⟩ := h
  exact ⟨c, k, i, f, a, cell, h1, h2, h3, h4, h5, h6, h7, h8, h9, fun z => h10 (hAB _ z)⟩
theorem vx_L.word {C n d : String} {A : Nat → Prop} {s : State} {args : Array Value} (h : vx_L C n d A s s.heap) : (Cond.laysStatic C n d).before args s = true := by
  obtain ⟨c, k, i, f, a, cell, h1, h2, h3, h4, h5, h6, h7, h8, h9, -⟩ := h
  show (Cond.laysStatic C n d).holds args s none s [] = true
  exact Cond.laysStatic_of h1 h2 h3 h4 h5 h6 h7 h8 h9
/-- .. and what it holds: null or some reference -/
def vx_Zq (C n d : String) (A : Nat → Prop) (U : State) (H : Heap) : Prop := va_Zq C n d A U H ∧ vx_L C n d A U H
theorem vx_Zq.moved {C n d : String} {A : Nat → Prop} {u U : State} {H : Heap} (hvm : u.vm.Alike U.vm) (h : vx_Zq C n d A u H) : vx_Zq C n d A U H := ⟨va_Zq.moved hvm h.1, vx_L.moved hvm h.2⟩
theorem vx_Zq.kept {C n d : String} {A : Nat → Prop} {U : State} {H H1 : Heap} (h : vx_Zq C n d A U H) (hq : ∀ a : Nat, a < H.size → ¬ A a → H1[a]? = H[a]?) : vx_Zq C n d A U H1 := ⟨va_Zq.kept h.1 hq, vx_L.kept h.2 hq⟩
theorem vx_Zq.narrow {C n d : String} {A B : Nat → Prop} {U : State} {H : Heap} (h : vx_Zq C n d A U H) (hAB : ∀ q, B q → A q) : vx_Zq C n d B U H := ⟨va_Zq.narrow h.1 hAB, vx_L.narrow h.2 hAB⟩
theorem vx_Zqof {args : Array Value} {s : State} {C n d : String} {A : Nat → Prop} (hl : (Cond.laysStatic C n d).before args s = true) (hini : (Cond.initialized C).before args s = true) (h : (Cond.isRef (.static C n d)).before args s = true) (hA : ∀ a : Nat, a < s.heap.size → ¬ A a) : vx_Zq C n d A s s.heap := by
  refine ⟨va_Zqof hl hini h hA, ?_⟩
  obtain ⟨c, k, i, f, a, cell, h1, h2, h3, h4, h5, h6, h7, h8, h9⟩ := Cond.laysStatic_spec hl
  exact ⟨c, k, i, f, a, cell, h1, h2, h3, h4, h5, h6, h7, h8, h9, hA a (Array.getElem?_eq_some_iff.mp h5).1⟩
theorem vx_isRef {C n d : String} {v : Value} {A : Nat → Prop} {s : State} {args : Array Value} (h : va_Z C n d v A s s.heap) (hv : v.isRef = true) : (Cond.isRef (.static C n d)).before args s = true := by
  obtain ⟨cf, kf, fi, f, a, cell, h1, h2, h3, h4, h5, h6, h7, -⟩ := h
  have he : (Term.static C n d).eval args s none [] s = some v := by
    simp [Term.eval, State.fieldNamed?, h1, h2, h4, h5, h6, h7]
  simp only [Cond.before, Cond.holds, Cond.value, he]
  cases v <;> simp_all [Value.isRef]
theorem vx_isRefq {C n d : String} {A : Nat → Prop} {s : State} {args : Array Value} (h : va_Zq C n d A s s.heap) : (Cond.isRef (.static C n d)).before args s = true := by
  rcases h with h | ⟨t, h⟩
  · exact vx_isRef h rfl
  · exact vx_isRef h rfl
/-- the same frame, seen from here: as if the method were called anew in this heap -/
theorem vx_rebase {T : State} (X : Stand p l e R s m args below meth c T locs cells slots) {R' : Room} (hf : R'.frames ≤ R.frames) (hl : R'.locals ≤ R.locals) (hc : cells + R'.cells ≤ R.cells) (hs : slots + R'.slots ≤ R.slots) :
    Stand p l e R' ((T.setVm s.vm).setFrames (.invoking m args :: below)) m args below meth c T [] 0 0 := by
  have htop : (T.setVm s.vm).topJava?.isSome := X.here.top
  have hF : ((T.setVm s.vm).setFrames (.invoking m args :: below)).frames = .invoking m args :: below := State.frames_setFrames _ (State.cur_lt_of_top htop)
  obtain ⟨g₀, hg0⟩ := Option.isSome_iff_exists.mp htop
  obtain ⟨r, hr⟩ := State.topJava?_eq_some.mp hg0
  have hl9 : e.platform.stackLimits (T.setVm s.vm).me = e.platform.stackLimits s.me := X.limits
  have hb9 : (T.setVm s.vm).me.stackBytes = s.me.stackBytes := X.bytes
  refine ⟨X.admits, X.cas, X.clock, hF, ?_, X.hears, X.method, X.code, X.here, X.tail, X.warmed, ?_, ?_, ?_⟩
  · have h := X.room
    have hU : ((T.setVm s.vm).setFrames (.invoking m args :: below)).localsInUse = s.localsInUse := by
      rw [State.localsInUse_invoking hF (meth := meth) (c := c) X.method X.code, State.localsInUse_invoking X.frames X.method X.code]
    simp only [State.hasRoom, Bool.and_eq_true, decide_eq_true_eq] at h ⊢
    obtain ⟨⟨⟨⟨h1, h2, h3, h4, h5, h6⟩, h7⟩, h8⟩, h9⟩ := h
    rw [X.frames, List.length_cons] at h2 h3
    have q1 := X.heapSize
    have q2 := X.used
    simp only [hF, hU, List.length_cons, State.stackLimits_setFrames, State.stackBytes_setFrames, hl9, hb9]
    refine ⟨⟨⟨⟨by omega, by omega, by omega, by omega, by omega, h6⟩, ?_⟩, ?_⟩, X.book⟩
    · show T.heap.size + R'.cells ≤ e.platform.maxCells
      omega
    · show T.slotsUsed + R'.slots ≤ e.platform.maxSlots
      omega
  · rw [State.stackLimits_setFrames]; rfl
  · rw [State.stackBytes_setFrames]; rfl
  · refine ⟨?_, Nat.le_refl _, Nat.le_refl _, ?_, ?_, fun a c9 h9 => ⟨c9, h9, rfl, rfl, fun _ _ => rfl⟩⟩
    · obtain ⟨t, ht, -⟩ := State.frames_cons hr
      show T.setVm s.vm = { ((T.setVm s.vm).setFrames (.invoking m args :: below)).setFrames (T.setVm s.vm).frames with heap := T.heap, slotsUsed := T.slotsUsed }
      rw [State.setFrames_setFrames, State.setFrames_self ht]
      rfl
    · show T.slotsUsed = T.slotsUsed + ((T.heap.toList.drop T.heap.size).map (·.slots.size)).sum
      rw [List.drop_eq_nil_of_le (Nat.le_of_eq Array.length_toList)]
      rfl
    · show ((T.heap.toList.drop T.heap.size).map (·.slots.size)).sum ≤ 0
      rw [List.drop_eq_nil_of_le (Nat.le_of_eq Array.length_toList)]
      exact Nat.le_refl _
/-- 'throw new E()': new; dup; invokespecial; athrow -/
theorem vx_throw0 {cc : ByteArray} {pc : Nat} (hexec : p.tables.exec = Jvm.exec) (hb : c.code = cc) (hl : l.stackTraces = false) {own cls : String} {names : List String} {ik ic mc ms : Nat} {A : Nat → Prop}
    (hown : s.vm.findClass own = some m.cls) (hcls : Bundle.fit cls = true) (hnames : ∀ n ∈ names, Bundle.fit n = true)
    (hk : (Cond.classLink own ik cls).before args s = true) (hini : (Cond.initialized cls).before args s = true) (hat : ∀ w ∈ vx_at0 own ic cls names, w.before args s = true)
    (hgood : ∀ w ∈ Cond.classLink own ik cls :: Cond.initialized cls :: vx_at0 own ic cls names, vx_ot w = true)
    (hU : vx_Zq Bundle.tN "UNASSIGNED_STACK" Bundle.steD A s s.heap) (hN : vx_Zq Bundle.tN "SUPPRESSED_SENTINEL" Bundle.listD A s s.heap) (hS : va_S A s.heap H locs) (hsize : ls.size = c.maxLocals)
    (d0 : decode cc pc = .ok (.new ik, 3)) (d3 : decode cc (pc + 3) = .ok (.dup, 1)) (d4 : decode cc (pc + 4) = .ok (.invokespecial ic, 3)) (d7 : decode cc (pc + 7) = .ok (.athrow, 1))
    (hout : ∀ x ∈ c.exceptionTable.toList, covers x (pc + 7) = false)
    (hRframes : names.length + 3 < R.frames) (hRlocals : (rest.map fun v => v.category).sum + (13 * (names.length + 1) + 42) ≤ R.locals) (hRcells : cells + 1 ≤ R.cells) (hRslots : slots + 6 ≤ R.slots) (hlocks : meth.locks = false)
    (hx : ∀ t : State, s.vm.Alike t.vm → H.size ≤ t.heap.size → (∀ q : Nat, q < H.size → t.heap[q]? = H[q]?) → XC cls s t)
    (hf : ∀ z ∈ locs, free z.base) (hc : cells + 1 ≤ mc) (hs : slots + 6 ≤ ms) :
    W p l e R s m args below meth c H locs cells slots (vx_MQ below Qc XC args s mc ms free) (F0 m pc ls rest) := by
  intro T hT X
  have htr : e.platform.stackTraces = false := (show e.platform.stackTraces = l.stackTraces by rw [X.admits.platform]).trans hl
  have Y := vx_rebase X (R' := { frames := R.frames, locals := R.locals, cells := 1, slots := 6 }) (Nat.le_refl _) (Nat.le_refl _) hRcells hRslots
  obtain ⟨s', hA⟩ : ∃ z, z = (T.setVm s.vm).setFrames (.invoking m args :: below) := ⟨_, rfl⟩
  rw [← hA] at Y
  have hvm : s'.vm = s.vm := by rw [hA]; rfl
  have hhp : s'.heap = H := by rw [hA]; exact hT
  have hW0 : s.WarmedH s'.vm := by rw [hvm]; exact State.WarmedH.refl s
  have hat' : ∀ w ∈ vx_at0 own ic cls names, w.before args s' = true := fun w hw => vx_ot_at hW0 hvm.symm (hgood w (List.mem_cons_of_mem _ (List.mem_cons_of_mem _ hw))) (hat w hw)
  have hk' : (Cond.classLink own ik cls).before args s' = true := vx_ot_at hW0 hvm.symm (hgood _ List.mem_cons_self) hk
  have hini' : (Cond.initialized cls).before args s' = true := vx_ot_at hW0 hvm.symm (hgood _ (List.mem_cons_of_mem _ List.mem_cons_self)) hini
  have hU' : vx_Zq Bundle.tN "UNASSIGNED_STACK" Bundle.steD A s' s'.heap := by rw [hhp]; exact vx_Zq.moved hW0.alike (hU.kept hS.2.1)
  have hN' : vx_Zq Bundle.tN "SUPPRESSED_SENTINEL" Bundle.listD A s' s'.heap := by rw [hhp]; exact vx_Zq.moved hW0.alike (hN.kept hS.2.1)
  have h : ∀ w ∈ Bundle.ownAtoms0 own ic cls names, w.before args s' = true := vx_own hat' (vx_isRefq hU'.1) (vx_isRefq hN'.1) hU'.2.word hN'.2.word
  have hown' : s'.vm.findClass own = some m.cls := by rw [hvm]; exact hown
  have hins : (Cond.instantiable cls 6).before args s' = true := h _ (by simp [Bundle.ownAtoms0])
  obtain ⟨vm₁, cX, kX, hfX, hkX, -, -, X₁, st1⟩ := Y.newCold hexec (own := own) (C := cls) (index := ik) (n := 6) hown' hk' hins hini'
    (g := F0 m pc ls rest) rfl (by rw [hb]; exact d0) (Nat.le_refl _) (Nat.le_refl _)
  generalize hT1 : (T.setVm vm₁).pushCell { cls := cX, slots := kX.instanceTypes.map defaultValue, vm := .none } = T1 at X₁ st1
  have hcat : (Value.ref T.heap.size).category = 1 := rfl
  have hcellA : T1.heap[T.heap.size]? = some (freshCell cX kX) := by rw [← hT1]; exact State.heap_pushCell_size _ _
  have d3' : decode c.code (pc + 3) = .ok (.dup, 1) := by rw [hb]; exact d3
  obtain ⟨U, hsteps, hrun, hend, hW, hsame, ce, hce, hO⟩ := X₁.ctorThrow0 hexec htr (own := own) (cls := cls) (names := names) (ic := ic) hown' hcls hnames h (fun x hx => nomatch hx) hfX hkX hcellA (by rw [hhp, hT]; exact Nat.le_refl _)
    (g := { method := m, pc := pc + 4, locals := ls, stack := .ref T.heap.size :: .ref T.heap.size :: rest, locked := none }) rfl hsize rfl rfl (rest := rest) rfl
    (by rw [hb]; exact d4) (by rw [hb]; exact d7) hout hRframes (by simp only [List.map_cons, List.sum_cons, hcat]; omega) hlocks
  obtain ⟨f1, f2⟩ := vx_frame hsame
  rw [hhp] at f1 f2
  have hWs : s.WarmedH U.vm := State.WarmedH.trans hW0 hW
  have hcl : s.vm.findClass cls = some ce.cls := by
    have h9 := hO.cls
    rw [hvm] at h9
    exact h9
  have hall : s.sameButNew ({ U with vm := s.vm } : State) locs mc ms := by
    subst hA
    obtain ⟨e1, e2⟩ := hsame
    rw [State.setFrames_setFrames] at e1
    have h2 : (T.setVm s.vm).sameButNew ({ U with vm := s.vm } : State) [] (0 + 1) (0 + 6) := ⟨e1, e2⟩
    have h3 := X.same.trans h2
    rw [List.append_nil] at h3
    exact h3.mono hc hs
  refine ⟨U, ?_, .threw T.heap.size, hrun, hend, Or.inr ⟨T.heap.size, rfl, cls, ce, locs, hx U hWs.alike f1 (fun q hq => f2 q hq (fun z hz => nomatch hz)), hce, hO.vm, hcl, hWs, hall, hf⟩⟩
  refine st1 _ ?_
  show Steps p.tables e below (T1.setTop { method := m, pc := pc + 3, locals := ls, stack := .ref T.heap.size :: rest, locked := none }) _
  jvm_step X₁.here [X₁.here.top, hexec, d3', Value.category]
  exact hsteps
/-- 'throw new E("text")': new; dup; ldc; invokespecial; athrow -/
theorem vx_throwS {cc : ByteArray} {pc : Nat} (hexec : p.tables.exec = Jvm.exec) (hb : c.code = cc) (hl : l.stackTraces = false) {own cls text : String} {names : List String} {ik is ic mc ms sa : Nat} {A : Nat → Prop}
    (hown : s.vm.findClass own = some m.cls) (hcls : Bundle.fit cls = true) (hnames : ∀ n ∈ names, Bundle.fit n = true)
    (hk : (Cond.classLink own ik cls).before args s = true) (hini : (Cond.initialized cls).before args s = true) (hstr : vk_R own is text sa s) (hat : ∀ w ∈ vx_atS own ic cls names, w.before args s = true)
    (hgood : ∀ w ∈ Cond.classLink own ik cls :: Cond.initialized cls :: vx_atS own ic cls names, vx_ot w = true)
    (hU : vx_Zq Bundle.tN "UNASSIGNED_STACK" Bundle.steD A s s.heap) (hN : vx_Zq Bundle.tN "SUPPRESSED_SENTINEL" Bundle.listD A s s.heap) (hS : va_S A s.heap H locs) (hsize : ls.size = c.maxLocals)
    (d0 : decode cc pc = .ok (.new ik, 3)) (d3 : decode cc (pc + 3) = .ok (.dup, 1)) (d4 : decode cc (pc + 4) = .ok (.ldc is, 2)) (d6 : decode cc (pc + 6) = .ok (.invokespecial ic, 3)) (d9 : decode cc (pc + 9) = .ok (.athrow, 1))
    (hout : ∀ x ∈ c.exceptionTable.toList, covers x (pc + 9) = false)
    (hRframes : names.length + 3 < R.frames) (hRlocals : (rest.map fun v => v.category).sum + (13 * (names.length + 1) + 43) ≤ R.locals) (hRcells : cells + 1 ≤ R.cells) (hRslots : slots + 6 ≤ R.slots) (hlocks : meth.locks = false)
    (hx : ∀ t : State, s.vm.Alike t.vm → H.size ≤ t.heap.size → (∀ q : Nat, q < H.size → t.heap[q]? = H[q]?) → XC cls s t)
    (hf : ∀ z ∈ locs, free z.base) (hc : cells + 1 ≤ mc) (hs : slots + 6 ≤ ms) :
    W p l e R s m args below meth c H locs cells slots (vx_MQ below Qc XC args s mc ms free) (F0 m pc ls rest) := by
  intro T hT X
  have htr : e.platform.stackTraces = false := (show e.platform.stackTraces = l.stackTraces by rw [X.admits.platform]).trans hl
  have Y := vx_rebase X (R' := { frames := R.frames, locals := R.locals, cells := 1, slots := 6 }) (Nat.le_refl _) (Nat.le_refl _) hRcells hRslots
  obtain ⟨s', hA⟩ : ∃ z, z = (T.setVm s.vm).setFrames (.invoking m args :: below) := ⟨_, rfl⟩
  rw [← hA] at Y
  have hvm : s'.vm = s.vm := by rw [hA]; rfl
  have hhp : s'.heap = H := by rw [hA]; exact hT
  have hW0 : s.WarmedH s'.vm := by rw [hvm]; exact State.WarmedH.refl s
  have hat' : ∀ w ∈ vx_atS own ic cls names, w.before args s' = true := fun w hw => vx_ot_at hW0 hvm.symm (hgood w (List.mem_cons_of_mem _ (List.mem_cons_of_mem _ hw))) (hat w hw)
  have hk' : (Cond.classLink own ik cls).before args s' = true := vx_ot_at hW0 hvm.symm (hgood _ List.mem_cons_self) hk
  have hini' : (Cond.initialized cls).before args s' = true := vx_ot_at hW0 hvm.symm (hgood _ (List.mem_cons_of_mem _ List.mem_cons_self)) hini
  have hU' : vx_Zq Bundle.tN "UNASSIGNED_STACK" Bundle.steD A s' s'.heap := by rw [hhp]; exact vx_Zq.moved hW0.alike (hU.kept hS.2.1)
  have hN' : vx_Zq Bundle.tN "SUPPRESSED_SENTINEL" Bundle.listD A s' s'.heap := by rw [hhp]; exact vx_Zq.moved hW0.alike (hN.kept hS.2.1)
  have h : ∀ w ∈ Bundle.ownAtoms own ic cls names, w.before args s' = true := vx_own hat' (vx_isRefq hU'.1) (vx_isRefq hN'.1) hU'.2.word hN'.2.word
  have hown' : s'.vm.findClass own = some m.cls := by rw [hvm]; exact hown
  have hins : (Cond.instantiable cls 6).before args s' = true := h _ (by simp [Bundle.ownAtoms])
  obtain ⟨vm₁, cX, kX, hfX, hkX, -, -, X₁, st1⟩ := Y.newCold hexec (own := own) (C := cls) (index := ik) (n := 6) hown' hk' hins hini'
    (g := F0 m pc ls rest) rfl (by rw [hb]; exact d0) (Nat.le_refl _) (Nat.le_refl _)
  generalize hT1 : (T.setVm vm₁).pushCell { cls := cX, slots := kX.instanceTypes.map defaultValue, vm := .none } = T1 at X₁ st1
  have hcat : (Value.ref T.heap.size).category = 1 := rfl
  have hcellA : T1.heap[T.heap.size]? = some (freshCell cX kX) := by rw [← hT1]; exact State.heap_pushCell_size _ _
  have d3' : decode c.code (pc + 3) = .ok (.dup, 1) := by rw [hb]; exact d3
  have d4' : decode c.code (pc + 4) = .ok (.ldc is, 2) := by rw [hb]; exact d4
  have hstr' : vk_R own is text sa s' := vk_R.warm hW0 hstr
  obtain ⟨U, hsteps, hrun, hend, hW, hsame, ce, hce, hO⟩ := X₁.ctorThrowS hexec htr (own := own) (cls := cls) (names := names) (ic := ic) hown' hcls hnames h (fun x hx => nomatch hx) hfX hkX hcellA (by rw [hhp, hT]; exact Nat.le_refl _) (msg := .ref sa) rfl
    (g := { method := m, pc := pc + 6, locals := ls, stack := .ref sa :: .ref T.heap.size :: .ref T.heap.size :: rest, locked := none }) rfl hsize rfl rfl (rest := rest) rfl
    (by rw [hb]; exact d6) (by rw [hb]; exact d9) hout hRframes (by simp only [List.map_cons, List.sum_cons, hcat]; omega) hlocks
  obtain ⟨f1, f2⟩ := vx_frame hsame
  rw [hhp] at f1 f2
  have hWs : s.WarmedH U.vm := State.WarmedH.trans hW0 hW
  have hcl : s.vm.findClass cls = some ce.cls := by
    have h9 := hO.cls
    rw [hvm] at h9
    exact h9
  have hall : s.sameButNew ({ U with vm := s.vm } : State) locs mc ms := by
    subst hA
    obtain ⟨e1, e2⟩ := hsame
    rw [State.setFrames_setFrames] at e1
    have h2 : (T.setVm s.vm).sameButNew ({ U with vm := s.vm } : State) [] (0 + 1) (0 + 6) := ⟨e1, e2⟩
    have h3 := X.same.trans h2
    rw [List.append_nil] at h3
    exact h3.mono hc hs
  refine ⟨U, ?_, .threw T.heap.size, hrun, hend, Or.inr ⟨T.heap.size, rfl, cls, ce, locs, hx U hWs.alike f1 (fun q hq => f2 q hq (fun z hz => nomatch hz)), hce, hO.vm, hcl, hWs, hall, hf⟩⟩
  refine st1 _ ?_
  show Steps p.tables e below (T1.setTop { method := m, pc := pc + 3, locals := ls, stack := .ref T.heap.size :: rest, locked := none }) _
  jvm_step X₁.here [X₁.here.top, hexec, d3', Value.category]
  exact X₁.ldcString hexec (own := own) (text := text) (index := is) (a := sa) hown' hstr'.1 hstr'.2
    (g := { method := m, pc := pc + 4, locals := ls, stack := .ref T.heap.size :: .ref T.heap.size :: rest, locked := none }) rfl d4' _ hsteps
/-- 'throw new E("text")', the text by a wide index -/
theorem vx_throwSW {cc : ByteArray} {pc : Nat} (hexec : p.tables.exec = Jvm.exec) (hb : c.code = cc) (hl : l.stackTraces = false) {own cls text : String} {names : List String} {ik is ic mc ms sa : Nat} {A : Nat → Prop}
    (hown : s.vm.findClass own = some m.cls) (hcls : Bundle.fit cls = true) (hnames : ∀ n ∈ names, Bundle.fit n = true)
    (hk : (Cond.classLink own ik cls).before args s = true) (hini : (Cond.initialized cls).before args s = true) (hstr : vk_R own is text sa s) (hat : ∀ w ∈ vx_atS own ic cls names, w.before args s = true)
    (hgood : ∀ w ∈ Cond.classLink own ik cls :: Cond.initialized cls :: vx_atS own ic cls names, vx_ot w = true)
    (hU : vx_Zq Bundle.tN "UNASSIGNED_STACK" Bundle.steD A s s.heap) (hN : vx_Zq Bundle.tN "SUPPRESSED_SENTINEL" Bundle.listD A s s.heap) (hS : va_S A s.heap H locs) (hsize : ls.size = c.maxLocals)
    (d0 : decode cc pc = .ok (.new ik, 3)) (d3 : decode cc (pc + 3) = .ok (.dup, 1)) (d4 : decode cc (pc + 4) = .ok (.ldc_w is, 3)) (d7 : decode cc (pc + 7) = .ok (.invokespecial ic, 3)) (d10 : decode cc (pc + 10) = .ok (.athrow, 1))
    (hout : ∀ x ∈ c.exceptionTable.toList, covers x (pc + 10) = false)
    (hRframes : names.length + 3 < R.frames) (hRlocals : (rest.map fun v => v.category).sum + (13 * (names.length + 1) + 43) ≤ R.locals) (hRcells : cells + 1 ≤ R.cells) (hRslots : slots + 6 ≤ R.slots) (hlocks : meth.locks = false)
    (hx : ∀ t : State, s.vm.Alike t.vm → H.size ≤ t.heap.size → (∀ q : Nat, q < H.size → t.heap[q]? = H[q]?) → XC cls s t)
    (hf : ∀ z ∈ locs, free z.base) (hc : cells + 1 ≤ mc) (hs : slots + 6 ≤ ms) :
    W p l e R s m args below meth c H locs cells slots (vx_MQ below Qc XC args s mc ms free) (F0 m pc ls rest) := by
  intro T hT X
  have htr : e.platform.stackTraces = false := (show e.platform.stackTraces = l.stackTraces by rw [X.admits.platform]).trans hl
  have Y := vx_rebase X (R' := { frames := R.frames, locals := R.locals, cells := 1, slots := 6 }) (Nat.le_refl _) (Nat.le_refl _) hRcells hRslots
  obtain ⟨s', hA⟩ : ∃ z, z = (T.setVm s.vm).setFrames (.invoking m args :: below) := ⟨_, rfl⟩
  rw [← hA] at Y
  have hvm : s'.vm = s.vm := by rw [hA]; rfl
  have hhp : s'.heap = H := by rw [hA]; exact hT
  have hW0 : s.WarmedH s'.vm := by rw [hvm]; exact State.WarmedH.refl s
  have hat' : ∀ w ∈ vx_atS own ic cls names, w.before args s' = true := fun w hw => vx_ot_at hW0 hvm.symm (hgood w (List.mem_cons_of_mem _ (List.mem_cons_of_mem _ hw))) (hat w hw)
  have hk' : (Cond.classLink own ik cls).before args s' = true := vx_ot_at hW0 hvm.symm (hgood _ List.mem_cons_self) hk
  have hini' : (Cond.initialized cls).before args s' = true := vx_ot_at hW0 hvm.symm (hgood _ (List.mem_cons_of_mem _ List.mem_cons_self)) hini
  have hU' : vx_Zq Bundle.tN "UNASSIGNED_STACK" Bundle.steD A s' s'.heap := by rw [hhp]; exact vx_Zq.moved hW0.alike (hU.kept hS.2.1)
  have hN' : vx_Zq Bundle.tN "SUPPRESSED_SENTINEL" Bundle.listD A s' s'.heap := by rw [hhp]; exact vx_Zq.moved hW0.alike (hN.kept hS.2.1)
  have h : ∀ w ∈ Bundle.ownAtoms own ic cls names, w.before args s' = true := vx_own hat' (vx_isRefq hU'.1) (vx_isRefq hN'.1) hU'.2.word hN'.2.word
  have hown' : s'.vm.findClass own = some m.cls := by rw [hvm]; exact hown
  have hins : (Cond.instantiable cls 6).before args s' = true := h _ (by simp [Bundle.ownAtoms])
  obtain ⟨vm₁, cX, kX, hfX, hkX, -, -, X₁, st1⟩ := Y.newCold hexec (own := own) (C := cls) (index := ik) (n := 6) hown' hk' hins hini'
    (g := F0 m pc ls rest) rfl (by rw [hb]; exact d0) (Nat.le_refl _) (Nat.le_refl _)
  generalize hT1 : (T.setVm vm₁).pushCell { cls := cX, slots := kX.instanceTypes.map defaultValue, vm := .none } = T1 at X₁ st1
  have hcat : (Value.ref T.heap.size).category = 1 := rfl
  have hcellA : T1.heap[T.heap.size]? = some (freshCell cX kX) := by rw [← hT1]; exact State.heap_pushCell_size _ _
  have d3' : decode c.code (pc + 3) = .ok (.dup, 1) := by rw [hb]; exact d3
  have d4' : decode c.code (pc + 4) = .ok (.ldc_w is, 3) := by rw [hb]; exact d4
  have hstr' : vk_R own is text sa s' := vk_R.warm hW0 hstr
  obtain ⟨U, hsteps, hrun, hend, hW, hsame, ce, hce, hO⟩ := X₁.ctorThrowS hexec htr (own := own) (cls := cls) (names := names) (ic := ic) hown' hcls hnames h (fun x hx => nomatch hx) hfX hkX hcellA (by rw [hhp, hT]; exact Nat.le_refl _) (msg := .ref sa) rfl
    (g := { method := m, pc := pc + 7, locals := ls, stack := .ref sa :: .ref T.heap.size :: .ref T.heap.size :: rest, locked := none }) rfl hsize rfl rfl (rest := rest) rfl
    (by rw [hb]; exact d7) (by rw [hb]; exact d10) hout hRframes (by simp only [List.map_cons, List.sum_cons, hcat]; omega) hlocks
  obtain ⟨f1, f2⟩ := vx_frame hsame
  rw [hhp] at f1 f2
  have hWs : s.WarmedH U.vm := State.WarmedH.trans hW0 hW
  have hcl : s.vm.findClass cls = some ce.cls := by
    have h9 := hO.cls
    rw [hvm] at h9
    exact h9
  have hall : s.sameButNew ({ U with vm := s.vm } : State) locs mc ms := by
    subst hA
    obtain ⟨e1, e2⟩ := hsame
    rw [State.setFrames_setFrames] at e1
    have h2 : (T.setVm s.vm).sameButNew ({ U with vm := s.vm } : State) [] (0 + 1) (0 + 6) := ⟨e1, e2⟩
    have h3 := X.same.trans h2
    rw [List.append_nil] at h3
    exact h3.mono hc hs
  refine ⟨U, ?_, .threw T.heap.size, hrun, hend, Or.inr ⟨T.heap.size, rfl, cls, ce, locs, hx U hWs.alike f1 (fun q hq => f2 q hq (fun z hz => nomatch hz)), hce, hO.vm, hcl, hWs, hall, hf⟩⟩
  refine st1 _ ?_
  show Steps p.tables e below (T1.setTop { method := m, pc := pc + 3, locals := ls, stack := .ref T.heap.size :: rest, locked := none }) _
  jvm_step X₁.here [X₁.here.top, hexec, d3', Value.category]
  exact X₁.ldcStringW hexec (own := own) (text := text) (index := is) (a := sa) hown' hstr'.1 hstr'.2
    (g := { method := m, pc := pc + 4, locals := ls, stack := .ref T.heap.size :: .ref T.heap.size :: rest, locked := none }) rfl d4' _ hsteps
end Ends
section Bodies
variable {l : Launch}
theorem vx_ofW {y : MethodName} {ws ws' : List Cond} {rm : Room} {Pc : Array Value → State → Prop} {Qc : Array Value → State → Outcome → State → Prop} {XC : String → State → State → Prop} {mc ms : Nat} {free : Addr → Prop} {cc : ByteArray} {maxL : Nat} {ret : Option FieldType}
    (hy : plainName y.cls = true) (hw : ws = Cond.code y cc maxL ret :: ws')
    (body : ∀ p e s m args below meth c s₁, BodyLoose p l y (headSpec ws rm) cc maxL ret e s m args below meth c s₁ → c.maxLocals = maxL → (∀ x ∈ c.exceptionTable.toList, False) → Pc args s →
      W p l e (headSpec ws rm).room s m args below meth c s.heap [] 0 0 (vx_MQ below Qc XC args s mc ms free) (entryFrame m args maxL)) : vx_Met l y ws rm Pc Qc XC mc ms free := by
  refine MetFree.of_bodyS (code := cc) (maxLocals := maxL) (ret := ret) hy ?_ ?_
  · intro args s m h hn
    obtain ⟨meth, c, h1, h2, h3, h4, h5, h6, -, -⟩ := Cond.code_spec hn (atoms_spec (ws := ws) h _ (by rw [hw]; exact List.mem_cons_self))
    exact ⟨meth, c, h1, h2, h3, h4, h5, h6⟩
  · intro p e s m args below meth c s₁ B hml hP _
    have hh0 : s₁.heap = s.heap := by rw [B.state]; rfl
    have ht : ∀ x ∈ c.exceptionTable.toList, False := by
      obtain ⟨meth9, c9, h1, h2, -, -, -, -, h7, -⟩ := Cond.code_spec B.named (atoms_spec (ws := ws) B.pre _ (by rw [hw]; exact List.mem_cons_self))
      cases Option.some.inj (h1.symm.trans B.method)
      cases Option.some.inj (h2.symm.trans (Stand.of_body B).code)
      intro x hx
      rw [Array.isEmpty_iff.mp h7] at hx
      cases hx
    obtain ⟨t, a1, o, b1, b2, b3⟩ := body p e s m args below meth c s₁ B hml ht hP s₁ hh0 (Stand.of_body B)
    exact ⟨t, o, a1, b1, b2, b3⟩
/-- the table of a body with handlers -/
theorem vx_table {p : Program} {x y : MethodName} {S : Spec} {cc bytes : ByteArray} {maxL maxL' : Nat} {ret ret' : Option FieldType} {e : Env} {s s₁ : State} {m : MethodId} {args : Array Value} {below : List Frame} {meth : Method} {c : Code} {hh : List (Nat × Nat × Nat × Nat)}
    (B : BodyLoose p l y S cc maxL ret e s m args below meth c s₁) (h : (Cond.codeWith y bytes maxL' ret' hh).before args s = true) : c.exceptionTable.toList = tableOf hh := by
  obtain ⟨m9, meth9, c9, hn9, h1, h2, -, -, h6, -⟩ := Cond.codeWith_spec h
  cases Option.some.inj (hn9.symm.trans B.named)
  cases Option.some.inj (h1.symm.trans B.method)
  cases Option.some.inj (h2.symm.trans (Stand.of_body B).code)
  rw [← h6, table_eq]
end Bodies
end VXA
/-! ===== END ===== -/
/-! ===== BEGIN a static call of a method with an exception table ===== -/
section VXS
variable {p : Program} {l : Launch} {e : Env} {R : Room} {s : State} {m : MethodId} {args : Array Value} {below : List Frame} {meth : Method} {c : Code} {T : State} {H : Heap} {locs : List Loc} {cells slots : Nat}
abbrev vx_CSW (R : Room) (s : State) (args : Array Value) (own : String) (index : Nat) (y : MethodName) (bytes : ByteArray) (maxL : Nat) (ret : Option FieldType) (hh : List (Nat × Nat × Nat × Nat)) (ws : List Cond) (rm : Room) (mc ms n : Nat) : Prop :=
  (rm.cells = mc ∧ rm.slots = ms ∧ rm.frames + 1 ≤ R.frames ∧ 8 + (maxL + 11) + rm.locals ≤ R.locals ∧ (∀ w ∈ ws, ∀ (a' : Array Value) (U : State), s.WarmedH U.vm → w.before a' U = true) ∧ Cond.codeWith y bytes maxL ret hh ∈ ws) ∧
  (Cond.codeWith y bytes maxL ret hh).before args s = true ∧ (Cond.initialized y.cls).before args s = true ∧ (y.cls ≠ "java/lang/invoke/MethodHandle" ∧ y.cls ≠ "java/lang/invoke/VarHandle") ∧
  (∀ sig, parseMethodDescriptor y.desc = some sig → n = sig.parameters.length) ∧ (Cond.methodLink own index y).before args s = true ∧ (Cond.static y).before args s = true
theorem vx_cwSW {own : String} {index maxL mc ms : Nat} {y : MethodName} {bytes : ByteArray} {ret : Option FieldType} {hh : List (Nat × Nat × Nat × Nat)} {Ts ws ws' : List Cond} {rm : Room} (n : Nat) (ht : ∀ w ∈ Ts, w.before args s = true) (hT : GoodIn Ts (va_wsS own index y ws)) (hw : ws = Cond.codeWith y bytes maxL ret hh :: ws') (hrc : rm.cells = mc) (hrs : rm.slots = ms)
    (hd : y.cls ≠ "java/lang/invoke/MethodHandle" ∧ y.cls ≠ "java/lang/invoke/VarHandle" ∧ (parseMethodDescriptor y.desc).map (fun d => d.parameters.length) = some n) (hR : rm.frames + 1 ≤ R.frames ∧ 8 + (maxL + 11) + rm.locals ≤ R.locals) :
    vx_CSW R s args own index y bytes maxL ret hh ws rm mc ms n := by
  have ok : ∀ w ∈ va_wsS own index y ws, w.before args s = true := fun w h => ht w (hT w h).1
  have hG : GoodIn Ts ws := fun w h => hT w (by unfold va_wsS; exact List.mem_append_right _ h)
  have hc : Cond.codeWith y bytes maxL ret hh ∈ ws := by rw [hw]; exact List.mem_cons_self
  refine ⟨⟨hrc, hrs, hR.1, hR.2, pay_in ht hG, hc⟩, ht _ (hG _ hc).1, ok _ (by simp [va_wsS]), ⟨hd.1, hd.2.1⟩, fun sig h => ?_, ok _ (by simp [va_wsS]), ok _ (by simp [va_wsS])⟩
  have h2 := hd.2.2
  rw [h] at h2
  exact (Option.some.inj h2).symm
theorem vx_callSW (X : Stand p l e R s m args below meth c T locs cells slots) (hexec : p.tables.exec = Jvm.exec) {own : String} {index : Nat} {y : MethodName} {bytes : ByteArray} {maxL : Nat} {ret : Option FieldType} {hh : List (Nat × Nat × Nat × Nat)}
    (hown : s.vm.findClass own = some m.cls) (hlink : (Cond.methodLink own index y).before args s = true) (hstat : (Cond.static y).before args s = true) (hinit : (Cond.initialized y.cls).before args s = true)
    (hcode : (Cond.codeWith y bytes maxL ret hh).before args s = true) (hy : y.cls ≠ "java/lang/invoke/MethodHandle" ∧ y.cls ≠ "java/lang/invoke/VarHandle")
    {W9 : Nat} {Pre : Pt → Array Value → Prop} {Post : Pt → Array Value → Option Value → Pt → Prop} (hK : Back l R p e below s args y 3 W9 Pre Post)
    {g : JFrame} (hg : g.method = m) (hsize : g.locals.size = c.maxLocals) {argsL rest : List Value} (hlen : ∀ sig, parseMethodDescriptor y.desc = some sig → argsL.length = sig.parameters.length)
    (hstack : g.stack = argsL.reverse ++ rest) (hW : 2 * g.monitorRoom + (rest.map fun v => v.category).sum ≤ W9) (hdg : decode c.code g.pc = .ok (.invokestatic index, 3))
    (hpre : ∀ vm₁, s.WarmedH vm₁ → Pre ⟨T.setVm vm₁, locs, cells, slots⟩ argsL.toArray) :
    ∃ (v : Option Value) (vm₁ : Vm) (B : Pt), s.WarmedH vm₁ ∧ Stand p l e R s m args below meth c B.U B.locs B.cells B.slots ∧ Post ⟨T.setVm vm₁, locs, cells, slots⟩ argsL.toArray v B ∧
      ∀ target, Steps p.tables e below (B.U.setTop { g with pc := g.pc + 3, stack := v.toList ++ rest }) target → Steps p.tables e below (T.setTop g) target := by
  obtain ⟨mk, methM, cM, hnamed, hmethM, -, -, -, -, -, -, hsigM⟩ := Cond.codeWith_spec hcode
  have hstatic : methM.isStatic = true := Cond.static_spec hnamed hmethM hstat
  obtain ⟨kP, hkP, -⟩ := className_of_methodNamed hnamed
  have hinitP : kP.init = .initialized := Cond.initialized_spec (findClass_of_methodNamed hnamed) hkP hinit
  obtain ⟨vm₁, X₁, hstep₁⟩ := X.invokestatic hexec hown hlink hnamed hmethM hstatic hkP hinitP hy (g := g) hg (argsL := argsL) (rest := rest) (hlen _ hsigM) hstack hdg
  obtain ⟨v, B, X', hpost, hsteps⟩ := hK m meth c ⟨T.setVm vm₁, locs, cells, slots⟩ { g with stack := rest } (.invokestatic index) mk argsL.toArray X₁ hg hsize hdg hW (X₁.named hnamed) (hpre vm₁ X₁.warmed)
  exact ⟨v, vm₁, B, X₁.warmed, X', hpost, fun target h => hstep₁ _ fun acts => by rw [doInvoke_state]; exact hsteps.trans h⟩
theorem vx_runSW {y : MethodName} {bytes cc : ByteArray} {maxL nL mc ms n index : Nat} {ret : Option FieldType} {hh : List (Nat × Nat × Nat × Nat)} {ws : List Cond} {rm : Room} {Pc : Array Value → State → Prop} {Qc : Array Value → State → Outcome → State → Prop} {free : Addr → Prop} {Ts : List Cond} {own : String} {As rest : List Value} {g : JFrame}
    (S : CallFix p m c cc nL s args Ts own) (hM : Met l y ws rm Pc Qc mc ms free) (cw : vx_CSW R s args own index y bytes maxL ret hh ws rm mc ms n) (hp : PreS s H Pc As)
    (hg : g.method = m) (hn : As.length = n) (hsize : g.locals.size = nL) (hstack : g.stack = As.reverse ++ rest) (hW : 2 * g.monitorRoom + (rest.map fun v => v.category).sum ≤ 8) (hdg : decode cc g.pc = .ok (.invokestatic index, 3)) (hf : cells + mc ≤ R.cells ∧ slots + ms ≤ R.slots) :
    va_Run p l e R s m args below meth c H locs cells slots mc ms g rest (Qc As.toArray) (free) := by
  obtain ⟨⟨hrc, hrs, hfr, hlo, hws, hcw⟩, hcode, hini, hy, hlen, hl, hstt⟩ := cw
  have hK : Back l R p e below s args y 3 8 (PreOf R mc ms Pc) (PostOf Qc mc ms free) := va_backW (hh := hh) (bytes := bytes) (maxL := maxL) (ret := ret) hM hp.1 hrc hrs hfr hlo hws hcw (fun a' U hW => word_at hW (Or.inl (by first | rfl | simp [Cond.onTables, Cond.keeps, Cond.steady])) hini)
  obtain ⟨hx, hb, hml, ho, -⟩ := S
  intro T hT X
  obtain ⟨v, vm₁, ⟨U', l2, c2, s2⟩, hW₁, X', ⟨g', mk, t, L, e1, e2, hq, h1, hL, h2, h3⟩, st⟩ := vx_callSW X hx (hh := hh) (bytes := bytes) (maxL := maxL) (ret := ret) ho hl hstt hini hcode hy hK hg (hsize.trans hml.symm) (argsL := As) (rest := rest) (fun sig h => hn.trans (hlen sig h)) hstack hW (by rw [hb]; exact hdg)
    (fun vm₁ hW₁ => ⟨hf.1, hf.2, hp.2 (T.setVm vm₁) hT hW₁⟩)
  dsimp only [Pt.U, Pt.locs, Pt.cells, Pt.slots] at X' e1 e2 h1 h2 h3 st
  subst h1; subst h2; subst h3
  exact ⟨v, (T.setVm vm₁).calling g' mk As.toArray, t, U', L, hT, X', hL, e1, e2, hq, st⟩
/-- not caught here, past rows that name other classes: it goes on to the caller -/
theorem vx_outP {p : Program} {l : Launch} {e : Env} {R : Room} {s : State} {m : MethodId} {args : Array Value} {below : List Frame} {meth : Method} {c : Code} {H : Heap} {locs : List Loc} {cells slots : Nat} {free : Addr → Prop} {ls : Array Slot} {rest : List Value} {Qc : Array Value → State → Outcome → State → Prop} {XC : String → State → State → Prop}
    {pc : Nat} {own E : String} {ce : Cell} {q : Addr} {mc ms : Nat} (hown : s.vm.findClass own = some m.cls) (hlocks : meth.locks = false)
    (hpass : ∀ z ∈ c.exceptionTable.toList, covers z pc = false ∨ (z.catchType ≠ 0 ∧ ∃ nm : String, (Cond.classLink own z.catchType nm).before args s = true ∧ va_Nc E nm s)) (hcell : H[q]? = some ce) (hv : ce.vm = .none) (hcl : s.vm.findClass E = some ce.cls)
    (hx : ∀ t : State, t.heap = H → s.vm.Alike t.vm → XC E s t) (hf : ∀ z ∈ locs, free z.base) (hc : cells ≤ mc) (hs : slots ≤ ms) :
    vx_W p l e R s m args below meth c H locs cells slots (vx_MQ below Qc XC args s mc ms free) (F0 m pc ls rest) q := by
  intro T hT X
  have hpl : e.platform.magicAccessors = ({} : Platform).magicAccessors := by rw [X.admits.platform]
  obtain ⟨vm', hW', X', st⟩ := X.outThrough hlocks q (g := F0 m pc ls rest) rfl rfl rfl (cell := ce) (by rw [hT]; exact hcell) (by rw [hv]; rfl)
    (by obtain ⟨k9, h9, -⟩ := Vm.findClass_spec hcl; exact ⟨k9, h9⟩) (fun z hz => by
      rcases hpass z hz with h | ⟨hz0, nm, hl1, hn1⟩
      · exact Or.inl h
      · obtain ⟨c6, hc6, hcl6⟩ := Cond.classLink_spec hown hl1 e.platform hpl
        obtain ⟨a8, b8, h1, h2, h3⟩ := hn1
        cases Option.some.inj (h1.symm.trans hcl)
        cases Option.some.inj (h2.symm.trans hc6)
        exact Or.inr ⟨hz0, _, hcl6, h3⟩)
  obtain ⟨g₀, hfr⟩ := X'.frames_eq
  have hcell9 : ((T.setVm vm').setFrames (.throwing q :: below)).heap[q]? = some ce := by
    show T.heap[q]? = some ce
    rw [hT]; exact hcell
  have hend : Ended ((T.setVm vm').setFrames (.throwing q :: below)) below (.threw q) := State.frames_setFrames _ (State.cur_lt_of_frames hfr)
  refine ⟨(T.setVm vm').setFrames (.throwing q :: below), ?_, .threw q, X'.here.running, hend, Or.inr ⟨q, rfl, E, ce, locs, hx _ hT (X'.ends _).1.alike, hcell9, hv, hcl, (X'.ends _).1, (X'.ends _).2.mono hc hs, hf⟩⟩
  rw [X.pushThrowing_eq]
  exact st
/-- a thing of a world lies in the heap -/
theorem vx_lt {D : va_G} {cl : List vw_C} {ws : va_W} {H1 : Heap} (h : va_P D cl ws H1) {k : Nat} {q : Nat × va_E} (hk : ws[k]? = some q) : q.1 < H1.size := (h k q hk).lt
end VXS
/-! ===== END ===== -/
/-! ===== BEGIN methods with a table of their own: called by a name, returning or throwing ===== -/
section VXH
/-! vx_backW, vx_callVX, vx_callSX, vx_callVW, vx_runVW, vx_runVX, vx_runSX, vx_ofWH follow the same proofs as their sisters above (Free/Laws.lean, Shelf42/LK1.lean); vx_outP calls Shelf42/NT130.lean (outThrough). -/
section
variable {l : Launch} {R : Room} {p : Program} {e : Env} {below : List Frame} {s : State} {sargs : Array Value} {y : MethodName} {len W9 : Nat}
theorem vx_backW {ws : List Cond} {rm : Room} {Pc : Array Value → State → Prop} {Qc : Array Value → State → Outcome → State → Prop} {XC : String → State → State → Prop} {mc ms : Nat} {free : Addr → Prop} {bytes : ByteArray} {maxL : Nat} {ret : Option FieldType} {hh : List (Nat × Nat × Nat × Nat)}
    (hM : vx_Met l y ws rm Pc Qc XC mc ms free) (hblind : FrameBlind Pc) (hrc : rm.cells = mc) (hrs : rm.slots = ms)
    (hframes : rm.frames + 1 ≤ R.frames) (hlocals : W9 + (maxL + 11) + rm.locals ≤ R.locals)
    (hws : ∀ w ∈ ws, ∀ a' U, s.WarmedH U.vm → w.before a' U = true) (hcode : Cond.codeWith y bytes maxL ret hh ∈ ws) (hinit : ∀ a' U, s.WarmedH U.vm → (Cond.initialized y.cls).before a' U = true) :
    vx_Back l R p e below s sargs y len W9 (PreOf R mc ms Pc) (PostOf Qc mc ms free) (vx_Post XC mc ms free) := by
  intro m meth c A g ig mk a X hg hsize hdg hW hn hp
  have h1 : (headSpec ws rm).pre.before a A.U = true := atoms_intro fun w hw => hws w hw _ _ X.warmed
  have h2 : (Cond.codeWith y bytes maxL ret hh).before a A.U = true := hws _ hcode _ _ X.warmed
  have h3 : (Cond.initialized y.cls).before a A.U = true := hinit _ _ X.warmed
  have h4 : A.cells + (headSpec ws rm).room.cells ≤ R.cells := by rw [show (headSpec ws rm).room.cells = mc from hrc]; exact hp.1
  have h5 : A.slots + (headSpec ws rm).room.slots ≤ R.slots := by rw [show (headSpec ws rm).room.slots = ms from hrs]; exact hp.2.1
  have hPc : Pc a (A.U.calling g mk a) := hblind _ _ _ _ hp.2.2
  obtain ⟨U, Ls, c0, s0⟩ := A
  dsimp only [Pt.U, Pt.locs, Pt.cells, Pt.slots] at h1 h2 h3 h4 h5 X hn hPc ⊢
  obtain ⟨m9, methY, cY, hn9, hmY, hcY, -, hlY, -⟩ := Cond.codeWith_spec h2
  cases Option.some.inj (hn9.symm.trans hn)
  obtain ⟨kY, hkY, -⟩ := className_of_methodNamed hn
  have hinitY : kY.init = .initialized := Cond.initialized_spec (findClass_of_methodNamed hn) hkY h3
  have h : At U g.method c below := by rw [hg]; exact X.here
  have hlocals9 : W9 + (maxL + 11) + (headSpec ws rm).room.locals ≤ R.locals := hlocals
  have happ : (headSpec ws rm).appliesLoose y e.platform (U.calling g mk a) = true :=
    Spec.appliesLoose_calling (g := g) h hdg hn hkY hinitY
      (X.room_calling (g := g) (R' := (headSpec ws rm).room) hsize hmY hcY hframes (by rw [hlY]; omega) h4 h5) h1
  obtain ⟨mid, hmid⟩ := h.above
  have hfr : (U.setTop g).frames = (.java g :: mid) ++ below := by rw [State.frames_setTop' g h.top, hmid]; rfl
  obtain ⟨o, s₂, hsteps, -, hend, hq⟩ := Steps.callFree hM p X.admits X.cas X.clock (acts := []) hfr happ hPc trivial
  have hq' : vx_Q Qc XC mc ms free a (U.calling g mk a) o s₂ := hq
  rw [State.frames_setTop' g h.top] at hend
  obtain ⟨g₀, hg0⟩ := Option.isSome_iff_exists.mp h.top
  obtain ⟨r, hr⟩ := State.topJava?_eq_some.mp hg0
  have hr' : (({ U with heap := s₂.heap, slotsUsed := s₂.slotsUsed } : State).setVm s₂.vm).frames = .java g₀ :: r := hr
  rcases hq' with ⟨hqc, L, hfe, hL⟩ | ⟨q, rfl, E, ce, L, hx, hce, hcv, hcl, hW₂, hsm, hL⟩
  · obtain ⟨⟨v, rfl⟩, hW₂, e2, q2, q3, q4, q5, q6⟩ := id hfe
    have e3 : s₂ = ({ (U.calling g mk a).setFrames s₂.frames with heap := s₂.heap, slotsUsed := s₂.slotsUsed } : State).setVm s₂.vm := by
      have : s₂ = ({ s₂ with vm := (U.calling g mk a).vm } : State).setVm s₂.vm := rfl
      rw [e2] at this
      exact this
    obtain ⟨c₂, i₂, len₂, hc₂, hd₂, hf₂⟩ := hend
    have hW' : U.WarmedH s₂.vm := hW₂
    have hcc : c₂ = c := by
      have h1 : s₂.code? g.method = U.code? g.method := by
        rw [State.code?_eq, State.code?_eq, hW'.alike.method?]
      exact Option.some.inj (hc₂.symm.trans (h1.trans h.code))
    subst hcc
    have hlen : len₂ = len := by rw [hdg] at hd₂; cases hd₂; rfl
    subst hlen
    have hs₂ : s₂ = (({ U with heap := s₂.heap, slotsUsed := s₂.slotsUsed } : State).setVm s₂.vm).setTop { g with pc := g.pc + len₂, stack := v.toList ++ g.stack } := by
      refine e3.trans ?_
      rw [hf₂, State.calling_eq h.top, State.setFrames_setFrames, State.setTop_of_frames _ hr', hr]
      rfl
    have hsame : U.sameButNew ({ U with heap := s₂.heap, slotsUsed := s₂.slotsUsed } : State) L mc ms := by
      refine ⟨?_, q2, q3, q4, q5, q6⟩
      obtain ⟨t, ht, -⟩ := State.frames_cons hr
      show ({ U with heap := s₂.heap, slotsUsed := s₂.slotsUsed } : State) = { U.setFrames U.frames with heap := s₂.heap, slotsUsed := s₂.slotsUsed }
      rw [State.setFrames_self ht]
    subst hg
    refine Or.inl ⟨v, ⟨(({ U with heap := s₂.heap, slotsUsed := s₂.slotsUsed } : State).setVm s₂.vm), Ls ++ L, c0 + mc, s0 + ms⟩,
      ⟨X.admits, X.cas, X.clock, X.frames, X.room, X.hears, X.method, X.code, (X.here.setHeapUsed s₂.heap s₂.slotsUsed).setVm hW'.alike, X.tail, State.WarmedH.trans X.warmed hW', X.limits, X.bytes, X.same.trans (hsame.setVm s.vm)⟩,
      ⟨g, mk, s₂, L, rfl, rfl, hqc, rfl, hL, rfl, rfl⟩, ?_⟩
    show Steps p.tables e below _ ((({ U with heap := s₂.heap, slotsUsed := s₂.slotsUsed } : State).setVm s₂.vm).setTop { g with pc := g.pc + len₂, stack := v.toList ++ g.stack })
    rw [← hs₂]
    exact hsteps
  · obtain ⟨e2, q2, q3, q4, q5, q6⟩ := id hsm
    have e3 : s₂ = ({ (U.calling g mk a).setFrames s₂.frames with heap := s₂.heap, slotsUsed := s₂.slotsUsed } : State).setVm s₂.vm := by
      have : s₂ = ({ s₂ with vm := (U.calling g mk a).vm } : State).setVm s₂.vm := rfl
      rw [e2] at this
      exact this
    have hf₂ : s₂.frames = .throwing q :: .java g :: U.frames.tail := hend
    have hW' : U.WarmedH s₂.vm := hW₂
    have hs₂ : s₂ = ((({ U with heap := s₂.heap, slotsUsed := s₂.slotsUsed } : State).setVm s₂.vm).setTop g).pushFrame (.throwing q) := by
      refine e3.trans ?_
      rw [hf₂, State.calling_eq h.top, State.setFrames_setFrames, State.pushFrame, State.frames_setTop _ hr', State.setTop_of_frames _ hr', State.setFrames_setFrames, hr]
      rfl
    have hsame : U.sameButNew ({ U with heap := s₂.heap, slotsUsed := s₂.slotsUsed } : State) L mc ms := by
      refine ⟨?_, q2, q3, q4, q5, q6⟩
      obtain ⟨t, ht, -⟩ := State.frames_cons hr
      show ({ U with heap := s₂.heap, slotsUsed := s₂.slotsUsed } : State) = { U.setFrames U.frames with heap := s₂.heap, slotsUsed := s₂.slotsUsed }
      rw [State.setFrames_self ht]
    subst hg
    refine Or.inr ⟨q, ⟨(({ U with heap := s₂.heap, slotsUsed := s₂.slotsUsed } : State).setVm s₂.vm), Ls ++ L, c0 + mc, s0 + ms⟩,
      ⟨X.admits, X.cas, X.clock, X.frames, X.room, X.hears, X.method, X.code, (X.here.setHeapUsed s₂.heap s₂.slotsUsed).setVm hW'.alike, X.tail, State.WarmedH.trans X.warmed hW', X.limits, X.bytes, X.same.trans (hsame.setVm s.vm)⟩,
      ⟨g, mk, s₂, L, E, ce, rfl, rfl, hx, hce, hcv, hcl, rfl, hL, rfl, rfl⟩, ?_⟩
    show Steps p.tables e below _ (((({ U with heap := s₂.heap, slotsUsed := s₂.slotsUsed } : State).setVm s₂.vm).setTop g).pushFrame (.throwing q))
    rw [← hs₂]
    exact hsteps
end
variable {p : Program} {l : Launch} {e : Env} {R : Room} {s : State} {m : MethodId} {args : Array Value} {below : List Frame} {meth : Method} {c : Code} {T : State} {H : Heap} {locs : List Loc} {cells slots : Nat}
theorem vx_callVX (X : Stand p l e R s m args below meth c T locs cells slots) (hexec : p.tables.exec = Jvm.exec) {own C : String} {index : Nat} {y : MethodName} {bytes : ByteArray} {maxL : Nat} {ret : Option FieldType} {hh : List (Nat × Nat × Nat × Nat)}
    (hown : s.vm.findClass own = some m.cls) (hlink : (Cond.methodLink own index y).before args s = true) (hinst : (Cond.instanceMethod y).before args s = true) (hsel : (Cond.selects C y y).before args s = true)
    (hcode : (Cond.codeWith y bytes maxL ret hh).before args s = true) (hy : y.cls ≠ "java/lang/invoke/MethodHandle" ∧ y.cls ≠ "java/lang/invoke/VarHandle")
    {W9 : Nat} {Pre : Pt → Array Value → Prop} {Post : Pt → Array Value → Option Value → Pt → Prop} {PostX : Pt → Array Value → Addr → Pt → Prop} (hK : vx_Back l R p e below s args y 3 W9 Pre Post PostX)
    {b : Addr} {cellB : Cell} (hcell : T.heap[b]? = some cellB) (hobj : cellB.vm.isStatics = false) (hcls : s.vm.findClass C = some cellB.cls)
    {g : JFrame} (hg : g.method = m) (hsize : g.locals.size = c.maxLocals) {argsL rest : List Value} (hlen : ∀ sig, parseMethodDescriptor y.desc = some sig → argsL.length = sig.parameters.length)
    (hstack : g.stack = argsL.reverse ++ .ref b :: rest) (hW : 2 * g.monitorRoom + (rest.map fun v => v.category).sum ≤ W9) (hdg : decode c.code g.pc = .ok (.invokevirtual index, 3))
    (hpre : ∀ vm₁, s.WarmedH vm₁ → Pre ⟨T.setVm vm₁, locs, cells, slots⟩ (Value.ref b :: argsL).toArray) :
    (∃ (v : Option Value) (vm₁ : Vm) (B : Pt), s.WarmedH vm₁ ∧ Stand p l e R s m args below meth c B.U B.locs B.cells B.slots ∧ Post ⟨T.setVm vm₁, locs, cells, slots⟩ (Value.ref b :: argsL).toArray v B ∧
      ∀ target, Steps p.tables e below (B.U.setTop { g with pc := g.pc + 3, stack := v.toList ++ rest }) target → Steps p.tables e below (T.setTop g) target) ∨
    (∃ (q : Addr) (vm₁ : Vm) (B : Pt), s.WarmedH vm₁ ∧ Stand p l e R s m args below meth c B.U B.locs B.cells B.slots ∧ PostX ⟨T.setVm vm₁, locs, cells, slots⟩ (Value.ref b :: argsL).toArray q B ∧
      Steps p.tables e below (T.setTop g) ((B.U.setTop { g with stack := rest }).pushFrame (.throwing q))) := by
  obtain ⟨mk, methM, hnamed, hmethM, hstM, habM⟩ := Cond.instanceMethod_spec hinst
  obtain ⟨m8, methM', cM, hn8, hmethM', -, -, -, -, -, -, hsigM⟩ := Cond.codeWith_spec hcode
  cases Option.some.inj (hn8.symm.trans hnamed)
  cases hmethM.symm.trans hmethM'
  obtain ⟨c2, r2, m2, q1, q2, q3, q4, kP, hkP, hkPi⟩ := Cond.selects_spec hsel
  cases hcls.symm.trans q1
  cases (State.methodFound?_of_named hnamed hy).symm.trans q2
  cases hnamed.symm.trans q3
  have hselP : selectMethod e.platform s.vm cellB.cls mk = .method mk := by rw [Launch.admits_selectMethod X.admits]; exact q4
  obtain ⟨vm₁, X₁, hstep₁⟩ := X.invokevirtual hexec hown hlink hnamed hmethM hstM hkP hkPi hy (a := b) (cell := cellB) hcell
    (fun z h => by rw [h] at hobj; cases hobj) hselP hmethM habM hkP hkPi (g := g) hg (argsL := argsL) (rest := rest) (hlen _ hsigM) hstack hdg
  rcases hK m meth c ⟨T.setVm vm₁, locs, cells, slots⟩ { g with stack := rest } (.invokevirtual index) mk (Value.ref b :: argsL).toArray X₁ hg hsize hdg hW (X₁.named hnamed) (hpre vm₁ X₁.warmed) with ⟨v, B, X', hpost, hsteps⟩ | ⟨q, B, X', hpost, hsteps⟩
  · exact Or.inl ⟨v, vm₁, B, X₁.warmed, X', hpost, fun target h => hstep₁ _ fun acts => by rw [doInvoke_state]; exact hsteps.trans h⟩
  · exact Or.inr ⟨q, vm₁, B, X₁.warmed, X', hpost, hstep₁ _ fun acts => by rw [doInvoke_state]; exact hsteps⟩
theorem vx_callSX (X : Stand p l e R s m args below meth c T locs cells slots) (hexec : p.tables.exec = Jvm.exec) {own : String} {index : Nat} {y : MethodName} {bytes : ByteArray} {maxL : Nat} {ret : Option FieldType} {hh : List (Nat × Nat × Nat × Nat)}
    (hown : s.vm.findClass own = some m.cls) (hlink : (Cond.methodLink own index y).before args s = true) (hstat : (Cond.static y).before args s = true) (hinit : (Cond.initialized y.cls).before args s = true)
    (hcode : (Cond.codeWith y bytes maxL ret hh).before args s = true) (hy : y.cls ≠ "java/lang/invoke/MethodHandle" ∧ y.cls ≠ "java/lang/invoke/VarHandle")
    {W9 : Nat} {Pre : Pt → Array Value → Prop} {Post : Pt → Array Value → Option Value → Pt → Prop} {PostX : Pt → Array Value → Addr → Pt → Prop} (hK : vx_Back l R p e below s args y 3 W9 Pre Post PostX)
    {g : JFrame} (hg : g.method = m) (hsize : g.locals.size = c.maxLocals) {argsL rest : List Value} (hlen : ∀ sig, parseMethodDescriptor y.desc = some sig → argsL.length = sig.parameters.length)
    (hstack : g.stack = argsL.reverse ++ rest) (hW : 2 * g.monitorRoom + (rest.map fun v => v.category).sum ≤ W9) (hdg : decode c.code g.pc = .ok (.invokestatic index, 3))
    (hpre : ∀ vm₁, s.WarmedH vm₁ → Pre ⟨T.setVm vm₁, locs, cells, slots⟩ argsL.toArray) :
    (∃ (v : Option Value) (vm₁ : Vm) (B : Pt), s.WarmedH vm₁ ∧ Stand p l e R s m args below meth c B.U B.locs B.cells B.slots ∧ Post ⟨T.setVm vm₁, locs, cells, slots⟩ argsL.toArray v B ∧
      ∀ target, Steps p.tables e below (B.U.setTop { g with pc := g.pc + 3, stack := v.toList ++ rest }) target → Steps p.tables e below (T.setTop g) target) ∨
    (∃ (q : Addr) (vm₁ : Vm) (B : Pt), s.WarmedH vm₁ ∧ Stand p l e R s m args below meth c B.U B.locs B.cells B.slots ∧ PostX ⟨T.setVm vm₁, locs, cells, slots⟩ argsL.toArray q B ∧
      Steps p.tables e below (T.setTop g) ((B.U.setTop { g with stack := rest }).pushFrame (.throwing q))) := by
  obtain ⟨mk, methM, cM, hnamed, hmethM, -, -, -, -, -, -, hsigM⟩ := Cond.codeWith_spec hcode
  have hstatic : methM.isStatic = true := Cond.static_spec hnamed hmethM hstat
  obtain ⟨kP, hkP, -⟩ := className_of_methodNamed hnamed
  have hinitP : kP.init = .initialized := Cond.initialized_spec (findClass_of_methodNamed hnamed) hkP hinit
  obtain ⟨vm₁, X₁, hstep₁⟩ := X.invokestatic hexec hown hlink hnamed hmethM hstatic hkP hinitP hy (g := g) hg (argsL := argsL) (rest := rest) (hlen _ hsigM) hstack hdg
  rcases hK m meth c ⟨T.setVm vm₁, locs, cells, slots⟩ { g with stack := rest } (.invokestatic index) mk argsL.toArray X₁ hg hsize hdg hW (X₁.named hnamed) (hpre vm₁ X₁.warmed) with ⟨v, B, X', hpost, hsteps⟩ | ⟨q, B, X', hpost, hsteps⟩
  · exact Or.inl ⟨v, vm₁, B, X₁.warmed, X', hpost, fun target h => hstep₁ _ fun acts => by rw [doInvoke_state]; exact hsteps.trans h⟩
  · exact Or.inr ⟨q, vm₁, B, X₁.warmed, X', hpost, hstep₁ _ fun acts => by rw [doInvoke_state]; exact hsteps⟩
theorem vx_callVW (X : Stand p l e R s m args below meth c T locs cells slots) (hexec : p.tables.exec = Jvm.exec) {own C : String} {index : Nat} {y : MethodName} {bytes : ByteArray} {maxL : Nat} {ret : Option FieldType} {hh : List (Nat × Nat × Nat × Nat)}
    (hown : s.vm.findClass own = some m.cls) (hlink : (Cond.methodLink own index y).before args s = true) (hinst : (Cond.instanceMethod y).before args s = true) (hsel : (Cond.selects C y y).before args s = true)
    (hcode : (Cond.codeWith y bytes maxL ret hh).before args s = true) (hy : y.cls ≠ "java/lang/invoke/MethodHandle" ∧ y.cls ≠ "java/lang/invoke/VarHandle")
    {W9 : Nat} {Pre : Pt → Array Value → Prop} {Post : Pt → Array Value → Option Value → Pt → Prop} (hK : Back l R p e below s args y 3 W9 Pre Post)
    {b : Addr} {cellB : Cell} (hcell : T.heap[b]? = some cellB) (hobj : cellB.vm.isStatics = false) (hcls : s.vm.findClass C = some cellB.cls)
    {g : JFrame} (hg : g.method = m) (hsize : g.locals.size = c.maxLocals) {argsL rest : List Value} (hlen : ∀ sig, parseMethodDescriptor y.desc = some sig → argsL.length = sig.parameters.length)
    (hstack : g.stack = argsL.reverse ++ .ref b :: rest) (hW : 2 * g.monitorRoom + (rest.map fun v => v.category).sum ≤ W9) (hdg : decode c.code g.pc = .ok (.invokevirtual index, 3))
    (hpre : ∀ vm₁, s.WarmedH vm₁ → Pre ⟨T.setVm vm₁, locs, cells, slots⟩ (Value.ref b :: argsL).toArray) :
    ∃ (v : Option Value) (vm₁ : Vm) (B : Pt), s.WarmedH vm₁ ∧ Stand p l e R s m args below meth c B.U B.locs B.cells B.slots ∧ Post ⟨T.setVm vm₁, locs, cells, slots⟩ (Value.ref b :: argsL).toArray v B ∧
      ∀ target, Steps p.tables e below (B.U.setTop { g with pc := g.pc + 3, stack := v.toList ++ rest }) target → Steps p.tables e below (T.setTop g) target := by
  obtain ⟨mk, methM, hnamed, hmethM, hstM, habM⟩ := Cond.instanceMethod_spec hinst
  obtain ⟨m8, methM', cM, hn8, hmethM', -, -, -, -, -, -, hsigM⟩ := Cond.codeWith_spec hcode
  cases Option.some.inj (hn8.symm.trans hnamed)
  cases hmethM.symm.trans hmethM'
  obtain ⟨c2, r2, m2, q1, q2, q3, q4, kP, hkP, hkPi⟩ := Cond.selects_spec hsel
  cases hcls.symm.trans q1
  cases (State.methodFound?_of_named hnamed hy).symm.trans q2
  cases hnamed.symm.trans q3
  have hselP : selectMethod e.platform s.vm cellB.cls mk = .method mk := by rw [Launch.admits_selectMethod X.admits]; exact q4
  obtain ⟨vm₁, X₁, hstep₁⟩ := X.invokevirtual hexec hown hlink hnamed hmethM hstM hkP hkPi hy (a := b) (cell := cellB) hcell
    (fun z h => by rw [h] at hobj; cases hobj) hselP hmethM habM hkP hkPi (g := g) hg (argsL := argsL) (rest := rest) (hlen _ hsigM) hstack hdg
  obtain ⟨v, B, X', hpost, hsteps⟩ := hK m meth c ⟨T.setVm vm₁, locs, cells, slots⟩ { g with stack := rest } (.invokevirtual index) mk (Value.ref b :: argsL).toArray X₁ hg hsize hdg hW (X₁.named hnamed) (hpre vm₁ X₁.warmed)
  exact ⟨v, vm₁, B, X₁.warmed, X', hpost, fun target h => hstep₁ _ fun acts => by rw [doInvoke_state]; exact hsteps.trans h⟩
abbrev vx_CVW (R : Room) (s : State) (args : Array Value) (own C : String) (index : Nat) (y : MethodName) (bytes : ByteArray) (maxL : Nat) (ret : Option FieldType) (hh : List (Nat × Nat × Nat × Nat)) (ws : List Cond) (rm : Room) (mc ms n : Nat) : Prop :=
  (rm.cells = mc ∧ rm.slots = ms ∧ rm.frames + 1 ≤ R.frames ∧ 8 + (maxL + 11) + rm.locals ≤ R.locals ∧ (∀ w ∈ ws, ∀ (a' : Array Value) (U : State), s.WarmedH U.vm → w.before a' U = true) ∧ Cond.codeWith y bytes maxL ret hh ∈ ws) ∧
  (Cond.codeWith y bytes maxL ret hh).before args s = true ∧ (Cond.initialized y.cls).before args s = true ∧ (y.cls ≠ "java/lang/invoke/MethodHandle" ∧ y.cls ≠ "java/lang/invoke/VarHandle") ∧
  (∀ sig, parseMethodDescriptor y.desc = some sig → n = sig.parameters.length) ∧ (Cond.methodLink own index y).before args s = true ∧ (Cond.instanceMethod y).before args s = true ∧ (Cond.selects C y y).before args s = true
theorem vx_cwVW {own C : String} {index maxL mc ms : Nat} {y : MethodName} {bytes : ByteArray} {ret : Option FieldType} {hh : List (Nat × Nat × Nat × Nat)} {Ts ws ws' : List Cond} {rm : Room} (n : Nat) (ht : ∀ w ∈ Ts, w.before args s = true) (hT : GoodIn Ts (wsV own index C y ws)) (hw : ws = Cond.codeWith y bytes maxL ret hh :: ws') (hrc : rm.cells = mc) (hrs : rm.slots = ms)
    (hd : y.cls = C ∧ y.cls ≠ "java/lang/invoke/MethodHandle" ∧ y.cls ≠ "java/lang/invoke/VarHandle" ∧ (parseMethodDescriptor y.desc).map (fun d => d.parameters.length) = some n) (hR : rm.frames + 1 ≤ R.frames ∧ 8 + (maxL + 11) + rm.locals ≤ R.locals) :
    vx_CVW R s args own C index y bytes maxL ret hh ws rm mc ms n := by
  obtain ⟨hC, hd⟩ := hd
  subst hC
  have ok : ∀ w ∈ wsV own index y.cls y ws, w.before args s = true := fun w h => ht w (hT w h).1
  have hG : GoodIn Ts ws := fun w h => hT w (by unfold wsV; exact List.mem_append_right _ h)
  have hc : Cond.codeWith y bytes maxL ret hh ∈ ws := by rw [hw]; exact List.mem_cons_self
  refine ⟨⟨hrc, hrs, hR.1, hR.2, pay_in ht hG, hc⟩, ht _ (hG _ hc).1, ok _ (by simp [wsV]), ⟨hd.1, hd.2.1⟩, fun sig h => ?_, ok _ (by simp [wsV]), ok _ (by simp [wsV]), ok _ (by simp [wsV])⟩
  have h2 := hd.2.2
  rw [h] at h2
  exact (Option.some.inj h2).symm
theorem vx_runVW {y : MethodName} {bytes cc : ByteArray} {maxL nL mc ms n index : Nat} {ret : Option FieldType} {hh : List (Nat × Nat × Nat × Nat)} {ws : List Cond} {rm : Room} {Pc : Array Value → State → Prop} {Qc : Array Value → State → Outcome → State → Prop} {free : Addr → Prop} {Ts : List Cond} {own C : String} {b : Addr} {As rest : List Value} {g : JFrame}
    (S : CallFix p m c cc nL s args Ts own) (hM : Met l y ws rm Pc Qc mc ms free) (cw : vx_CVW R s args own C index y bytes maxL ret hh ws rm mc ms n) (hp : PreV s H C b Pc As)
    (hg : g.method = m) (hn : As.length = n) (hsize : g.locals.size = nL) (hstack : g.stack = As.reverse ++ .ref b :: rest) (hW : 2 * g.monitorRoom + (rest.map fun v => v.category).sum ≤ 8) (hdg : decode cc g.pc = .ok (.invokevirtual index, 3)) (hf : cells + mc ≤ R.cells ∧ slots + ms ≤ R.slots) :
    va_Run p l e R s m args below meth c H locs cells slots mc ms g rest (Qc (Value.ref b :: As).toArray) free := by
  obtain ⟨⟨hrc, hrs, hfr, hlo, hws, hcw⟩, hcode, hini, hy, hlen, hl, hin, hse⟩ := cw
  have hK : Back l R p e below s args y 3 8 (PreOf R mc ms Pc) (PostOf Qc mc ms free) := va_backW (hh := hh) (bytes := bytes) (maxL := maxL) (ret := ret) hM hp.1 hrc hrs hfr hlo hws hcw (fun a' U hW => word_at hW (Or.inl (by first | rfl | simp [Cond.onTables, Cond.keeps, Cond.steady])) hini)
  obtain ⟨hx, hb, hml, ho, -⟩ := S
  obtain ⟨-, ⟨cellB, hcB, hoB, hclB⟩, hPc⟩ := hp
  intro T hT X
  obtain ⟨v, vm₁, ⟨U', l2, c2, s2⟩, hW₁, X', ⟨g', mk, t, L, e1, e2, hq, h1, hL, h2, h3⟩, st⟩ := vx_callVW X hx (C := C) (hh := hh) (bytes := bytes) (maxL := maxL) (ret := ret) ho hl hin hse hcode hy hK (by rw [hT]; exact hcB) hoB hclB hg (hsize.trans hml.symm) (argsL := As) (rest := rest) (fun sig h => hn.trans (hlen sig h)) hstack hW (by rw [hb]; exact hdg)
    (fun vm₁ hW₁ => ⟨hf.1, hf.2, hPc (T.setVm vm₁) hT hW₁⟩)
  dsimp only [Pt.U, Pt.locs, Pt.cells, Pt.slots] at X' e1 e2 h1 h2 h3 st
  subst h1; subst h2; subst h3
  exact ⟨v, (T.setVm vm₁).calling g' mk (Value.ref b :: As).toArray, t, U', L, hT, X', hL, e1, e2, hq, st⟩
section
variable {y : MethodName} {bytes cc : ByteArray} {maxL nL mc ms n index : Nat} {ret : Option FieldType} {ws : List Cond} {rm : Room} {Pc : Array Value → State → Prop} {Qc : Array Value → State → Outcome → State → Prop} {XC : String → State → State → Prop} {free : Addr → Prop} {Ts : List Cond} {own C : String} {b : Addr} {As rest : List Value} {g : JFrame}
theorem vx_runVX {hh : List (Nat × Nat × Nat × Nat)} (S : CallFix p m c cc nL s args Ts own) (hM : vx_Met l y ws rm Pc Qc XC mc ms free) (cw : vx_CVW R s args own C index y bytes maxL ret hh ws rm mc ms n) (hp : PreV s H C b Pc As)
    (hg : g.method = m) (hn : As.length = n) (hsize : g.locals.size = nL) (hstack : g.stack = As.reverse ++ .ref b :: rest) (hW : 2 * g.monitorRoom + (rest.map fun v => v.category).sum ≤ 8) (hdg : decode cc g.pc = .ok (.invokevirtual index, 3)) (hf : cells + mc ≤ R.cells ∧ slots + ms ≤ R.slots) :
    vx_Run p l e R s m args below meth c H locs cells slots mc ms g rest (Qc (Value.ref b :: As).toArray) XC free := by
  obtain ⟨⟨hrc, hrs, hfr, hlo, hws, hcw⟩, hcode, hini, hy, hlen, hl, hin, hse⟩ := cw
  have hK : vx_Back l R p e below s args y 3 8 (PreOf R mc ms Pc) (PostOf Qc mc ms free) (vx_Post XC mc ms free) := vx_backW (hh := hh) (bytes := bytes) (maxL := maxL) (ret := ret) hM hp.1 hrc hrs hfr hlo hws hcw (fun a' U hW => word_at hW (Or.inl (by first | rfl | simp [Cond.onTables, Cond.keeps, Cond.steady])) hini)
  obtain ⟨hx, hb, hml, ho, -⟩ := S
  obtain ⟨-, ⟨cellB, hcB, hoB, hclB⟩, hPc⟩ := hp
  intro T hT X
  rcases vx_callVX X hx (C := C) (hh := hh) (bytes := bytes) (maxL := maxL) (ret := ret) ho hl hin hse hcode hy hK (by rw [hT]; exact hcB) hoB hclB hg (hsize.trans hml.symm) (argsL := As) (rest := rest) (fun sig h => hn.trans (hlen sig h)) hstack hW (by rw [hb]; exact hdg)
    (fun vm₁ hW₁ => ⟨hf.1, hf.2, hPc (T.setVm vm₁) hT hW₁⟩) with ⟨v, vm₁, ⟨U', l2, c2, s2⟩, hW₁, X', ⟨g', mk, t, L, e1, e2, hq, h1, hL, h2, h3⟩, st⟩ | ⟨q, vm₁, ⟨U', l2, c2, s2⟩, hW₁, X', ⟨g', mk, t, L, E, ce, e1, e2, hq, hce, hcv, hcl, h1, hL, h2, h3⟩, st⟩
  · dsimp only [Pt.U, Pt.locs, Pt.cells, Pt.slots] at X' e1 e2 h1 h2 h3 st
    subst h1; subst h2; subst h3
    exact Or.inl ⟨v, (T.setVm vm₁).calling g' mk (Value.ref b :: As).toArray, t, U', L, hT, X', hL, e1, e2, hq, st⟩
  · dsimp only [Pt.U, Pt.locs, Pt.cells, Pt.slots] at X' e1 e2 h1 h2 h3 st hcl
    subst h1; subst h2; subst h3
    exact Or.inr ⟨q, (T.setVm vm₁).calling g' mk (Value.ref b :: As).toArray, t, U', L, E, ce, hT, X', hL, e1, e2, hq, hce, hcv, vx_cls hW₁ hcl, st⟩
theorem vx_runSX {hh : List (Nat × Nat × Nat × Nat)} (S : CallFix p m c cc nL s args Ts own) (hM : vx_Met l y ws rm Pc Qc XC mc ms free) (cw : vx_CSW R s args own index y bytes maxL ret hh ws rm mc ms n) (hp : PreS s H Pc As)
    (hg : g.method = m) (hn : As.length = n) (hsize : g.locals.size = nL) (hstack : g.stack = As.reverse ++ rest) (hW : 2 * g.monitorRoom + (rest.map fun v => v.category).sum ≤ 8) (hdg : decode cc g.pc = .ok (.invokestatic index, 3)) (hf : cells + mc ≤ R.cells ∧ slots + ms ≤ R.slots) :
    vx_Run p l e R s m args below meth c H locs cells slots mc ms g rest (Qc As.toArray) XC free := by
  obtain ⟨⟨hrc, hrs, hfr, hlo, hws, hcw⟩, hcode, hini, hy, hlen, hl, hstt⟩ := cw
  have hK : vx_Back l R p e below s args y 3 8 (PreOf R mc ms Pc) (PostOf Qc mc ms free) (vx_Post XC mc ms free) := vx_backW (hh := hh) (bytes := bytes) (maxL := maxL) (ret := ret) hM hp.1 hrc hrs hfr hlo hws hcw (fun a' U hW => word_at hW (Or.inl (by first | rfl | simp [Cond.onTables, Cond.keeps, Cond.steady])) hini)
  obtain ⟨hx, hb, hml, ho, -⟩ := S
  intro T hT X
  rcases vx_callSX X hx (hh := hh) (bytes := bytes) (maxL := maxL) (ret := ret) ho hl hstt hini hcode hy hK hg (hsize.trans hml.symm) (argsL := As) (rest := rest) (fun sig h => hn.trans (hlen sig h)) hstack hW (by rw [hb]; exact hdg)
    (fun vm₁ hW₁ => ⟨hf.1, hf.2, hp.2 (T.setVm vm₁) hT hW₁⟩) with ⟨v, vm₁, ⟨U', l2, c2, s2⟩, hW₁, X', ⟨g', mk, t, L, e1, e2, hq, h1, hL, h2, h3⟩, st⟩ | ⟨q, vm₁, ⟨U', l2, c2, s2⟩, hW₁, X', ⟨g', mk, t, L, E, ce, e1, e2, hq, hce, hcv, hcl, h1, hL, h2, h3⟩, st⟩
  · dsimp only [Pt.U, Pt.locs, Pt.cells, Pt.slots] at X' e1 e2 h1 h2 h3 st
    subst h1; subst h2; subst h3
    exact Or.inl ⟨v, (T.setVm vm₁).calling g' mk As.toArray, t, U', L, hT, X', hL, e1, e2, hq, st⟩
  · dsimp only [Pt.U, Pt.locs, Pt.cells, Pt.slots] at X' e1 e2 h1 h2 h3 st hcl
    subst h1; subst h2; subst h3
    exact Or.inr ⟨q, (T.setVm vm₁).calling g' mk As.toArray, t, U', L, E, ce, hT, X', hL, e1, e2, hq, hce, hcv, vx_cls hW₁ hcl, st⟩
end
end VXH
theorem vx_ofWH {l : Launch} {y : MethodName} {ws ws' : List Cond} {rm : Room} {Pc : Array Value → State → Prop} {Qc : Array Value → State → Outcome → State → Prop} {XC : String → State → State → Prop} {mc ms : Nat} {free : Addr → Prop} {cc : ByteArray} {maxL : Nat} {ret : Option FieldType} {hh : List (Nat × Nat × Nat × Nat)}
    (hy : plainName y.cls = true) (hw : ws = Cond.codeWith y cc maxL ret hh :: ws')
    (body : ∀ p e s m args below meth c s₁, BodyLoose p l y (headSpec ws rm) cc maxL ret e s m args below meth c s₁ → c.maxLocals = maxL → Pc args s →
      W p l e (headSpec ws rm).room s m args below meth c s.heap [] 0 0 (vx_MQ below Qc XC args s mc ms free) (entryFrame m args maxL)) : vx_Met l y ws rm Pc Qc XC mc ms free := by
  refine MetFree.of_bodyS (code := cc) (maxLocals := maxL) (ret := ret) hy ?_ ?_
  · intro args s m h hn
    obtain ⟨m9, meth, c, hn9, h1, h2, h3, h4, -, h5, h6, -⟩ := Cond.codeWith_spec (atoms_spec (ws := ws) h _ (by rw [hw]; exact List.mem_cons_self))
    cases hn.symm.trans hn9
    exact ⟨meth, c, h1, h2, h3, h4, h5, h6⟩
  · intro p e s m args below meth c s₁ B hml hP _
    have hh0 : s₁.heap = s.heap := by rw [B.state]; rfl
    obtain ⟨t, a1, o, b1, b2, b3⟩ := body p e s m args below meth c s₁ B hml hP s₁ hh0 (Stand.of_body B)
    exact ⟨t, o, a1, b1, b2, b3⟩
/-! ===== END ===== -/
end
section
def RX0 : String := "DataMaker$Code"
def TX0 : u_T := fun k => match k with
  | 0 => ("DataMaker$Code", "numbers", "[I", true)
  | _ => ("DataMaker$Code", "kept", "I", false)
def tyX0 : Nat → FieldType := fun k => match k with
  | 0 => .array .int
  | _ => .int
theorem nmX0 : ∀ a, a < 2 → ∀ b, b < 2 → a ≠ b → (TX0 a).2.1 ≠ (TX0 b).2.1 := by decide +kernel
theorem tyX0_ok : ∀ k, k < 2 → parseFieldDescriptor (TX0 k).2.2.1 = some (tyX0 k) := by decide +kernel
abbrev cX0_init : ByteArray := prog_2_method_1_code
def yX0_init : MethodName := ⟨RX0, "<init>", "()V"⟩
abbrev cX0_at : ByteArray := prog_2_method_2_code
def yX0_at : MethodName := ⟨RX0, "at", "(I)I"⟩
abbrev cX0_write : ByteArray := prog_2_method_3_code
def yX0_write : MethodName := ⟨RX0, "write", "(LDataMaker$Value;)V"⟩
abbrev cX0_appendValue : ByteArray := prog_2_method_4_code
def yX0_appendValue : MethodName := ⟨RX0, "appendValue", "(LDataMaker$Value;I)V"⟩
abbrev cX0_append : ByteArray := prog_2_method_5_code
def yX0_append : MethodName := ⟨RX0, "append", "(I)V"⟩
def RX1 : String := "DataMaker$Grammar"
def TX1 : u_T := fun k => match k with
  | 0 => ("DataMaker$Grammar", "low", "I", false)
  | 1 => ("DataMaker$Grammar", "high", "I", false)
  | 2 => ("DataMaker$Grammar", "types", "I", false)
  | 3 => ("DataMaker$Grammar", "constructors", "I", false)
  | 4 => ("DataMaker$Grammar", "owners", "[I", true)
  | 5 => ("DataMaker$Grammar", "parameters", "[I", true)
  | 6 => ("DataMaker$Grammar", "typesAhead", "[I", true)
  | _ => ("DataMaker$Grammar", "conditions", "[I", true)
def tyX1 : Nat → FieldType := fun k => match k with
  | 0 => .int
  | 1 => .int
  | 2 => .int
  | 3 => .int
  | 4 => .array .int
  | 5 => .array .int
  | 6 => .array .int
  | _ => .array .int
theorem nmX1 : ∀ a, a < 8 → ∀ b, b < 8 → a ≠ b → (TX1 a).2.1 ≠ (TX1 b).2.1 := by decide +kernel
theorem tyX1_ok : ∀ k, k < 8 → parseFieldDescriptor (TX1 k).2.2.1 = some (tyX1 k) := by decide +kernel
abbrev cX1_init : ByteArray := prog_3_method_1_code
def yX1_init : MethodName := ⟨RX1, "<init>", "()V"⟩
abbrev cX1_hasType : ByteArray := prog_3_method_2_code
def yX1_hasType : MethodName := ⟨RX1, "hasType", "(I)Z"⟩
abbrev cX1_hasConstructor : ByteArray := prog_3_method_3_code
def yX1_hasConstructor : MethodName := ⟨RX1, "hasConstructor", "(I)Z"⟩
abbrev cX1_allowsParameters : ByteArray := prog_3_method_4_code
def yX1_allowsParameters : MethodName := ⟨RX1, "allowsParameters", "(III)Z"⟩
abbrev cX1_isParameter : ByteArray := prog_3_method_5_code
def yX1_isParameter : MethodName := ⟨RX1, "isParameter", "(I)Z"⟩
abbrev cX1_append : ByteArray := prog_3_method_6_code
def yX1_append : MethodName := ⟨RX1, "append", "(IIIII)V"⟩
abbrev cX1_typeOf : ByteArray := prog_3_method_7_code
def yX1_typeOf : MethodName := ⟨RX1, "typeOf", "(I)I"⟩
abbrev cX1_conditionOf : ByteArray := prog_3_method_8_code
def yX1_conditionOf : MethodName := ⟨RX1, "conditionOf", "(I)I"⟩
abbrev cX1_parameter : ByteArray := prog_3_method_9_code
def yX1_parameter : MethodName := ⟨RX1, "parameter", "(II)I"⟩
abbrev cX1_typesFrom : ByteArray := prog_3_method_10_code
def yX1_typesFrom : MethodName := ⟨RX1, "typesFrom", "(II)I"⟩
def RX2 : String := "DataMaker$Reductions"
def TX2 : u_T := fun k => match k with
  | 0 => ("DataMaker$Reductions", "values", "[LDataMaker$Value;", true)
  | _ => ("DataMaker$Reductions", "kept", "I", false)
def tyX2 : Nat → FieldType := fun k => match k with
  | 0 => .array (.object "DataMaker$Value")
  | _ => .int
theorem nmX2 : ∀ a, a < 2 → ∀ b, b < 2 → a ≠ b → (TX2 a).2.1 ≠ (TX2 b).2.1 := by decide +kernel
theorem tyX2_ok : ∀ k, k < 2 → parseFieldDescriptor (TX2 k).2.2.1 = some (tyX2 k) := by decide +kernel
abbrev cX2_init : ByteArray := prog_4_method_1_code
def yX2_init : MethodName := ⟨RX2, "<init>", "()V"⟩
abbrev cX2_at : ByteArray := prog_4_method_2_code
def yX2_at : MethodName := ⟨RX2, "at", "(I)LDataMaker$Value;"⟩
abbrev cX2_firstUnfit : ByteArray := prog_4_method_3_code
def yX2_firstUnfit : MethodName := ⟨RX2, "firstUnfit", "(I)LDataMaker$Value;"⟩
abbrev cX2_collect : ByteArray := prog_4_method_4_code
def yX2_collect : MethodName := ⟨RX2, "collect", "(LDataMaker$Value;LDataMaker$Stock;)V"⟩
abbrev cX2_addPartsOf : ByteArray := prog_4_method_5_code
def yX2_addPartsOf : MethodName := ⟨RX2, "addPartsOf", "(LDataMaker$Value;II)V"⟩
abbrev cX2_has : ByteArray := prog_4_method_6_code
def yX2_has : MethodName := ⟨RX2, "has", "(I)Z"⟩
abbrev cX2_append : ByteArray := prog_4_method_7_code
def yX2_append : MethodName := ⟨RX2, "append", "(LDataMaker$Value;)V"⟩
def RX3 : String := "DataMaker$Stock"
def TX3 : u_T := fun k => match k with
  | 0 => ("DataMaker$Stock", "grammar", "LDataMaker$Grammar;", true)
  | 1 => ("DataMaker$Stock", "pool", "[LDataMaker$Value;", true)
  | 2 => ("DataMaker$Stock", "ordered", "[LDataMaker$Value;", true)
  | 3 => ("DataMaker$Stock", "kept", "[I", true)
  | 4 => ("DataMaker$Stock", "ends", "[I", true)
  | 5 => ("DataMaker$Stock", "beginnings", "[LDataMaker$Value;", true)
  | 6 => ("DataMaker$Stock", "used", "I", false)
  | 7 => ("DataMaker$Stock", "overfull", "Z", false)
  | 8 => ("DataMaker$Stock", "reach", "I", false)
  | _ => ("DataMaker$Stock", "fresh", "Z", false)
def tyX3 : Nat → FieldType := fun k => match k with
  | 0 => .object "DataMaker$Grammar"
  | 1 => .array (.object "DataMaker$Value")
  | 2 => .array (.object "DataMaker$Value")
  | 3 => .array .int
  | 4 => .array .int
  | 5 => .array (.object "DataMaker$Value")
  | 6 => .int
  | 7 => .boolean
  | 8 => .int
  | _ => .boolean
theorem nmX3 : ∀ a, a < 10 → ∀ b, b < 10 → a ≠ b → (TX3 a).2.1 ≠ (TX3 b).2.1 := by decide +kernel
theorem tyX3_ok : ∀ k, k < 10 → parseFieldDescriptor (TX3 k).2.2.1 = some (tyX3 k) := by decide +kernel
abbrev cX3_init : ByteArray := prog_5_method_1_code
def yX3_init : MethodName := ⟨RX3, "<init>", "(LDataMaker$Grammar;)V"⟩
abbrev cX3_upTo : ByteArray := prog_5_method_2_code
def yX3_upTo : MethodName := ⟨RX3, "upTo", "(II)I"⟩
abbrev cX3_valueAt : ByteArray := prog_5_method_3_code
def yX3_valueAt : MethodName := ⟨RX3, "valueAt", "(II)LDataMaker$Value;"⟩
abbrev cX3_find : ByteArray := prog_5_method_4_code
def yX3_find : MethodName := ⟨RX3, "find", "(LDataMaker$Value;)LDataMaker$Value;"⟩
abbrev cX3_refresh : ByteArray := prog_5_method_5_code
def yX3_refresh : MethodName := ⟨RX3, "refresh", "()V"⟩
abbrev cX3_makeSize : ByteArray := prog_5_method_6_code
def yX3_makeSize : MethodName := ⟨RX3, "makeSize", "(I)V"⟩
abbrev cX3_closeSize : ByteArray := prog_5_method_7_code
def yX3_closeSize : MethodName := ⟨RX3, "closeSize", "(I)V"⟩
abbrev cX3_extend : ByteArray := prog_5_method_8_code
def yX3_extend : MethodName := ⟨RX3, "extend", "(LDataMaker$Value;I)V"⟩
abbrev cX3_isHopeless : ByteArray := prog_5_method_9_code
def yX3_isHopeless : MethodName := ⟨RX3, "isHopeless", "(LDataMaker$Value;Z)Z"⟩
abbrev cX3_extendByNumbers : ByteArray := prog_5_method_10_code
def yX3_extendByNumbers : MethodName := ⟨RX3, "extendByNumbers", "(LDataMaker$Value;I)V"⟩
abbrev cX3_extendByParts : ByteArray := prog_5_method_11_code
def yX3_extendByParts : MethodName := ⟨RX3, "extendByParts", "(LDataMaker$Value;III)V"⟩
abbrev cX3_copyToExtend : ByteArray := prog_5_method_12_code
def yX3_copyToExtend : MethodName := ⟨RX3, "copyToExtend", "(LDataMaker$Value;)LDataMaker$Value;"⟩
abbrev cX3_keep : ByteArray := prog_5_method_13_code
def yX3_keep : MethodName := ⟨RX3, "keep", "(LDataMaker$Value;)V"⟩
def RX4 : String := "DataMaker$Told"
def TX4 : u_T := fun k => match k with
  | 0 => ("DataMaker$Told", "grammar", "LDataMaker$Grammar;", true)
  | 1 => ("DataMaker$Told", "numbers", "[I", true)
  | 2 => ("DataMaker$Told", "drafts", "[LDataMaker$Value;", true)
  | 3 => ("DataMaker$Told", "opened", "I", false)
  | 4 => ("DataMaker$Told", "position", "I", false)
  | _ => ("DataMaker$Told", "kept", "I", false)
def tyX4 : Nat → FieldType := fun k => match k with
  | 0 => .object "DataMaker$Grammar"
  | 1 => .array .int
  | 2 => .array (.object "DataMaker$Value")
  | 3 => .int
  | 4 => .int
  | _ => .int
theorem nmX4 : ∀ a, a < 6 → ∀ b, b < 6 → a ≠ b → (TX4 a).2.1 ≠ (TX4 b).2.1 := by decide +kernel
theorem tyX4_ok : ∀ k, k < 6 → parseFieldDescriptor (TX4 k).2.2.1 = some (tyX4 k) := by decide +kernel
abbrev cX4_init : ByteArray := prog_6_method_1_code
def yX4_init : MethodName := ⟨RX4, "<init>", "(LDataMaker$Grammar;)V"⟩
abbrev cX4_append : ByteArray := prog_6_method_2_code
def yX4_append : MethodName := ⟨RX4, "append", "(I)V"⟩
abbrev cX4_parse : ByteArray := prog_6_method_3_code
def yX4_parse : MethodName := ⟨RX4, "parse", "(I)LDataMaker$Value;"⟩
abbrev cX4_parseValue : ByteArray := prog_6_method_4_code
def yX4_parseValue : MethodName := ⟨RX4, "parseValue", "(I)LDataMaker$Value;"⟩
abbrev cX4_parseArgument : ByteArray := prog_6_method_5_code
def yX4_parseArgument : MethodName := ⟨RX4, "parseArgument", "(LDataMaker$Value;I)Z"⟩
abbrev cX4_next : ByteArray := prog_6_method_6_code
def yX4_next : MethodName := ⟨RX4, "next", "()I"⟩
def RX5 : String := "DataMaker$Value"
def TX5 : u_T := fun k => match k with
  | 0 => ("DataMaker$Value", "type", "I", false)
  | 1 => ("DataMaker$Value", "rank", "I", false)
  | 2 => ("DataMaker$Value", "constructor", "I", false)
  | 3 => ("DataMaker$Value", "arguments", "I", false)
  | 4 => ("DataMaker$Value", "numbers", "[I", true)
  | 5 => ("DataMaker$Value", "parts", "[LDataMaker$Value;", true)
  | 6 => ("DataMaker$Value", "size", "I", false)
  | 7 => ("DataMaker$Value", "height", "I", false)
  | 8 => ("DataMaker$Value", "lowestPart", "I", false)
  | 9 => ("DataMaker$Value", "firstNumber", "I", false)
  | 10 => ("DataMaker$Value", "intCount", "I", false)
  | 11 => ("DataMaker$Value", "intSum", "I", false)
  | 12 => ("DataMaker$Value", "leastInt", "I", false)
  | 13 => ("DataMaker$Value", "lastInt", "I", false)
  | 14 => ("DataMaker$Value", "firstInt", "I", false)
  | _ => ("DataMaker$Value", "ascending", "Z", false)
def tyX5 : Nat → FieldType := fun k => match k with
  | 0 => .int
  | 1 => .int
  | 2 => .int
  | 3 => .int
  | 4 => .array .int
  | 5 => .array (.object "DataMaker$Value")
  | 6 => .int
  | 7 => .int
  | 8 => .int
  | 9 => .int
  | 10 => .int
  | 11 => .int
  | 12 => .int
  | 13 => .int
  | 14 => .int
  | _ => .boolean
theorem nmX5 : ∀ a, a < 16 → ∀ b, b < 16 → a ≠ b → (TX5 a).2.1 ≠ (TX5 b).2.1 := by decide +kernel
theorem tyX5_ok : ∀ k, k < 16 → parseFieldDescriptor (TX5 k).2.2.1 = some (tyX5 k) := by decide +kernel
abbrev cX5_init : ByteArray := prog_7_method_1_code
def yX5_init : MethodName := ⟨RX5, "<init>", "()V"⟩
abbrev cX5_begin : ByteArray := prog_7_method_2_code
def yX5_begin : MethodName := ⟨RX5, "begin", "(II)V"⟩
abbrev cX5_copyFrom : ByteArray := prog_7_method_3_code
def yX5_copyFrom : MethodName := ⟨RX5, "copyFrom", "(LDataMaker$Value;)V"⟩
abbrev cX5_addNumber : ByteArray := prog_7_method_4_code
def yX5_addNumber : MethodName := ⟨RX5, "addNumber", "(I)V"⟩
abbrev cX5_addPart : ByteArray := prog_7_method_5_code
def yX5_addPart : MethodName := ⟨RX5, "addPart", "(LDataMaker$Value;)V"⟩
abbrev cX5_joinInts : ByteArray := prog_7_method_6_code
def yX5_joinInts : MethodName := ⟨RX5, "joinInts", "(III)V"⟩
abbrev cX5_fits : ByteArray := prog_7_method_7_code
def yX5_fits : MethodName := ⟨RX5, "fits", "(I)Z"⟩
abbrev cX5_clashesWith : ByteArray := prog_7_method_8_code
def yX5_clashesWith : MethodName := ⟨RX5, "clashesWith", "(LDataMaker$Value;I)Z"⟩
abbrev cX5_partsDiffer : ByteArray := prog_7_method_9_code
def yX5_partsDiffer : MethodName := ⟨RX5, "partsDiffer", "()I"⟩
abbrev cX5_codeLength : ByteArray := prog_7_method_10_code
def yX5_codeLength : MethodName := ⟨RX5, "codeLength", "()I"⟩
abbrev cX5_partAt : ByteArray := prog_7_method_11_code
def yX5_partAt : MethodName := ⟨RX5, "partAt", "(I)LDataMaker$Value;"⟩
abbrev cX5_differsFrom : ByteArray := prog_7_method_12_code
def yX5_differsFrom : MethodName := ⟨RX5, "differsFrom", "(LDataMaker$Value;)I"⟩
abbrev cX5_distance : ByteArray := prog_7_method_13_code
def yX5_distance : MethodName := ⟨RX5, "distance", "(LDataMaker$Value;LDataMaker$Value;I)I"⟩
def RX6 : String := "DataMaker"
def TX6 : u_T := fun k => match k with
  | 0 => ("DataMaker", "grammar", "LDataMaker$Grammar;", true)
  | 1 => ("DataMaker", "stock", "LDataMaker$Stock;", true)
  | 2 => ("DataMaker", "told", "LDataMaker$Told;", true)
  | 3 => ("DataMaker", "selectedCode", "LDataMaker$Code;", true)
  | 4 => ("DataMaker", "reductions", "LDataMaker$Reductions;", true)
  | _ => ("DataMaker", "selected", "LDataMaker$Value;", false)
def tyX6 : Nat → FieldType := fun k => match k with
  | 0 => .object "DataMaker$Grammar"
  | 1 => .object "DataMaker$Stock"
  | 2 => .object "DataMaker$Told"
  | 3 => .object "DataMaker$Code"
  | 4 => .object "DataMaker$Reductions"
  | _ => .object "DataMaker$Value"
theorem nmX6 : ∀ a, a < 6 → ∀ b, b < 6 → a ≠ b → (TX6 a).2.1 ≠ (TX6 b).2.1 := by decide +kernel
theorem tyX6_ok : ∀ k, k < 6 → parseFieldDescriptor (TX6 k).2.2.1 = some (tyX6 k) := by decide +kernel
abbrev cX6_init : ByteArray := prog_1_method_1_code
def yX6_init : MethodName := ⟨RX6, "<init>", "()V"⟩
abbrev cX6_setRange : ByteArray := prog_1_method_2_code
def yX6_setRange : MethodName := ⟨RX6, "setRange", "(II)Z"⟩
abbrev cX6_addType : ByteArray := prog_1_method_3_code
def yX6_addType : MethodName := ⟨RX6, "addType", "()I"⟩
abbrev cX6_addConstructor : ByteArray := prog_1_method_4_code
def yX6_addConstructor : MethodName := ⟨RX6, "addConstructor", "(IIIII)I"⟩
abbrev cX6_typeCount : ByteArray := prog_1_method_5_code
def yX6_typeCount : MethodName := ⟨RX6, "typeCount", "()I"⟩
abbrev cX6_horizon : ByteArray := prog_1_method_6_code
def yX6_horizon : MethodName := ⟨RX6, "horizon", "()I"⟩
abbrev cX6_count : ByteArray := prog_1_method_7_code
def yX6_count : MethodName := ⟨RX6, "count", "(II)I"⟩
abbrev cX6_total : ByteArray := prog_1_method_8_code
def yX6_total : MethodName := ⟨RX6, "total", "(II)I"⟩
abbrev cX6_firstAgainst : ByteArray := prog_1_method_9_code
def yX6_firstAgainst : MethodName := ⟨RX6, "firstAgainst", "(III)I"⟩
abbrev cX6_select : ByteArray := prog_1_method_10_code
def yX6_select : MethodName := ⟨RX6, "select", "(II)I"⟩
abbrev cX6_draw : ByteArray := prog_1_method_11_code
def yX6_draw : MethodName := ⟨RX6, "draw", "(IIJ)I"⟩
abbrev cX6_tell : ByteArray := prog_1_method_12_code
def yX6_tell : MethodName := ⟨RX6, "tell", "(I)I"⟩
abbrev cX6_read : ByteArray := prog_1_method_13_code
def yX6_read : MethodName := ⟨RX6, "read", "(I)I"⟩
abbrev cX6_length : ByteArray := prog_1_method_14_code
def yX6_length : MethodName := ⟨RX6, "length", "()I"⟩
abbrev cX6_code : ByteArray := prog_1_method_15_code
def yX6_code : MethodName := ⟨RX6, "code", "(I)I"⟩
abbrev cX6_number : ByteArray := prog_1_method_16_code
def yX6_number : MethodName := ⟨RX6, "number", "()I"⟩
abbrev cX6_height : ByteArray := prog_1_method_17_code
def yX6_height : MethodName := ⟨RX6, "height", "()I"⟩
abbrev cX6_mean : ByteArray := prog_1_method_18_code
def yX6_mean : MethodName := ⟨RX6, "mean", "()D"⟩
abbrev cX6_holds : ByteArray := prog_1_method_19_code
def yX6_holds : MethodName := ⟨RX6, "holds", "(I)Z"⟩
abbrev cX6_reductionCount : ByteArray := prog_1_method_20_code
def yX6_reductionCount : MethodName := ⟨RX6, "reductionCount", "()I"⟩
abbrev cX6_reduction : ByteArray := prog_1_method_21_code
def yX6_reduction : MethodName := ⟨RX6, "reduction", "(I)I"⟩
abbrev cX6_reduce : ByteArray := prog_1_method_22_code
def yX6_reduce : MethodName := ⟨RX6, "reduce", "(I)I"⟩
abbrev cX6_digest : ByteArray := prog_1_method_23_code
def yX6_digest : MethodName := ⟨RX6, "digest", "()J"⟩
abbrev cX6_forgetValues : ByteArray := prog_1_method_24_code
def yX6_forgetValues : MethodName := ⟨RX6, "forgetValues", "()V"⟩
abbrev cX6_chosen : ByteArray := prog_1_method_25_code
def yX6_chosen : MethodName := ⟨RX6, "chosen", "()LDataMaker$Value;"⟩
abbrev cX6_requireType : ByteArray := prog_1_method_26_code
def yX6_requireType : MethodName := ⟨RX6, "requireType", "(I)V"⟩
abbrev cX6_requireProperty : ByteArray := prog_1_method_27_code
def yX6_requireProperty : MethodName := ⟨RX6, "requireProperty", "(I)V"⟩
abbrev cX6_requireSize : ByteArray := prog_1_method_28_code
def yX6_requireSize : MethodName := ⟨RX6, "requireSize", "(I)V"⟩
abbrev cX6_requireKnown : ByteArray := prog_1_method_29_code
def yX6_requireKnown : MethodName := ⟨RX6, "requireKnown", "(I)V"⟩
def RX7 : String := "DataMakerModel"
def TX7 : u_T := fun k => match k with
  | 0 => ("DataMakerModel", "thrown", "I", false)
  | 1 => ("DataMakerModel", "low", "I", false)
  | 2 => ("DataMakerModel", "high", "I", false)
  | 3 => ("DataMakerModel", "types", "I", false)
  | 4 => ("DataMakerModel", "constructors", "I", false)
  | 5 => ("DataMakerModel", "owners", "[I", true)
  | 6 => ("DataMakerModel", "parameters", "[I", true)
  | 7 => ("DataMakerModel", "conditions", "[I", true)
  | 8 => ("DataMakerModel", "told", "I", false)
  | 9 => ("DataMakerModel", "tape", "[I", true)
  | 10 => ("DataMakerModel", "selectedType", "I", false)
  | 11 => ("DataMakerModel", "selected", "I", false)
  | 12 => ("DataMakerModel", "isMade", "Z", false)
  | 13 => ("DataMakerModel", "horizon", "I", false)
  | 14 => ("DataMakerModel", "values", "I", false)
  | 15 => ("DataMakerModel", "codes", "[[I", true)
  | 16 => ("DataMakerModel", "sizes", "[I", true)
  | 17 => ("DataMakerModel", "heights", "[I", true)
  | 18 => ("DataMakerModel", "counts", "[I", true)
  | 19 => ("DataMakerModel", "rows", "[I", true)
  | 20 => ("DataMakerModel", "lookedSize", "I", false)
  | 21 => ("DataMakerModel", "lookedHeight", "I", false)
  | 22 => ("DataMakerModel", "scratch", "[I", true)
  | 23 => ("DataMakerModel", "reductions", "I", false)
  | _ => ("DataMakerModel", "reduced", "[I", true)
def tyX7 : Nat → FieldType := fun k => match k with
  | 0 => .int
  | 1 => .int
  | 2 => .int
  | 3 => .int
  | 4 => .int
  | 5 => .array .int
  | 6 => .array .int
  | 7 => .array .int
  | 8 => .int
  | 9 => .array .int
  | 10 => .int
  | 11 => .int
  | 12 => .boolean
  | 13 => .int
  | 14 => .int
  | 15 => .array (.array .int)
  | 16 => .array .int
  | 17 => .array .int
  | 18 => .array .int
  | 19 => .array .int
  | 20 => .int
  | 21 => .int
  | 22 => .array .int
  | 23 => .int
  | _ => .array .int
theorem nmX7 : ∀ a, a < 25 → ∀ b, b < 25 → a ≠ b → (TX7 a).2.1 ≠ (TX7 b).2.1 := by decide +kernel
theorem tyX7_ok : ∀ k, k < 25 → parseFieldDescriptor (TX7 k).2.2.1 = some (tyX7 k) := by decide +kernel
abbrev cX7_init : ByteArray := prog_9_method_1_code
def yX7_init : MethodName := ⟨RX7, "<init>", "()V"⟩
abbrev cX7_thrown : ByteArray := prog_9_method_2_code
def yX7_thrown : MethodName := ⟨RX7, "thrown", "()I"⟩
abbrev cX7_fail : ByteArray := prog_9_method_3_code
def yX7_fail : MethodName := ⟨RX7, "fail", "(I)I"⟩
abbrev cX7_isIn : ByteArray := prog_9_method_4_code
def yX7_isIn : MethodName := ⟨RX7, "isIn", "(III)Z"⟩
abbrev cX7_isType : ByteArray := prog_9_method_5_code
def yX7_isType : MethodName := ⟨RX7, "isType", "(I)Z"⟩
abbrev cX7_change : ByteArray := prog_9_method_6_code
def yX7_change : MethodName := ⟨RX7, "change", "()V"⟩
abbrev cX7_setRange : ByteArray := prog_9_method_7_code
def yX7_setRange : MethodName := ⟨RX7, "setRange", "(II)Z"⟩
abbrev cX7_addType : ByteArray := prog_9_method_8_code
def yX7_addType : MethodName := ⟨RX7, "addType", "()I"⟩
abbrev cX7_addConstructor : ByteArray := prog_9_method_9_code
def yX7_addConstructor : MethodName := ⟨RX7, "addConstructor", "(IIIII)I"⟩
abbrev cX7_typeCount : ByteArray := prog_9_method_10_code
def yX7_typeCount : MethodName := ⟨RX7, "typeCount", "()I"⟩
abbrev cX7_look : ByteArray := prog_9_method_11_code
def yX7_look : MethodName := ⟨RX7, "look", "([IIII)I"⟩
abbrev cX7_isTrue : ByteArray := prog_9_method_12_code
def yX7_isTrue : MethodName := ⟨RX7, "isTrue", "(I[IIIII)Z"⟩
abbrev cX7_end : ByteArray := prog_9_method_13_code
def yX7_end : MethodName := ⟨RX7, "end", "([II)I"⟩
abbrev cX7_value : ByteArray := prog_9_method_14_code
def yX7_value : MethodName := ⟨RX7, "value", "(II)I"⟩
abbrev cX7_choices : ByteArray := prog_9_method_15_code
def yX7_choices : MethodName := ⟨RX7, "choices", "(II)[[I"⟩
abbrev cX7_constructorsIn : ByteArray := prog_9_method_16_code
def yX7_constructorsIn : MethodName := ⟨RX7, "constructorsIn", "([I)I"⟩
abbrev cX7_write : ByteArray := prog_9_method_17_code
def yX7_write : MethodName := ⟨RX7, "write", "(II)Z"⟩
abbrev cX7_make : ByteArray := prog_9_method_18_code
def yX7_make : MethodName := ⟨RX7, "make", "()V"⟩
abbrev cX7_horizon : ByteArray := prog_9_method_19_code
def yX7_horizon : MethodName := ⟨RX7, "horizon", "()I"⟩
abbrev cX7_asks : ByteArray := prog_9_method_20_code
def yX7_asks : MethodName := ⟨RX7, "asks", "(II)Z"⟩
abbrev cX7_upTo : ByteArray := prog_9_method_21_code
def yX7_upTo : MethodName := ⟨RX7, "upTo", "(II)I"⟩
abbrev cX7_count : ByteArray := prog_9_method_22_code
def yX7_count : MethodName := ⟨RX7, "count", "(II)I"⟩
abbrev cX7_total : ByteArray := prog_9_method_23_code
def yX7_total : MethodName := ⟨RX7, "total", "(II)I"⟩
abbrev cX7_isTrueOf : ByteArray := prog_9_method_24_code
def yX7_isTrueOf : MethodName := ⟨RX7, "isTrueOf", "(II)Z"⟩
abbrev cX7_firstAgainst : ByteArray := prog_9_method_25_code
def yX7_firstAgainst : MethodName := ⟨RX7, "firstAgainst", "(III)I"⟩
abbrev cX7_choose : ByteArray := prog_9_method_26_code
def yX7_choose : MethodName := ⟨RX7, "choose", "(II)V"⟩
abbrev cX7_select : ByteArray := prog_9_method_27_code
def yX7_select : MethodName := ⟨RX7, "select", "(II)I"⟩
abbrev cX7_draw : ByteArray := prog_9_method_28_code
def yX7_draw : MethodName := ⟨RX7, "draw", "(IIJ)I"⟩
abbrev cX7_tell : ByteArray := prog_9_method_29_code
def yX7_tell : MethodName := ⟨RX7, "tell", "(I)I"⟩
abbrev cX7_find : ByteArray := prog_9_method_30_code
def yX7_find : MethodName := ⟨RX7, "find", "(I[II)I"⟩
abbrev cX7_read : ByteArray := prog_9_method_31_code
def yX7_read : MethodName := ⟨RX7, "read", "(I)I"⟩
abbrev cX7_has : ByteArray := prog_9_method_32_code
def yX7_has : MethodName := ⟨RX7, "has", "()Z"⟩
abbrev cX7_current : ByteArray := prog_9_method_33_code
def yX7_current : MethodName := ⟨RX7, "current", "()I"⟩
abbrev cX7_length : ByteArray := prog_9_method_34_code
def yX7_length : MethodName := ⟨RX7, "length", "()I"⟩
abbrev cX7_code : ByteArray := prog_9_method_35_code
def yX7_code : MethodName := ⟨RX7, "code", "(I)I"⟩
abbrev cX7_number : ByteArray := prog_9_method_36_code
def yX7_number : MethodName := ⟨RX7, "number", "()I"⟩
abbrev cX7_height : ByteArray := prog_9_method_37_code
def yX7_height : MethodName := ⟨RX7, "height", "()I"⟩
abbrev cX7_mean : ByteArray := prog_9_method_38_code
def yX7_mean : MethodName := ⟨RX7, "mean", "()D"⟩
abbrev cX7_holds : ByteArray := prog_9_method_39_code
def yX7_holds : MethodName := ⟨RX7, "holds", "(I)Z"⟩
abbrev cX7_add : ByteArray := prog_9_method_40_code
def yX7_add : MethodName := ⟨RX7, "add", "(I)V"⟩
abbrev cX7_findReductions : ByteArray := prog_9_method_41_code
def yX7_findReductions : MethodName := ⟨RX7, "findReductions", "()V"⟩
abbrev cX7_reductionCount : ByteArray := prog_9_method_42_code
def yX7_reductionCount : MethodName := ⟨RX7, "reductionCount", "()I"⟩
abbrev cX7_reduction : ByteArray := prog_9_method_43_code
def yX7_reduction : MethodName := ⟨RX7, "reduction", "(I)I"⟩
abbrev cX7_reduce : ByteArray := prog_9_method_44_code
def yX7_reduce : MethodName := ⟨RX7, "reduce", "(I)I"⟩
abbrev cX7_digest : ByteArray := prog_9_method_45_code
def yX7_digest : MethodName := ⟨RX7, "digest", "()J"⟩
def RJx145de : String := "java/io/Serializable"
def TJx145de : u_T := fun k => match k with
  | _ => ("", "", "", false)
def tyJx145de : Nat → FieldType := fun k => match k with
  | _ => .int
theorem nmJx145de : ∀ a, a < 0 → ∀ b, b < 0 → a ≠ b → (TJx145de a).2.1 ≠ (TJx145de b).2.1 := by decide +kernel
theorem tyJx145de_ok : ∀ k, k < 0 → parseFieldDescriptor (TJx145de k).2.2.1 = some (tyJx145de k) := by decide +kernel
def RJ9 : String := "java/lang/Math"
def TJ9 : u_T := fun k => match k with
  | _ => ("", "", "", false)
def tyJ9 : Nat → FieldType := fun k => match k with
  | _ => .int
theorem nmJ9 : ∀ a, a < 0 → ∀ b, b < 0 → a ≠ b → (TJ9 a).2.1 ≠ (TJ9 b).2.1 := by decide +kernel
theorem tyJ9_ok : ∀ k, k < 0 → parseFieldDescriptor (TJ9 k).2.2.1 = some (tyJ9 k) := by decide +kernel
abbrev cJ9_abs_0f7a4 : ByteArray := prog_15_method_59_code
def yJ9_abs_0f7a4 : MethodName := ⟨RJ9, "abs", "(I)I"⟩
abbrev cJ9_max_7cf53 : ByteArray := prog_15_method_65_code
def yJ9_max_7cf53 : MethodName := ⟨RJ9, "max", "(II)I"⟩
abbrev cJ9_min_7cf53 : ByteArray := prog_15_method_69_code
def yJ9_min_7cf53 : MethodName := ⟨RJ9, "min", "(II)I"⟩
def RJ0 : String := "java/lang/String"
def TJ0 : u_T := fun k => match k with
  | _ => ("", "", "", false)
def tyJ0 : Nat → FieldType := fun k => match k with
  | _ => .int
theorem nmJ0 : ∀ a, a < 0 → ∀ b, b < 0 → a ≠ b → (TJ0 a).2.1 ≠ (TJ0 b).2.1 := by decide +kernel
theorem tyJ0_ok : ∀ k, k < 0 → parseFieldDescriptor (TJ0 k).2.2.1 = some (tyJ0 k) := by decide +kernel
def RJ10 : String := "java/lang/System"
def TJ10 : u_T := fun k => match k with
  | _ => ("", "", "", false)
def tyJ10 : Nat → FieldType := fun k => match k with
  | _ => .int
theorem nmJ10 : ∀ a, a < 0 → ∀ b, b < 0 → a ≠ b → (TJ10 a).2.1 ≠ (TJ10 b).2.1 := by decide +kernel
theorem tyJ10_ok : ∀ k, k < 0 → parseFieldDescriptor (TJ10 k).2.2.1 = some (tyJ10 k) := by decide +kernel
def RL : String := "DataMakerLaw"
abbrev cL_setRange : ByteArray := method_3_code
def yL_setRange : MethodName := ⟨RL, "setRange", "(LDataMaker;II[J)I"⟩
abbrev cL_addType : ByteArray := method_4_code
def yL_addType : MethodName := ⟨RL, "addType", "(LDataMaker;[J)I"⟩
abbrev cL_addConstructor : ByteArray := method_5_code
def yL_addConstructor : MethodName := ⟨RL, "addConstructor", "(LDataMaker;IIIII[J)I"⟩
abbrev cL_count : ByteArray := method_6_code
def yL_count : MethodName := ⟨RL, "count", "(LDataMaker;II[J)I"⟩
abbrev cL_total : ByteArray := method_7_code
def yL_total : MethodName := ⟨RL, "total", "(LDataMaker;II[J)I"⟩
abbrev cL_firstAgainst : ByteArray := method_8_code
def yL_firstAgainst : MethodName := ⟨RL, "firstAgainst", "(LDataMaker;III[J)I"⟩
abbrev cL_select : ByteArray := method_9_code
def yL_select : MethodName := ⟨RL, "select", "(LDataMaker;II[J)I"⟩
abbrev cL_draw : ByteArray := method_10_code
def yL_draw : MethodName := ⟨RL, "draw", "(LDataMaker;IIJ[J)I"⟩
abbrev cL_tell : ByteArray := method_11_code
def yL_tell : MethodName := ⟨RL, "tell", "(LDataMaker;I[J)I"⟩
abbrev cL_read : ByteArray := method_12_code
def yL_read : MethodName := ⟨RL, "read", "(LDataMaker;I[J)I"⟩
abbrev cL_length : ByteArray := method_13_code
def yL_length : MethodName := ⟨RL, "length", "(LDataMaker;[J)I"⟩
abbrev cL_code : ByteArray := method_14_code
def yL_code : MethodName := ⟨RL, "code", "(LDataMaker;I[J)I"⟩
abbrev cL_number : ByteArray := method_15_code
def yL_number : MethodName := ⟨RL, "number", "(LDataMaker;[J)I"⟩
abbrev cL_height : ByteArray := method_16_code
def yL_height : MethodName := ⟨RL, "height", "(LDataMaker;[J)I"⟩
abbrev cL_mean : ByteArray := method_17_code
def yL_mean : MethodName := ⟨RL, "mean", "(LDataMaker;[D)I"⟩
abbrev cL_holds : ByteArray := method_18_code
def yL_holds : MethodName := ⟨RL, "holds", "(LDataMaker;I[J)I"⟩
abbrev cL_reductionCount : ByteArray := method_19_code
def yL_reductionCount : MethodName := ⟨RL, "reductionCount", "(LDataMaker;[J)I"⟩
abbrev cL_reduction : ByteArray := method_20_code
def yL_reduction : MethodName := ⟨RL, "reduction", "(LDataMaker;I[J)I"⟩
abbrev cL_reduce : ByteArray := method_21_code
def yL_reduce : MethodName := ⟨RL, "reduce", "(LDataMaker;I[J)I"⟩
abbrev cL_law : ByteArray := code
def yL_law : MethodName := ⟨RL, "law", "([I)Z"⟩
abbrev vwCl : List vw_C := [(RX0, TX0, 2), (RX1, TX1, 8), (RX2, TX2, 2), (RX3, TX3, 10), (RX4, TX4, 6), (RX5, TX5, 16), (RX6, TX6, 6), (RX7, TX7, 25)]
end
section
/-- the texts of what is thrown -/
def ax_strs : List (String × Nat × String) := [(RX6, 52, "no range within 0 to 5"), (RX6, 72, "there are 4 types"), (RX6, 83, "no such parameters"), (RX6, 85, "no such condition"), (RX6, 90, "there are 6 constructors"), (RX6, 127, "no value has this number"), (RX6, 130, "no value up to the horizon has this number"), (RX6, 137, "no value of the type has this size"), (RX6, 144, "no number of a code"), (RX6, 149, "there are 40 numbers"), (RX6, 157, "the value is greater than the horizon"), (RX6, 174, "no such index in the code"), (RX6, 200, "no such reduction"), (RX6, 223, "no value is selected"), (RX6, 228, "no such type"), (RX6, 230, "no such property"), (RX6, 232, "no size from 1 to 8"), (RX6, 234, "the size is greater than the horizon")]
/-! ===== a method's run said without the machine: the heap as a function, the locals as a list; each rule stands on a row of the kit ===== -/
abbrev ax_E : Type := (Nat × vp_A) ⊕ (Nat × List Value)
abbrev ax_H : Type := Nat → Option ax_E
abbrev ax_L : Type := List (Nat × Value)
abbrev ax_P : Type := (Option Value ⊕ String) → ax_H → Prop
/-- a method: its name, its bytes, its locals, what it returns, its handlers, how many parameters -/
abbrev ax_M : Type := MethodName × ByteArray × Nat × Option FieldType × List (Nat × Nat × Nat × Nat) × Nat
/-- the launch, the tables' numbers, the array classes, where the law began, the script's cell, its length, its ints -/
abbrev ax_G : Type := Launch × va_G × (Nat → ClassId) × Nat × Nat × Nat × (Nat → Int32)
def ax_tys (kc : Nat → ClassId) : List (ClassId × FieldType) := [(kc 0, .int), (kc 1, .long), (kc 2, .double), (kc 3, .object "DataMaker$Value"), (kc 4, .array .int)]
def ax_cv (kc : Nat → ClassId) (x : ax_E) : va_E := match x with
  | .inl a => .inl (kc a.1, a.2)
  | .inr o => .inr o
def ax_f (kc : Nat → ClassId) (h : ax_H) (a : Nat) : va_E := ax_cv kc ((h a).getD (.inr (0, [])))
def ax_A (G : ax_G) : Nat → Prop := fun q => G.2.2.2.1 ≤ q
def ax_holds (G : ax_G) (h : ax_H) (H : Heap) : Prop := ∃ L : List Nat, (∀ a, a ∈ L ↔ (h a).isSome = true) ∧ va_P G.2.1 vwCl (va_pl L (ax_f G.2.2.1 h)) H ∧ va_D (ax_A G) (va_pl L (ax_f G.2.2.1 h))
def ax_all : List Cond := lw_tbl.filter goodWord
def ax_ncs : List (String × String) := [("java/lang/IllegalArgumentException", "java/lang/IndexOutOfBoundsException"), ("java/lang/IllegalStateException", "java/lang/IndexOutOfBoundsException"), ("java/lang/IllegalStateException", "java/lang/IllegalArgumentException"), ("java/lang/IndexOutOfBoundsException", "java/lang/IllegalStateException"), ("java/util/NoSuchElementException", "java/lang/IndexOutOfBoundsException"), ("java/util/NoSuchElementException", "java/lang/IllegalArgumentException"), ("java/util/NoSuchElementException", "java/lang/IllegalStateException")]
def ax_fix (G : ax_G) (s : State) (H : Heap) : Prop :=
  va_K G.2.1 vwCl (ax_tys G.2.2.1) s ∧ (∃ k : Class, s.vm.classes[G.2.2.1 4]? = some k ∧ k.kind = .array (G.2.2.1 0) (.array .int)) ∧ G.2.2.2.1 ≤ H.size ∧ G.1.stackTraces = false ∧
  G.2.2.2.2.1 < G.2.2.2.1 ∧ va_X G.2.2.2.2.1 G.2.2.2.2.2.1 G.2.2.2.2.2.2 s H ∧ vx_Zq Bundle.tN "UNASSIGNED_STACK" Bundle.steD (ax_A G) s H ∧ vx_Zq Bundle.tN "SUPPRESSED_SENTINEL" Bundle.listD (ax_A G) s H ∧
  (∀ q ∈ ax_strs, ∃ sa, vk_R q.1 q.2.1 q.2.2 sa s) ∧ (∀ q ∈ ax_ncs, va_Nc q.1 q.2 s)
def ax_env (G : ax_G) (M : ax_M) (p : Program) (s : State) (m : MethodId) (args : Array Value) (meth : Method) (c : Code) : Prop :=
  p.tables.exec = Jvm.exec ∧ c.code = M.2.1 ∧ meth.sig.returnType = M.2.2.2.1 ∧ c.maxLocals = M.2.2.1 ∧ s.vm.findClass M.1.cls = some m.cls ∧ (∀ w ∈ ax_all, w.before args s = true) ∧ meth.locks = false ∧ c.exceptionTable.toList = tableOf M.2.2.2.2.1 ∧ meth.name = M.1.name
def ax_rm (R : Room) (d mc ms : Nat) : Prop := R.cells = mc ∧ R.slots = ms ∧ d + 8 ≤ R.frames ∧ 40 * d + 120 ≤ R.locals
def ax_Qc (G : ax_G) (Q : ax_P) : Array Value → State → Outcome → State → Prop := fun _ st oc t => ∃ (v : Option Value) (h : ax_H), oc = .returned v ∧ Q (.inl v) h ∧ ax_holds G h t.heap ∧ va_F (ax_A G) st t
def ax_XC (G : ax_G) (Q : ax_P) : String → State → State → Prop := fun E st t => ∃ h : ax_H, Q (.inr E) h ∧ ax_holds G h t.heap ∧ va_F (ax_A G) st t
def AW (G : ax_G) (M : ax_M) (d mc ms : Nat) (Q : ax_P) (pc : Nat) (lv : ax_L) (st : List Value) (h : ax_H) (cn sn : Nat) : Prop :=
  ∀ (p : Program) (e : Env) (s : State) (m : MethodId) (args : Array Value) (below : List Frame) (meth : Method) (c : Code) (R : Room) (H : Heap) (locs : List Loc) (ls : Array Slot),
    ax_env G M p s m args meth c → ax_rm R d mc ms → ax_fix G s s.heap → ax_holds G h H → va_S (ax_A G) s.heap H locs → lv_has ls M.2.2.1 lv → cn ≤ mc → sn ≤ ms →
    W p G.1 e R s m args below meth c H locs cn sn (vx_MQ below (ax_Qc G Q) (ax_XC G Q) args s mc ms (ax_A G)) (F0 m pc ls st)
theorem ax_get0 {kc : Nat → ClassId} {h : ax_H} {L : List Nat} (hL : ∀ a, a ∈ L ↔ (h a).isSome = true) {a : Nat} {o : ax_E} (ha : h a = some o) : ∃ k : Nat, (va_pl L (ax_f kc h))[k]? = some (a, ax_cv kc o) := by
  obtain ⟨k, hk⟩ := va_pl_get (X := []) (f := ax_f kc h) ((hL a).mpr (by rw [ha]; rfl))
  refine ⟨k, hk.trans ?_⟩
  simp [ax_f, ha]
theorem ax_set0 {A : Nat → Prop} {kc : Nat → ClassId} {h : ax_H} {L : List Nat} (hL : ∀ a, a ∈ L ↔ (h a).isSome = true) (hD : va_D A (va_pl L (ax_f kc h))) {a k : Nat} {o : ax_E} (o' : ax_E) (ha : h a = some o) (hk : (va_pl L (ax_f kc h))[k]? = some (a, ax_cv kc o)) :
    (va_pl L (ax_f kc h)).set k (a, ax_cv kc o') = va_pl L (ax_f kc (va_up h a (some o'))) := by
  have h1 := va_pl_set (X := []) (e := ax_cv kc o') hD ((hL a).mpr (by rw [ha]; rfl)) (k := k) (hk.trans (by simp [ax_f, ha]))
  refine h1.trans (va_pl_congr fun b => ?_)
  by_cases hb : b = a
  · subst hb; simp [va_up, ax_f]
  · simp [va_up, ax_f, hb]
theorem ax_dom {h : ax_H} {L : List Nat} (hL : ∀ a, a ∈ L ↔ (h a).isSome = true) {a : Nat} {o o' : ax_E} (ha : h a = some o) : ∀ b, b ∈ L ↔ ((va_up h a (some o')) b).isSome = true := by
  intro b
  by_cases hb : b = a
  · subst hb; simp [va_up, hL, ha]
  · simp [va_up, hb, hL]
theorem ax_put0 {G : ax_G} {h : ax_H} {L : List Nat} {H1 : Heap} (hL : ∀ a, a ∈ L ↔ (h a).isSome = true) (hD : va_D (ax_A G) (va_pl L (ax_f G.2.2.1 h))) {a k : Nat} {o : ax_E} (o' : ax_E) (ha : h a = some o) (hk : (va_pl L (ax_f G.2.2.1 h))[k]? = some (a, ax_cv G.2.2.1 o))
    (hP1 : va_P G.2.1 vwCl ((va_pl L (ax_f G.2.2.1 h)).set k (a, ax_cv G.2.2.1 o')) H1) (hD1 : va_D (ax_A G) ((va_pl L (ax_f G.2.2.1 h)).set k (a, ax_cv G.2.2.1 o'))) : ax_holds G (va_up h a (some o')) H1 := by
  rw [ax_set0 hL hD o' ha hk] at hP1 hD1
  exact ⟨L, ax_dom hL ha, hP1, hD1⟩
theorem ax_new0 {G : ax_G} {h : ax_H} {L : List Nat} {H1 : Heap} (hL : ∀ a, a ∈ L ↔ (h a).isSome = true) {q : Nat} {o : ax_E} (hP1 : va_P G.2.1 vwCl (va_pl L (ax_f G.2.2.1 h) ++ [(q, ax_cv G.2.2.1 o)]) H1) (hD1 : va_D (ax_A G) (va_pl L (ax_f G.2.2.1 h) ++ [(q, ax_cv G.2.2.1 o)])) :
    h q = none ∧ ax_holds G (va_up h q (some o)) H1 := by
  have hq : q ∉ L := va_pl_fresh2 (X := []) (e := ax_cv G.2.2.1 o) hD1
  have hn : h q = none := by
    cases hh : h q with
    | none => rfl
    | some x => exact absurd ((hL q).mpr (by rw [hh]; rfl)) hq
  have he : va_pl L (ax_f G.2.2.1 h) ++ [(q, ax_cv G.2.2.1 o)] = va_pl (L ++ [q]) (ax_f G.2.2.1 (va_up h q (some o))) := by
    rw [va_pl_push hq]
    refine va_pl_congr fun b => ?_
    by_cases hb : b = q
    · subst hb; simp [va_up, ax_f]
    · simp [va_up, ax_f, hb]
  rw [he] at hP1 hD1
  refine ⟨hn, L ++ [q], fun b => ?_, hP1, hD1⟩
  by_cases hb : b = q
  · subst hb; simp [va_up]
  · simp [va_up, hb, hL]
/-- a local read: the first of its number -/
def ax_ld (lv : ax_L) (i : Nat) : Option Value := (lv.find? (fun q => q.1 == i)).map (fun q => q.2)
theorem ax_ld_at {ls : Array Slot} {n i : Nat} {lv : ax_L} {v : Value} (hl : lv_has ls n lv) (h : ax_ld lv i = some v) : ls[i]? = some (.val v) := by
  unfold ax_ld at h
  obtain ⟨q, hq, rfl⟩ := Option.map_eq_some_iff.mp h
  have h1 := List.mem_of_find?_eq_some hq
  have h2 := List.find?_some hq
  have h3 : q.1 = i := by simpa using h2
  rw [← h3]
  exact hl.2.2 q h1
/-- a local written, in its place -/
def ax_pt (i : Nat) (v : Value) (lv : ax_L) : ax_L := if lv.any (fun q => q.1 == i) then lv.map (fun q => if q.1 == i then (i, v) else q) else lv ++ [(i, v)]
def ax_s1 (i : Nat) (v : Value) (lv : ax_L) : ax_L := ax_pt i v (lv.filter (fun q => !(q.1 + 1 == i && q.2.category == 2)))
def ax_s2 (i : Nat) (v : Value) (lv : ax_L) : ax_L := ax_pt i v (lv.filter (fun q => !(q.1 == i + 1) && !(q.1 + 1 == i && q.2.category == 2)))
theorem ax_pt_in {i : Nat} {v : Value} {lv : ax_L} {q : Nat × Value} (h : q ∈ ax_pt i v lv) : q = (i, v) ∨ (q ∈ lv ∧ ¬ q.1 = i) := by
  unfold ax_pt at h
  split at h
  · obtain ⟨z, hz, rfl⟩ := List.mem_map.mp h
    by_cases hi : z.1 = i
    · left; simp [hi]
    · right
      have : (z.1 == i) = false := by simpa using hi
      simp [this, hz, hi]
  · rename_i hn
    rcases List.mem_append.mp h with h1 | h1
    · right
      refine ⟨h1, fun e => hn (List.any_eq_true.mpr ⟨q, h1, by simpa using e⟩)⟩
    · left; simpa using h1
theorem ax_s1_has {ls : Array Slot} {n i : Nat} {v : Value} {lv : ax_L} (h : lv_has ls n ((i, v) :: lv.filter (fun q => !(q.1 == i) && !(q.1 + 1 == i && q.2.category == 2)))) : lv_has ls n (ax_s1 i v lv) := by
  refine ⟨h.1, h.2.1, fun q hq => h.2.2 q ?_⟩
  rcases ax_pt_in hq with rfl | ⟨h1, h2⟩
  · exact List.mem_cons_self
  · obtain ⟨h3, h4⟩ := List.mem_filter.mp h1
    refine List.mem_cons_of_mem _ (List.mem_filter.mpr ⟨h3, ?_⟩)
    have : (q.1 == i) = false := by simpa using h2
    rw [this]
    simpa using h4
theorem ax_s2_has {ls : Array Slot} {n i : Nat} {v : Value} {lv : ax_L} (h : lv_has ls n ((i, v) :: lv.filter (fun q => !(q.1 == i) && (!(q.1 == i + 1) && !(q.1 + 1 == i && q.2.category == 2))))) : lv_has ls n (ax_s2 i v lv) := by
  refine ⟨h.1, h.2.1, fun q hq => h.2.2 q ?_⟩
  rcases ax_pt_in hq with rfl | ⟨h1, h2⟩
  · exact List.mem_cons_self
  · obtain ⟨h3, h4⟩ := List.mem_filter.mp h1
    refine List.mem_cons_of_mem _ (List.mem_filter.mpr ⟨h3, ?_⟩)
    have : (q.1 == i) = false := by simpa using h2
    rw [this]
    simpa using h4
theorem ax_iconst {G : ax_G} {M : ax_M} {d mc ms : Nat} {Q : ax_P} {pc : Nat} {lv : ax_L} {st : List Value} {h : ax_H} {cn sn : Nat} {n : Int} {v : Int32} (hd : decode M.2.1 pc = .ok (.iconst n, 1)) (hv : Int32.ofInt n = v) (k : AW G M d mc ms Q (pc + 1) lv (.int v :: st) h cn sn) : AW G M d mc ms Q (pc) lv st h cn sn := by
  intro p e s m args below meth c R H locs ls E Rm Fx Hp hS hl hc hs
  exact lv_iconst E.1 E.2.1 hd hv (k p e s m args below meth c R H locs ls E Rm Fx Hp hS hl hc hs)
theorem ax_bipush {G : ax_G} {M : ax_M} {d mc ms : Nat} {Q : ax_P} {pc : Nat} {lv : ax_L} {st : List Value} {h : ax_H} {cn sn : Nat} {n : Int} {v : Int32} (hd : decode M.2.1 pc = .ok (.bipush n, 2)) (hv : (Int8.ofInt n).toInt32 = v) (k : AW G M d mc ms Q (pc + 2) lv (.int v :: st) h cn sn) : AW G M d mc ms Q (pc) lv st h cn sn := by
  intro p e s m args below meth c R H locs ls E Rm Fx Hp hS hl hc hs
  exact lv_bipush E.1 E.2.1 hd hv (k p e s m args below meth c R H locs ls E Rm Fx Hp hS hl hc hs)
theorem ax_sipush {G : ax_G} {M : ax_M} {d mc ms : Nat} {Q : ax_P} {pc : Nat} {lv : ax_L} {st : List Value} {h : ax_H} {cn sn : Nat} {n : Int} {v : Int32} (hd : decode M.2.1 pc = .ok (.sipush n, 3)) (hv : (Int16.ofInt n).toInt32 = v) (k : AW G M d mc ms Q (pc + 3) lv (.int v :: st) h cn sn) : AW G M d mc ms Q (pc) lv st h cn sn := by
  intro p e s m args below meth c R H locs ls E Rm Fx Hp hS hl hc hs
  exact lv_sipush E.1 E.2.1 hd hv (k p e s m args below meth c R H locs ls E Rm Fx Hp hS hl hc hs)
theorem ax_lconst {G : ax_G} {M : ax_M} {d mc ms : Nat} {Q : ax_P} {pc : Nat} {lv : ax_L} {st : List Value} {h : ax_H} {cn sn : Nat} {n : Fin 2} {v : Int64} (hd : decode M.2.1 pc = .ok (.lconst n, 1)) (hv : Int64.ofNat (n : Nat) = v) (k : AW G M d mc ms Q (pc + 1) lv (.long v :: st) h cn sn) : AW G M d mc ms Q (pc) lv st h cn sn := by
  intro p e s m args below meth c R H locs ls E Rm Fx Hp hS hl hc hs
  exact lv_lconst E.1 E.2.1 hd hv (k p e s m args below meth c R H locs ls E Rm Fx Hp hS hl hc hs)
theorem ax_dconst0 {G : ax_G} {M : ax_M} {d mc ms : Nat} {Q : ax_P} {pc : Nat} {lv : ax_L} {st : List Value} {h : ax_H} {cn sn : Nat}  (hd : decode M.2.1 pc = .ok (.dconst 0, 1)) (k : AW G M d mc ms Q (pc + 1) lv (.double FP.dconst0 :: st) h cn sn) : AW G M d mc ms Q (pc) lv st h cn sn := by
  intro p e s m args below meth c R H locs ls E Rm Fx Hp hS hl hc hs
  exact lv_dconst0 E.1 E.2.1 hd (k p e s m args below meth c R H locs ls E Rm Fx Hp hS hl hc hs)
theorem ax_null {G : ax_G} {M : ax_M} {d mc ms : Nat} {Q : ax_P} {pc : Nat} {lv : ax_L} {st : List Value} {h : ax_H} {cn sn : Nat}  (hd : decode M.2.1 pc = .ok (.aconst_null, 1)) (k : AW G M d mc ms Q (pc + 1) lv (.null :: st) h cn sn) : AW G M d mc ms Q (pc) lv st h cn sn := by
  intro p e s m args below meth c R H locs ls E Rm Fx Hp hS hl hc hs
  exact lv_null E.1 E.2.1 hd (k p e s m args below meth c R H locs ls E Rm Fx Hp hS hl hc hs)
theorem ax_ldc2 {G : ax_G} {M : ax_M} {d mc ms : Nat} {Q : ax_P} {pc : Nat} {lv : ax_L} {st : List Value} {h : ax_H} {cn sn : Nat} {i : Nat} {v : Int64} (hd : decode M.2.1 pc = .ok (.ldc2_w i, 3)) (hw : Jvm.Cond.constantLong M.1.cls i v ∈ ax_all) (k : AW G M d mc ms Q (pc + 3) lv (.long v :: st) h cn sn) : AW G M d mc ms Q (pc) lv st h cn sn := by
  intro p e s m args below meth c R H locs ls E Rm Fx Hp hS hl hc hs
  exact lv_ldc2 E.1 E.2.1 E.2.2.2.2.1 (E.2.2.2.2.2.1 _ hw) hd (k p e s m args below meth c R H locs ls E Rm Fx Hp hS hl hc hs)
theorem ax_iload_n {G : ax_G} {M : ax_M} {d mc ms : Nat} {Q : ax_P} {pc : Nat} {lv : ax_L} {st : List Value} {h : ax_H} {cn sn : Nat} {k' : Fin 4} {x : Int32} (hd : decode M.2.1 pc = .ok (.iload_n k', 1)) (hv : ax_ld lv k' = some (.int x)) (k : AW G M d mc ms Q (pc + 1) lv (.int x :: st) h cn sn) : AW G M d mc ms Q (pc) lv st h cn sn := by
  intro p e s m args below meth c R H locs ls E Rm Fx Hp hS hl hc hs
  exact lv_iload_n E.1 E.2.1 hd rfl (ax_ld_at hl hv) (k p e s m args below meth c R H locs ls E Rm Fx Hp hS hl hc hs)
theorem ax_iload {G : ax_G} {M : ax_M} {d mc ms : Nat} {Q : ax_P} {pc : Nat} {lv : ax_L} {st : List Value} {h : ax_H} {cn sn : Nat} {i : Nat} {x : Int32} (hd : decode M.2.1 pc = .ok (.iload i, 2)) (hv : ax_ld lv i = some (.int x)) (k : AW G M d mc ms Q (pc + 2) lv (.int x :: st) h cn sn) : AW G M d mc ms Q (pc) lv st h cn sn := by
  intro p e s m args below meth c R H locs ls E Rm Fx Hp hS hl hc hs
  exact lv_iload E.1 E.2.1 hd (ax_ld_at hl hv) (k p e s m args below meth c R H locs ls E Rm Fx Hp hS hl hc hs)
theorem ax_lload_n {G : ax_G} {M : ax_M} {d mc ms : Nat} {Q : ax_P} {pc : Nat} {lv : ax_L} {st : List Value} {h : ax_H} {cn sn : Nat} {k' : Fin 4} {x : Int64} (hd : decode M.2.1 pc = .ok (.lload_n k', 1)) (hv : ax_ld lv k' = some (.long x)) (k : AW G M d mc ms Q (pc + 1) lv (.long x :: st) h cn sn) : AW G M d mc ms Q (pc) lv st h cn sn := by
  intro p e s m args below meth c R H locs ls E Rm Fx Hp hS hl hc hs
  exact lv_lload_n E.1 E.2.1 hd rfl (ax_ld_at hl hv) (k p e s m args below meth c R H locs ls E Rm Fx Hp hS hl hc hs)
theorem ax_lload {G : ax_G} {M : ax_M} {d mc ms : Nat} {Q : ax_P} {pc : Nat} {lv : ax_L} {st : List Value} {h : ax_H} {cn sn : Nat} {i : Nat} {x : Int64} (hd : decode M.2.1 pc = .ok (.lload i, 2)) (hv : ax_ld lv i = some (.long x)) (k : AW G M d mc ms Q (pc + 2) lv (.long x :: st) h cn sn) : AW G M d mc ms Q (pc) lv st h cn sn := by
  intro p e s m args below meth c R H locs ls E Rm Fx Hp hS hl hc hs
  exact lv_lload E.1 E.2.1 hd (ax_ld_at hl hv) (k p e s m args below meth c R H locs ls E Rm Fx Hp hS hl hc hs)
theorem ax_dload_n {G : ax_G} {M : ax_M} {d mc ms : Nat} {Q : ax_P} {pc : Nat} {lv : ax_L} {st : List Value} {h : ax_H} {cn sn : Nat} {k' : Fin 4} {x : UInt64} (hd : decode M.2.1 pc = .ok (.dload_n k', 1)) (hv : ax_ld lv k' = some (.double x)) (k : AW G M d mc ms Q (pc + 1) lv (.double x :: st) h cn sn) : AW G M d mc ms Q (pc) lv st h cn sn := by
  intro p e s m args below meth c R H locs ls E Rm Fx Hp hS hl hc hs
  exact lv_dload_n E.1 E.2.1 hd rfl (ax_ld_at hl hv) (k p e s m args below meth c R H locs ls E Rm Fx Hp hS hl hc hs)
theorem ax_dload {G : ax_G} {M : ax_M} {d mc ms : Nat} {Q : ax_P} {pc : Nat} {lv : ax_L} {st : List Value} {h : ax_H} {cn sn : Nat} {i : Nat} {x : UInt64} (hd : decode M.2.1 pc = .ok (.dload i, 2)) (hv : ax_ld lv i = some (.double x)) (k : AW G M d mc ms Q (pc + 2) lv (.double x :: st) h cn sn) : AW G M d mc ms Q (pc) lv st h cn sn := by
  intro p e s m args below meth c R H locs ls E Rm Fx Hp hS hl hc hs
  exact lv_dload E.1 E.2.1 hd (ax_ld_at hl hv) (k p e s m args below meth c R H locs ls E Rm Fx Hp hS hl hc hs)
theorem ax_aload_n {G : ax_G} {M : ax_M} {d mc ms : Nat} {Q : ax_P} {pc : Nat} {lv : ax_L} {st : List Value} {h : ax_H} {cn sn : Nat} {k' : Fin 4} {x : Nat} (hd : decode M.2.1 pc = .ok (.aload_n k', 1)) (hv : ax_ld lv k' = some (.ref x)) (k : AW G M d mc ms Q (pc + 1) lv (.ref x :: st) h cn sn) : AW G M d mc ms Q (pc) lv st h cn sn := by
  intro p e s m args below meth c R H locs ls E Rm Fx Hp hS hl hc hs
  exact lv_aload_n E.1 E.2.1 hd rfl (ax_ld_at hl hv) (k p e s m args below meth c R H locs ls E Rm Fx Hp hS hl hc hs)
theorem ax_aload {G : ax_G} {M : ax_M} {d mc ms : Nat} {Q : ax_P} {pc : Nat} {lv : ax_L} {st : List Value} {h : ax_H} {cn sn : Nat} {i : Nat} {x : Nat} (hd : decode M.2.1 pc = .ok (.aload i, 2)) (hv : ax_ld lv i = some (.ref x)) (k : AW G M d mc ms Q (pc + 2) lv (.ref x :: st) h cn sn) : AW G M d mc ms Q (pc) lv st h cn sn := by
  intro p e s m args below meth c R H locs ls E Rm Fx Hp hS hl hc hs
  exact lv_aload E.1 E.2.1 hd (ax_ld_at hl hv) (k p e s m args below meth c R H locs ls E Rm Fx Hp hS hl hc hs)
theorem ax_aload_nN {G : ax_G} {M : ax_M} {d mc ms : Nat} {Q : ax_P} {pc : Nat} {lv : ax_L} {st : List Value} {h : ax_H} {cn sn : Nat} {k' : Fin 4} (hd : decode M.2.1 pc = .ok (.aload_n k', 1)) (hv : ax_ld lv k' = some .null) (k : AW G M d mc ms Q (pc + 1) lv (.null :: st) h cn sn) : AW G M d mc ms Q (pc) lv st h cn sn := by
  intro p e s m args below meth c R H locs ls E Rm Fx Hp hS hl hc hs
  exact lv_aload_nN E.1 E.2.1 hd rfl (ax_ld_at hl hv) (k p e s m args below meth c R H locs ls E Rm Fx Hp hS hl hc hs)
theorem ax_aloadN {G : ax_G} {M : ax_M} {d mc ms : Nat} {Q : ax_P} {pc : Nat} {lv : ax_L} {st : List Value} {h : ax_H} {cn sn : Nat} {i : Nat} (hd : decode M.2.1 pc = .ok (.aload i, 2)) (hv : ax_ld lv i = some .null) (k : AW G M d mc ms Q (pc + 2) lv (.null :: st) h cn sn) : AW G M d mc ms Q (pc) lv st h cn sn := by
  intro p e s m args below meth c R H locs ls E Rm Fx Hp hS hl hc hs
  exact lv_aloadN E.1 E.2.1 hd (ax_ld_at hl hv) (k p e s m args below meth c R H locs ls E Rm Fx Hp hS hl hc hs)
theorem ax_istore_n {G : ax_G} {M : ax_M} {d mc ms : Nat} {Q : ax_P} {pc : Nat} {lv : ax_L} {st : List Value} {h : ax_H} {cn sn : Nat} {k' : Fin 4} {x : Int32} (hd : decode M.2.1 pc = .ok (.istore_n k', 1)) (hi : (k' : Nat) < M.2.2.1) (k : AW G M d mc ms Q (pc + 1) (ax_s1 k' (.int x) lv) st h cn sn) : AW G M d mc ms Q (pc) lv (.int x :: st) h cn sn := by
  intro p e s m args below meth c R H locs ls E Rm Fx Hp hS hl hc hs
  exact lv_istore_n E.1 E.2.1 hd rfl hl hi rfl (fun ls9 hl9 => k p e s m args below meth c R H locs ls9 E Rm Fx Hp hS (ax_s1_has hl9) hc hs)
theorem ax_istore {G : ax_G} {M : ax_M} {d mc ms : Nat} {Q : ax_P} {pc : Nat} {lv : ax_L} {st : List Value} {h : ax_H} {cn sn : Nat} {i : Nat} {x : Int32} (hd : decode M.2.1 pc = .ok (.istore i, 2)) (hi : i < M.2.2.1) (k : AW G M d mc ms Q (pc + 2) (ax_s1 i (.int x) lv) st h cn sn) : AW G M d mc ms Q (pc) lv (.int x :: st) h cn sn := by
  intro p e s m args below meth c R H locs ls E Rm Fx Hp hS hl hc hs
  exact lv_istore E.1 E.2.1 hd hl hi rfl (fun ls9 hl9 => k p e s m args below meth c R H locs ls9 E Rm Fx Hp hS (ax_s1_has hl9) hc hs)
theorem ax_lstore_n {G : ax_G} {M : ax_M} {d mc ms : Nat} {Q : ax_P} {pc : Nat} {lv : ax_L} {st : List Value} {h : ax_H} {cn sn : Nat} {k' : Fin 4} {x : Int64} (hd : decode M.2.1 pc = .ok (.lstore_n k', 1)) (hi : (k' : Nat) + 1 < M.2.2.1) (k : AW G M d mc ms Q (pc + 1) (ax_s2 k' (.long x) lv) st h cn sn) : AW G M d mc ms Q (pc) lv (.long x :: st) h cn sn := by
  intro p e s m args below meth c R H locs ls E Rm Fx Hp hS hl hc hs
  exact lv_lstore_n E.1 E.2.1 hd rfl hl hi rfl (fun ls9 hl9 => k p e s m args below meth c R H locs ls9 E Rm Fx Hp hS (ax_s2_has hl9) hc hs)
theorem ax_lstore {G : ax_G} {M : ax_M} {d mc ms : Nat} {Q : ax_P} {pc : Nat} {lv : ax_L} {st : List Value} {h : ax_H} {cn sn : Nat} {i : Nat} {x : Int64} (hd : decode M.2.1 pc = .ok (.lstore i, 2)) (hi : i + 1 < M.2.2.1) (k : AW G M d mc ms Q (pc + 2) (ax_s2 i (.long x) lv) st h cn sn) : AW G M d mc ms Q (pc) lv (.long x :: st) h cn sn := by
  intro p e s m args below meth c R H locs ls E Rm Fx Hp hS hl hc hs
  exact lv_lstore E.1 E.2.1 hd hl hi rfl (fun ls9 hl9 => k p e s m args below meth c R H locs ls9 E Rm Fx Hp hS (ax_s2_has hl9) hc hs)
theorem ax_dstore_n {G : ax_G} {M : ax_M} {d mc ms : Nat} {Q : ax_P} {pc : Nat} {lv : ax_L} {st : List Value} {h : ax_H} {cn sn : Nat} {k' : Fin 4} {x : UInt64} (hd : decode M.2.1 pc = .ok (.dstore_n k', 1)) (hi : (k' : Nat) + 1 < M.2.2.1) (k : AW G M d mc ms Q (pc + 1) (ax_s2 k' (.double x) lv) st h cn sn) : AW G M d mc ms Q (pc) lv (.double x :: st) h cn sn := by
  intro p e s m args below meth c R H locs ls E Rm Fx Hp hS hl hc hs
  exact lv_dstore_n E.1 E.2.1 hd rfl hl hi rfl (fun ls9 hl9 => k p e s m args below meth c R H locs ls9 E Rm Fx Hp hS (ax_s2_has hl9) hc hs)
theorem ax_dstore {G : ax_G} {M : ax_M} {d mc ms : Nat} {Q : ax_P} {pc : Nat} {lv : ax_L} {st : List Value} {h : ax_H} {cn sn : Nat} {i : Nat} {x : UInt64} (hd : decode M.2.1 pc = .ok (.dstore i, 2)) (hi : i + 1 < M.2.2.1) (k : AW G M d mc ms Q (pc + 2) (ax_s2 i (.double x) lv) st h cn sn) : AW G M d mc ms Q (pc) lv (.double x :: st) h cn sn := by
  intro p e s m args below meth c R H locs ls E Rm Fx Hp hS hl hc hs
  exact lv_dstore E.1 E.2.1 hd hl hi rfl (fun ls9 hl9 => k p e s m args below meth c R H locs ls9 E Rm Fx Hp hS (ax_s2_has hl9) hc hs)
theorem ax_astore_n {G : ax_G} {M : ax_M} {d mc ms : Nat} {Q : ax_P} {pc : Nat} {lv : ax_L} {st : List Value} {h : ax_H} {cn sn : Nat} {k' : Fin 4} {x : Nat} (hd : decode M.2.1 pc = .ok (.astore_n k', 1)) (hi : (k' : Nat) < M.2.2.1) (k : AW G M d mc ms Q (pc + 1) (ax_s1 k' (.ref x) lv) st h cn sn) : AW G M d mc ms Q (pc) lv (.ref x :: st) h cn sn := by
  intro p e s m args below meth c R H locs ls E Rm Fx Hp hS hl hc hs
  exact lv_astore_n E.1 E.2.1 hd rfl hl hi rfl (fun ls9 hl9 => k p e s m args below meth c R H locs ls9 E Rm Fx Hp hS (ax_s1_has hl9) hc hs)
theorem ax_astore {G : ax_G} {M : ax_M} {d mc ms : Nat} {Q : ax_P} {pc : Nat} {lv : ax_L} {st : List Value} {h : ax_H} {cn sn : Nat} {i : Nat} {x : Nat} (hd : decode M.2.1 pc = .ok (.astore i, 2)) (hi : i < M.2.2.1) (k : AW G M d mc ms Q (pc + 2) (ax_s1 i (.ref x) lv) st h cn sn) : AW G M d mc ms Q (pc) lv (.ref x :: st) h cn sn := by
  intro p e s m args below meth c R H locs ls E Rm Fx Hp hS hl hc hs
  exact lv_astore E.1 E.2.1 hd hl hi rfl (fun ls9 hl9 => k p e s m args below meth c R H locs ls9 E Rm Fx Hp hS (ax_s1_has hl9) hc hs)
theorem ax_astore_nN {G : ax_G} {M : ax_M} {d mc ms : Nat} {Q : ax_P} {pc : Nat} {lv : ax_L} {st : List Value} {h : ax_H} {cn sn : Nat} {k' : Fin 4} (hd : decode M.2.1 pc = .ok (.astore_n k', 1)) (hi : (k' : Nat) < M.2.2.1) (k : AW G M d mc ms Q (pc + 1) (ax_s1 k' .null lv) st h cn sn) : AW G M d mc ms Q (pc) lv (.null :: st) h cn sn := by
  intro p e s m args below meth c R H locs ls E Rm Fx Hp hS hl hc hs
  exact lv_astore_nN E.1 E.2.1 hd rfl hl hi rfl (fun ls9 hl9 => k p e s m args below meth c R H locs ls9 E Rm Fx Hp hS (ax_s1_has hl9) hc hs)
theorem ax_astoreN {G : ax_G} {M : ax_M} {d mc ms : Nat} {Q : ax_P} {pc : Nat} {lv : ax_L} {st : List Value} {h : ax_H} {cn sn : Nat} {i : Nat} (hd : decode M.2.1 pc = .ok (.astore i, 2)) (hi : i < M.2.2.1) (k : AW G M d mc ms Q (pc + 2) (ax_s1 i .null lv) st h cn sn) : AW G M d mc ms Q (pc) lv (.null :: st) h cn sn := by
  intro p e s m args below meth c R H locs ls E Rm Fx Hp hS hl hc hs
  exact lv_astoreN E.1 E.2.1 hd hl hi rfl (fun ls9 hl9 => k p e s m args below meth c R H locs ls9 E Rm Fx Hp hS (ax_s1_has hl9) hc hs)
theorem ax_iinc {G : ax_G} {M : ax_M} {d mc ms : Nat} {Q : ax_P} {pc : Nat} {lv : ax_L} {st : List Value} {h : ax_H} {cn sn : Nat} {i : Nat} {n : Int} {x v : Int32} (hd : decode M.2.1 pc = .ok (.iinc i n, 3)) (hx : ax_ld lv i = some (.int x)) (hv : x + Int32.ofInt n = v) (hi : i < M.2.2.1) (k : AW G M d mc ms Q (pc + 3) (ax_s1 i (.int v) lv) st h cn sn) : AW G M d mc ms Q (pc) lv st h cn sn := by
  intro p e s m args below meth c R H locs ls E Rm Fx Hp hS hl hc hs
  unfold ax_ld at hx
  obtain ⟨q, hq, hq2⟩ := Option.map_eq_some_iff.mp hx
  obtain ⟨kk, hkk⟩ := List.getElem?_of_mem (List.mem_of_find?_eq_some hq)
  have h2 : q.1 = i := by simpa using List.find?_some hq
  have h3 : q = (i, Value.int x) := by rw [← h2, ← hq2]
  rw [h3] at hkk
  exact lv_iinc E.1 E.2.1 hd hl hkk hv hi rfl (fun ls9 hl9 => k p e s m args below meth c R H locs ls9 E Rm Fx Hp hS (ax_s1_has hl9) hc hs)
theorem ax_iadd {G : ax_G} {M : ax_M} {d mc ms : Nat} {Q : ax_P} {pc : Nat} {lv : ax_L} {st : List Value} {h : ax_H} {cn sn : Nat} {x y : Int32} (hd : decode M.2.1 pc = .ok (.iadd, 1)) (k : AW G M d mc ms Q (pc + 1) lv (.int (x + y) :: st) h cn sn) : AW G M d mc ms Q (pc) lv (.int y :: .int x :: st) h cn sn := by
  intro p e s m args below meth c R H locs ls E Rm Fx Hp hS hl hc hs
  exact lv_iadd E.1 E.2.1 hd (k p e s m args below meth c R H locs ls E Rm Fx Hp hS hl hc hs)
theorem ax_isub {G : ax_G} {M : ax_M} {d mc ms : Nat} {Q : ax_P} {pc : Nat} {lv : ax_L} {st : List Value} {h : ax_H} {cn sn : Nat} {x y : Int32} (hd : decode M.2.1 pc = .ok (.isub, 1)) (k : AW G M d mc ms Q (pc + 1) lv (.int (x - y) :: st) h cn sn) : AW G M d mc ms Q (pc) lv (.int y :: .int x :: st) h cn sn := by
  intro p e s m args below meth c R H locs ls E Rm Fx Hp hS hl hc hs
  exact lv_isub E.1 E.2.1 hd (k p e s m args below meth c R H locs ls E Rm Fx Hp hS hl hc hs)
theorem ax_imul {G : ax_G} {M : ax_M} {d mc ms : Nat} {Q : ax_P} {pc : Nat} {lv : ax_L} {st : List Value} {h : ax_H} {cn sn : Nat} {x y : Int32} (hd : decode M.2.1 pc = .ok (.imul, 1)) (k : AW G M d mc ms Q (pc + 1) lv (.int (x * y) :: st) h cn sn) : AW G M d mc ms Q (pc) lv (.int y :: .int x :: st) h cn sn := by
  intro p e s m args below meth c R H locs ls E Rm Fx Hp hS hl hc hs
  exact lv_imul E.1 E.2.1 hd (k p e s m args below meth c R H locs ls E Rm Fx Hp hS hl hc hs)
theorem ax_iand {G : ax_G} {M : ax_M} {d mc ms : Nat} {Q : ax_P} {pc : Nat} {lv : ax_L} {st : List Value} {h : ax_H} {cn sn : Nat} {x y : Int32} (hd : decode M.2.1 pc = .ok (.iand, 1)) (k : AW G M d mc ms Q (pc + 1) lv (.int (x &&& y) :: st) h cn sn) : AW G M d mc ms Q (pc) lv (.int y :: .int x :: st) h cn sn := by
  intro p e s m args below meth c R H locs ls E Rm Fx Hp hS hl hc hs
  exact lv_iand E.1 E.2.1 hd (k p e s m args below meth c R H locs ls E Rm Fx Hp hS hl hc hs)
theorem ax_irem {G : ax_G} {M : ax_M} {d mc ms : Nat} {Q : ax_P} {pc : Nat} {lv : ax_L} {st : List Value} {h : ax_H} {cn sn : Nat} {x y : Int32} (hd : decode M.2.1 pc = .ok (.irem, 1)) (hne : ¬ y = 0) (k : AW G M d mc ms Q (pc + 1) lv (.int (x - x / y * y) :: st) h cn sn) : AW G M d mc ms Q (pc) lv (.int y :: .int x :: st) h cn sn := by
  intro p e s m args below meth c R H locs ls E Rm Fx Hp hS hl hc hs
  exact lv_irem E.1 E.2.1 hd hne (k p e s m args below meth c R H locs ls E Rm Fx Hp hS hl hc hs)
theorem ax_ladd {G : ax_G} {M : ax_M} {d mc ms : Nat} {Q : ax_P} {pc : Nat} {lv : ax_L} {st : List Value} {h : ax_H} {cn sn : Nat} {x y : Int64} (hd : decode M.2.1 pc = .ok (.ladd, 1)) (k : AW G M d mc ms Q (pc + 1) lv (.long (x + y) :: st) h cn sn) : AW G M d mc ms Q (pc) lv (.long y :: .long x :: st) h cn sn := by
  intro p e s m args below meth c R H locs ls E Rm Fx Hp hS hl hc hs
  exact lv_ladd E.1 E.2.1 hd (k p e s m args below meth c R H locs ls E Rm Fx Hp hS hl hc hs)
theorem ax_lmul {G : ax_G} {M : ax_M} {d mc ms : Nat} {Q : ax_P} {pc : Nat} {lv : ax_L} {st : List Value} {h : ax_H} {cn sn : Nat} {x y : Int64} (hd : decode M.2.1 pc = .ok (.lmul, 1)) (k : AW G M d mc ms Q (pc + 1) lv (.long (x * y) :: st) h cn sn) : AW G M d mc ms Q (pc) lv (.long y :: .long x :: st) h cn sn := by
  intro p e s m args below meth c R H locs ls E Rm Fx Hp hS hl hc hs
  exact lv_lmul E.1 E.2.1 hd (k p e s m args below meth c R H locs ls E Rm Fx Hp hS hl hc hs)
theorem ax_land {G : ax_G} {M : ax_M} {d mc ms : Nat} {Q : ax_P} {pc : Nat} {lv : ax_L} {st : List Value} {h : ax_H} {cn sn : Nat} {x y : Int64} (hd : decode M.2.1 pc = .ok (.land, 1)) (k : AW G M d mc ms Q (pc + 1) lv (.long (x &&& y) :: st) h cn sn) : AW G M d mc ms Q (pc) lv (.long y :: .long x :: st) h cn sn := by
  intro p e s m args below meth c R H locs ls E Rm Fx Hp hS hl hc hs
  exact lv_land E.1 E.2.1 hd (k p e s m args below meth c R H locs ls E Rm Fx Hp hS hl hc hs)
theorem ax_lor {G : ax_G} {M : ax_M} {d mc ms : Nat} {Q : ax_P} {pc : Nat} {lv : ax_L} {st : List Value} {h : ax_H} {cn sn : Nat} {x y : Int64} (hd : decode M.2.1 pc = .ok (.lor, 1)) (k : AW G M d mc ms Q (pc + 1) lv (.long (x ||| y) :: st) h cn sn) : AW G M d mc ms Q (pc) lv (.long y :: .long x :: st) h cn sn := by
  intro p e s m args below meth c R H locs ls E Rm Fx Hp hS hl hc hs
  exact lv_lor E.1 E.2.1 hd (k p e s m args below meth c R H locs ls E Rm Fx Hp hS hl hc hs)
theorem ax_lrem {G : ax_G} {M : ax_M} {d mc ms : Nat} {Q : ax_P} {pc : Nat} {lv : ax_L} {st : List Value} {h : ax_H} {cn sn : Nat} {x y : Int64} (hd : decode M.2.1 pc = .ok (.lrem, 1)) (hne : ¬ y = 0) (k : AW G M d mc ms Q (pc + 1) lv (.long (x - x / y * y) :: st) h cn sn) : AW G M d mc ms Q (pc) lv (.long y :: .long x :: st) h cn sn := by
  intro p e s m args below meth c R H locs ls E Rm Fx Hp hS hl hc hs
  exact lv_lrem E.1 E.2.1 hd hne (k p e s m args below meth c R H locs ls E Rm Fx Hp hS hl hc hs)
theorem ax_lcmp {G : ax_G} {M : ax_M} {d mc ms : Nat} {Q : ax_P} {pc : Nat} {lv : ax_L} {st : List Value} {h : ax_H} {cn sn : Nat} {x y : Int64} (hd : decode M.2.1 pc = .ok (.lcmp, 1)) (k : AW G M d mc ms Q (pc + 1) lv (.int (lg_cmp x y) :: st) h cn sn) : AW G M d mc ms Q (pc) lv (.long y :: .long x :: st) h cn sn := by
  intro p e s m args below meth c R H locs ls E Rm Fx Hp hS hl hc hs
  exact W.lcmp E.1 E.2.1 hd (k p e s m args below meth c R H locs ls E Rm Fx Hp hS hl hc hs)
theorem ax_i2l {G : ax_G} {M : ax_M} {d mc ms : Nat} {Q : ax_P} {pc : Nat} {lv : ax_L} {st : List Value} {h : ax_H} {cn sn : Nat} {x : Int32} (hd : decode M.2.1 pc = .ok (.i2l, 1)) (k : AW G M d mc ms Q (pc + 1) lv (.long x.toInt64 :: st) h cn sn) : AW G M d mc ms Q (pc) lv (.int x :: st) h cn sn := by
  intro p e s m args below meth c R H locs ls E Rm Fx Hp hS hl hc hs
  exact lv_i2l E.1 E.2.1 hd rfl (k p e s m args below meth c R H locs ls E Rm Fx Hp hS hl hc hs)
theorem ax_l2i {G : ax_G} {M : ax_M} {d mc ms : Nat} {Q : ax_P} {pc : Nat} {lv : ax_L} {st : List Value} {h : ax_H} {cn sn : Nat} {x : Int64} (hd : decode M.2.1 pc = .ok (.l2i, 1)) (k : AW G M d mc ms Q (pc + 1) lv (.int x.toInt32 :: st) h cn sn) : AW G M d mc ms Q (pc) lv (.long x :: st) h cn sn := by
  intro p e s m args below meth c R H locs ls E Rm Fx Hp hS hl hc hs
  exact lv_l2i E.1 E.2.1 hd rfl (k p e s m args below meth c R H locs ls E Rm Fx Hp hS hl hc hs)
theorem ax_lushr {G : ax_G} {M : ax_M} {d mc ms : Nat} {Q : ax_P} {pc : Nat} {lv : ax_L} {st : List Value} {h : ax_H} {cn sn : Nat} {x : Int64} {y : Int32} (hd : decode M.2.1 pc = .ok (.lushr, 1)) (k : AW G M d mc ms Q (pc + 1) lv (.long (x.toUInt64 >>> (y.toInt64.toUInt64 &&& Int64.toUInt64 63)).toInt64 :: st) h cn sn) : AW G M d mc ms Q (pc) lv (.int y :: .long x :: st) h cn sn := by
  intro p e s m args below meth c R H locs ls E Rm Fx Hp hS hl hc hs
  exact lv_lushr E.1 E.2.1 hd rfl (k p e s m args below meth c R H locs ls E Rm Fx Hp hS hl hc hs)
theorem ax_lshl {G : ax_G} {M : ax_M} {d mc ms : Nat} {Q : ax_P} {pc : Nat} {lv : ax_L} {st : List Value} {h : ax_H} {cn sn : Nat} {x : Int64} {y : Int32} (hd : decode M.2.1 pc = .ok (.lshl, 1)) (k : AW G M d mc ms Q (pc + 1) lv (.long (x <<< (y.toInt64 &&& 63)) :: st) h cn sn) : AW G M d mc ms Q (pc) lv (.int y :: .long x :: st) h cn sn := by
  intro p e s m args below meth c R H locs ls E Rm Fx Hp hS hl hc hs
  exact lv_lshl E.1 E.2.1 hd rfl (k p e s m args below meth c R H locs ls E Rm Fx Hp hS hl hc hs)
theorem ax_i2d {G : ax_G} {M : ax_M} {d mc ms : Nat} {Q : ax_P} {pc : Nat} {lv : ax_L} {st : List Value} {h : ax_H} {cn sn : Nat} {x : Int32} (hd : decode M.2.1 pc = .ok (.i2d, 1)) (k : AW G M d mc ms Q (pc + 1) lv (.double (FP.i2d x) :: st) h cn sn) : AW G M d mc ms Q (pc) lv (.int x :: st) h cn sn := by
  intro p e s m args below meth c R H locs ls E Rm Fx Hp hS hl hc hs
  exact lv_i2d E.1 E.2.1 hd (k p e s m args below meth c R H locs ls E Rm Fx Hp hS hl hc hs)
theorem ax_ddiv {G : ax_G} {M : ax_M} {d mc ms : Nat} {Q : ax_P} {pc : Nat} {lv : ax_L} {st : List Value} {h : ax_H} {cn sn : Nat} {x y : UInt64} (hd : decode M.2.1 pc = .ok (.ddiv, 1)) (hne : vf_n64 (FP.ddiv x y)) (k : AW G M d mc ms Q (pc + 1) lv (.double (FP.ddiv x y) :: st) h cn sn) : AW G M d mc ms Q (pc) lv (.double y :: .double x :: st) h cn sn := by
  intro p e s m args below meth c R H locs ls E Rm Fx Hp hS hl hc hs
  exact lv_ddiv E.1 E.2.1 hd hne (k p e s m args below meth c R H locs ls E Rm Fx Hp hS hl hc hs)
theorem ax_dcmp {G : ax_G} {M : ax_M} {d mc ms : Nat} {Q : ax_P} {pc : Nat} {lv : ax_L} {st : List Value} {h : ax_H} {cn sn : Nat} {x y : UInt64} {op : CmpOp} (hd : decode M.2.1 pc = .ok (.dcmp op, 1)) (k : AW G M d mc ms Q (pc + 1) lv (.int (Op.cmpValue (FP.dcmp x y) op) :: st) h cn sn) : AW G M d mc ms Q (pc) lv (.double y :: .double x :: st) h cn sn := by
  intro p e s m args below meth c R H locs ls E Rm Fx Hp hS hl hc hs
  exact lv_dcmp E.1 E.2.1 hd (k p e s m args below meth c R H locs ls E Rm Fx Hp hS hl hc hs)
theorem ax_dup {G : ax_G} {M : ax_M} {d mc ms : Nat} {Q : ax_P} {pc : Nat} {lv : ax_L} {st : List Value} {h : ax_H} {cn sn : Nat} {v : Value} (hd : decode M.2.1 pc = .ok (.dup, 1)) (hv : v.category = 1) (k : AW G M d mc ms Q (pc + 1) lv (v :: v :: st) h cn sn) : AW G M d mc ms Q (pc) lv (v :: st) h cn sn := by
  intro p e s m args below meth c R H locs ls E Rm Fx Hp hS hl hc hs
  exact lv_dup E.1 E.2.1 hd hv (k p e s m args below meth c R H locs ls E Rm Fx Hp hS hl hc hs)
theorem ax_dup2 {G : ax_G} {M : ax_M} {d mc ms : Nat} {Q : ax_P} {pc : Nat} {lv : ax_L} {st : List Value} {h : ax_H} {cn sn : Nat} {v w : Value} (hd : decode M.2.1 pc = .ok (.dup2, 1)) (hv : v.category = 1) (hw : w.category = 1) (k : AW G M d mc ms Q (pc + 1) lv (v :: w :: v :: w :: st) h cn sn) : AW G M d mc ms Q (pc) lv (v :: w :: st) h cn sn := by
  intro p e s m args below meth c R H locs ls E Rm Fx Hp hS hl hc hs
  exact lv_dup2_11 E.1 E.2.1 hd hv hw (k p e s m args below meth c R H locs ls E Rm Fx Hp hS hl hc hs)
theorem ax_goto {G : ax_G} {M : ax_M} {d mc ms : Nat} {Q : ax_P} {pc : Nat} {lv : ax_L} {st : List Value} {h : ax_H} {cn sn : Nat} {off : Int} {tgt : Nat} (hd : decode M.2.1 pc = .ok (.goto off, 3)) (ht : (pc : Int) + off = (tgt : Int)) (k : AW G M d mc ms Q (tgt) lv st h cn sn) : AW G M d mc ms Q (pc) lv st h cn sn := by
  intro p e s m args below meth c R H locs ls E Rm Fx Hp hS hl hc hs
  exact lv_goto E.1 E.2.1 hd ht (k p e s m args below meth c R H locs ls E Rm Fx Hp hS hl hc hs)
theorem ax_if_eq {G : ax_G} {M : ax_M} {d mc ms : Nat} {Q : ax_P} {pc : Nat} {lv : ax_L} {st : List Value} {h : ax_H} {cn sn : Nat} {x : Int32} {off : Int} {tgt : Nat} (hd : decode M.2.1 pc = .ok (.ifCond .eq off, 3)) (ht : (pc : Int) + off = (tgt : Int)) (kt : x = 0 → AW G M d mc ms Q (tgt) lv st h cn sn) (kf : ¬ (x = 0) → AW G M d mc ms Q (pc + 3) lv st h cn sn) : AW G M d mc ms Q (pc) lv (.int x :: st) h cn sn := by
  intro p e s m args below meth c R H locs ls E Rm Fx Hp hS hl hc hs
  exact lv_if_eq E.1 E.2.1 hd ht (fun z => kt z p e s m args below meth c R H locs ls E Rm Fx Hp hS hl hc hs) (fun z => kf z p e s m args below meth c R H locs ls E Rm Fx Hp hS hl hc hs)
theorem ax_if_ne {G : ax_G} {M : ax_M} {d mc ms : Nat} {Q : ax_P} {pc : Nat} {lv : ax_L} {st : List Value} {h : ax_H} {cn sn : Nat} {x : Int32} {off : Int} {tgt : Nat} (hd : decode M.2.1 pc = .ok (.ifCond .ne off, 3)) (ht : (pc : Int) + off = (tgt : Int)) (kt : ¬ x = 0 → AW G M d mc ms Q (tgt) lv st h cn sn) (kf : x = 0 → AW G M d mc ms Q (pc + 3) lv st h cn sn) : AW G M d mc ms Q (pc) lv (.int x :: st) h cn sn := by
  intro p e s m args below meth c R H locs ls E Rm Fx Hp hS hl hc hs
  exact lv_if_ne E.1 E.2.1 hd ht (fun z => kt z p e s m args below meth c R H locs ls E Rm Fx Hp hS hl hc hs) (fun z => kf z p e s m args below meth c R H locs ls E Rm Fx Hp hS hl hc hs)
theorem ax_if_lt {G : ax_G} {M : ax_M} {d mc ms : Nat} {Q : ax_P} {pc : Nat} {lv : ax_L} {st : List Value} {h : ax_H} {cn sn : Nat} {x : Int32} {off : Int} {tgt : Nat} (hd : decode M.2.1 pc = .ok (.ifCond .lt off, 3)) (ht : (pc : Int) + off = (tgt : Int)) (kt : x < 0 → AW G M d mc ms Q (tgt) lv st h cn sn) (kf : ¬ (x < 0) → AW G M d mc ms Q (pc + 3) lv st h cn sn) : AW G M d mc ms Q (pc) lv (.int x :: st) h cn sn := by
  intro p e s m args below meth c R H locs ls E Rm Fx Hp hS hl hc hs
  exact lv_if_lt E.1 E.2.1 hd ht (fun z => kt z p e s m args below meth c R H locs ls E Rm Fx Hp hS hl hc hs) (fun z => kf z p e s m args below meth c R H locs ls E Rm Fx Hp hS hl hc hs)
theorem ax_if_ge {G : ax_G} {M : ax_M} {d mc ms : Nat} {Q : ax_P} {pc : Nat} {lv : ax_L} {st : List Value} {h : ax_H} {cn sn : Nat} {x : Int32} {off : Int} {tgt : Nat} (hd : decode M.2.1 pc = .ok (.ifCond .ge off, 3)) (ht : (pc : Int) + off = (tgt : Int)) (kt : 0 ≤ x → AW G M d mc ms Q (tgt) lv st h cn sn) (kf : ¬ (0 ≤ x) → AW G M d mc ms Q (pc + 3) lv st h cn sn) : AW G M d mc ms Q (pc) lv (.int x :: st) h cn sn := by
  intro p e s m args below meth c R H locs ls E Rm Fx Hp hS hl hc hs
  exact lv_if_ge E.1 E.2.1 hd ht (fun z => kt z p e s m args below meth c R H locs ls E Rm Fx Hp hS hl hc hs) (fun z => kf z p e s m args below meth c R H locs ls E Rm Fx Hp hS hl hc hs)
theorem ax_if_gt {G : ax_G} {M : ax_M} {d mc ms : Nat} {Q : ax_P} {pc : Nat} {lv : ax_L} {st : List Value} {h : ax_H} {cn sn : Nat} {x : Int32} {off : Int} {tgt : Nat} (hd : decode M.2.1 pc = .ok (.ifCond .gt off, 3)) (ht : (pc : Int) + off = (tgt : Int)) (kt : 0 < x → AW G M d mc ms Q (tgt) lv st h cn sn) (kf : ¬ (0 < x) → AW G M d mc ms Q (pc + 3) lv st h cn sn) : AW G M d mc ms Q (pc) lv (.int x :: st) h cn sn := by
  intro p e s m args below meth c R H locs ls E Rm Fx Hp hS hl hc hs
  exact lv_if_gt E.1 E.2.1 hd ht (fun z => kt z p e s m args below meth c R H locs ls E Rm Fx Hp hS hl hc hs) (fun z => kf z p e s m args below meth c R H locs ls E Rm Fx Hp hS hl hc hs)
theorem ax_if_le {G : ax_G} {M : ax_M} {d mc ms : Nat} {Q : ax_P} {pc : Nat} {lv : ax_L} {st : List Value} {h : ax_H} {cn sn : Nat} {x : Int32} {off : Int} {tgt : Nat} (hd : decode M.2.1 pc = .ok (.ifCond .le off, 3)) (ht : (pc : Int) + off = (tgt : Int)) (kt : x ≤ 0 → AW G M d mc ms Q (tgt) lv st h cn sn) (kf : ¬ (x ≤ 0) → AW G M d mc ms Q (pc + 3) lv st h cn sn) : AW G M d mc ms Q (pc) lv (.int x :: st) h cn sn := by
  intro p e s m args below meth c R H locs ls E Rm Fx Hp hS hl hc hs
  exact lv_if_le E.1 E.2.1 hd ht (fun z => kt z p e s m args below meth c R H locs ls E Rm Fx Hp hS hl hc hs) (fun z => kf z p e s m args below meth c R H locs ls E Rm Fx Hp hS hl hc hs)
theorem ax_icmp_eq {G : ax_G} {M : ax_M} {d mc ms : Nat} {Q : ax_P} {pc : Nat} {lv : ax_L} {st : List Value} {h : ax_H} {cn sn : Nat} {x y : Int32} {off : Int} {tgt : Nat} (hd : decode M.2.1 pc = .ok (.if_icmp .eq off, 3)) (ht : (pc : Int) + off = (tgt : Int)) (kt : x = y → AW G M d mc ms Q (tgt) lv st h cn sn) (kf : ¬ (x = y) → AW G M d mc ms Q (pc + 3) lv st h cn sn) : AW G M d mc ms Q (pc) lv (.int y :: .int x :: st) h cn sn := by
  intro p e s m args below meth c R H locs ls E Rm Fx Hp hS hl hc hs
  exact lv_icmp_eq E.1 E.2.1 hd ht (fun z => kt z p e s m args below meth c R H locs ls E Rm Fx Hp hS hl hc hs) (fun z => kf z p e s m args below meth c R H locs ls E Rm Fx Hp hS hl hc hs)
theorem ax_icmp_ne {G : ax_G} {M : ax_M} {d mc ms : Nat} {Q : ax_P} {pc : Nat} {lv : ax_L} {st : List Value} {h : ax_H} {cn sn : Nat} {x y : Int32} {off : Int} {tgt : Nat} (hd : decode M.2.1 pc = .ok (.if_icmp .ne off, 3)) (ht : (pc : Int) + off = (tgt : Int)) (kt : ¬ x = y → AW G M d mc ms Q (tgt) lv st h cn sn) (kf : x = y → AW G M d mc ms Q (pc + 3) lv st h cn sn) : AW G M d mc ms Q (pc) lv (.int y :: .int x :: st) h cn sn := by
  intro p e s m args below meth c R H locs ls E Rm Fx Hp hS hl hc hs
  exact lv_icmp_ne E.1 E.2.1 hd ht (fun z => kt z p e s m args below meth c R H locs ls E Rm Fx Hp hS hl hc hs) (fun z => kf z p e s m args below meth c R H locs ls E Rm Fx Hp hS hl hc hs)
theorem ax_icmp_lt {G : ax_G} {M : ax_M} {d mc ms : Nat} {Q : ax_P} {pc : Nat} {lv : ax_L} {st : List Value} {h : ax_H} {cn sn : Nat} {x y : Int32} {off : Int} {tgt : Nat} (hd : decode M.2.1 pc = .ok (.if_icmp .lt off, 3)) (ht : (pc : Int) + off = (tgt : Int)) (kt : x < y → AW G M d mc ms Q (tgt) lv st h cn sn) (kf : ¬ (x < y) → AW G M d mc ms Q (pc + 3) lv st h cn sn) : AW G M d mc ms Q (pc) lv (.int y :: .int x :: st) h cn sn := by
  intro p e s m args below meth c R H locs ls E Rm Fx Hp hS hl hc hs
  exact lv_icmp_lt E.1 E.2.1 hd ht (fun z => kt z p e s m args below meth c R H locs ls E Rm Fx Hp hS hl hc hs) (fun z => kf z p e s m args below meth c R H locs ls E Rm Fx Hp hS hl hc hs)
theorem ax_icmp_ge {G : ax_G} {M : ax_M} {d mc ms : Nat} {Q : ax_P} {pc : Nat} {lv : ax_L} {st : List Value} {h : ax_H} {cn sn : Nat} {x y : Int32} {off : Int} {tgt : Nat} (hd : decode M.2.1 pc = .ok (.if_icmp .ge off, 3)) (ht : (pc : Int) + off = (tgt : Int)) (kt : y ≤ x → AW G M d mc ms Q (tgt) lv st h cn sn) (kf : ¬ (y ≤ x) → AW G M d mc ms Q (pc + 3) lv st h cn sn) : AW G M d mc ms Q (pc) lv (.int y :: .int x :: st) h cn sn := by
  intro p e s m args below meth c R H locs ls E Rm Fx Hp hS hl hc hs
  exact lv_icmp_ge E.1 E.2.1 hd ht (fun z => kt z p e s m args below meth c R H locs ls E Rm Fx Hp hS hl hc hs) (fun z => kf z p e s m args below meth c R H locs ls E Rm Fx Hp hS hl hc hs)
theorem ax_icmp_gt {G : ax_G} {M : ax_M} {d mc ms : Nat} {Q : ax_P} {pc : Nat} {lv : ax_L} {st : List Value} {h : ax_H} {cn sn : Nat} {x y : Int32} {off : Int} {tgt : Nat} (hd : decode M.2.1 pc = .ok (.if_icmp .gt off, 3)) (ht : (pc : Int) + off = (tgt : Int)) (kt : y < x → AW G M d mc ms Q (tgt) lv st h cn sn) (kf : ¬ (y < x) → AW G M d mc ms Q (pc + 3) lv st h cn sn) : AW G M d mc ms Q (pc) lv (.int y :: .int x :: st) h cn sn := by
  intro p e s m args below meth c R H locs ls E Rm Fx Hp hS hl hc hs
  exact lv_icmp_gt E.1 E.2.1 hd ht (fun z => kt z p e s m args below meth c R H locs ls E Rm Fx Hp hS hl hc hs) (fun z => kf z p e s m args below meth c R H locs ls E Rm Fx Hp hS hl hc hs)
theorem ax_icmp_le {G : ax_G} {M : ax_M} {d mc ms : Nat} {Q : ax_P} {pc : Nat} {lv : ax_L} {st : List Value} {h : ax_H} {cn sn : Nat} {x y : Int32} {off : Int} {tgt : Nat} (hd : decode M.2.1 pc = .ok (.if_icmp .le off, 3)) (ht : (pc : Int) + off = (tgt : Int)) (kt : x ≤ y → AW G M d mc ms Q (tgt) lv st h cn sn) (kf : ¬ (x ≤ y) → AW G M d mc ms Q (pc + 3) lv st h cn sn) : AW G M d mc ms Q (pc) lv (.int y :: .int x :: st) h cn sn := by
  intro p e s m args below meth c R H locs ls E Rm Fx Hp hS hl hc hs
  exact lv_icmp_le E.1 E.2.1 hd ht (fun z => kt z p e s m args below meth c R H locs ls E Rm Fx Hp hS hl hc hs) (fun z => kf z p e s m args below meth c R H locs ls E Rm Fx Hp hS hl hc hs)
theorem ax_ifnonnull {G : ax_G} {M : ax_M} {d mc ms : Nat} {Q : ax_P} {pc : Nat} {lv : ax_L} {st : List Value} {h : ax_H} {cn sn : Nat} {x : Nat} {off : Int} {tgt : Nat} (hd : decode M.2.1 pc = .ok (.ifnonnull off, 3)) (ht : (pc : Int) + off = (tgt : Int)) (k : AW G M d mc ms Q (tgt) lv st h cn sn) : AW G M d mc ms Q (pc) lv (.ref x :: st) h cn sn := by
  intro p e s m args below meth c R H locs ls E Rm Fx Hp hS hl hc hs
  exact lv_ifnonnull E.1 E.2.1 hd ht (k p e s m args below meth c R H locs ls E Rm Fx Hp hS hl hc hs)
theorem ax_ifnull {G : ax_G} {M : ax_M} {d mc ms : Nat} {Q : ax_P} {pc : Nat} {lv : ax_L} {st : List Value} {h : ax_H} {cn sn : Nat} {x : Nat} {off : Int} (hd : decode M.2.1 pc = .ok (.ifnull off, 3)) (k : AW G M d mc ms Q (pc + 3) lv st h cn sn) : AW G M d mc ms Q (pc) lv (.ref x :: st) h cn sn := by
  intro p e s m args below meth c R H locs ls E Rm Fx Hp hS hl hc hs
  exact lv_ifnull E.1 E.2.1 hd (k p e s m args below meth c R H locs ls E Rm Fx Hp hS hl hc hs)
theorem ax_ifnullN {G : ax_G} {M : ax_M} {d mc ms : Nat} {Q : ax_P} {pc : Nat} {lv : ax_L} {st : List Value} {h : ax_H} {cn sn : Nat} {off : Int} {tgt : Nat} (hd : decode M.2.1 pc = .ok (.ifnull off, 3)) (ht : (pc : Int) + off = (tgt : Int)) (k : AW G M d mc ms Q (tgt) lv st h cn sn) : AW G M d mc ms Q (pc) lv (.null :: st) h cn sn := by
  intro p e s m args below meth c R H locs ls E Rm Fx Hp hS hl hc hs
  exact lv_ifnullN E.1 E.2.1 hd ht (k p e s m args below meth c R H locs ls E Rm Fx Hp hS hl hc hs)
theorem ax_ifnonnullN {G : ax_G} {M : ax_M} {d mc ms : Nat} {Q : ax_P} {pc : Nat} {lv : ax_L} {st : List Value} {h : ax_H} {cn sn : Nat} {off : Int} (hd : decode M.2.1 pc = .ok (.ifnonnull off, 3)) (k : AW G M d mc ms Q (pc + 3) lv st h cn sn) : AW G M d mc ms Q (pc) lv (.null :: st) h cn sn := by
  intro p e s m args below meth c R H locs ls E Rm Fx Hp hS hl hc hs
  exact lv_ifnonnullN E.1 E.2.1 hd (k p e s m args below meth c R H locs ls E Rm Fx Hp hS hl hc hs)
theorem ax_tabOut {G : ax_G} {M : ax_M} {d mc ms : Nat} {Q : ax_P} {pc : Nat} {lv : ax_L} {st : List Value} {h : ax_H} {cn sn : Nat} {dflt lo hi : Int} {offs : Array Int} {len : Nat} {x : Int32} {tgt : Nat} (hd : decode M.2.1 pc = .ok (.tableswitch dflt lo hi offs, len)) (hx : x.toInt < lo ∨ hi < x.toInt) (ht : (pc : Int) + dflt = (tgt : Int)) (k : AW G M d mc ms Q (tgt) lv st h cn sn) : AW G M d mc ms Q (pc) lv (.int x :: st) h cn sn := by
  intro p e s m args below meth c R H locs ls E Rm Fx Hp hS hl hc hs
  exact lv_tableOut E.1 E.2.1 hd hx ht (k p e s m args below meth c R H locs ls E Rm Fx Hp hS hl hc hs)
theorem ax_tabIn {G : ax_G} {M : ax_M} {d mc ms : Nat} {Q : ax_P} {pc : Nat} {lv : ax_L} {st : List Value} {h : ax_H} {cn sn : Nat} {dflt lo hi : Int} {offs : Array Int} {len : Nat} {x : Int32} {off : Int} {tgt : Nat} (hd : decode M.2.1 pc = .ok (.tableswitch dflt lo hi offs, len)) (h1 : ¬ x.toInt < lo) (h2 : ¬ hi < x.toInt) (ho : offs[(x.toInt - lo).toNat]? = some off) (ht : (pc : Int) + off = (tgt : Int)) (k : AW G M d mc ms Q (tgt) lv st h cn sn) : AW G M d mc ms Q (pc) lv (.int x :: st) h cn sn := by
  intro p e s m args below meth c R H locs ls E Rm Fx Hp hS hl hc hs
  exact lv_tableIn E.1 E.2.1 hd h1 h2 ho ht (k p e s m args below meth c R H locs ls E Rm Fx Hp hS hl hc hs)
theorem ax_sub {G : ax_G} {M : ax_M} {d mc ms : Nat} {Q : ax_P} {pc : Nat} {lv : ax_L} {st : List Value} {h : ax_H} {cn sn : Nat} {lv' : ax_L} (hsub : ∀ q ∈ lv', q ∈ lv) (k : AW G M d mc ms Q (pc) lv' st h cn sn) : AW G M d mc ms Q (pc) lv st h cn sn := by
  intro p e s m args below meth c R H locs ls E Rm Fx Hp hS hl hc hs
  exact k p e s m args below meth c R H locs ls E Rm Fx Hp hS ⟨hl.1, hl.2.1, fun q hq => hl.2.2 q (hsub q hq)⟩ hc hs
theorem ax_iret {G : ax_G} {M : ax_M} {d mc ms : Nat} {Q : ax_P} {pc : Nat} {lv : ax_L} {st : List Value} {h : ax_H} {cn sn : Nat} {v : Int32} {ty : FieldType} (hd : decode M.2.1 pc = .ok (.ireturn, 1)) (hr : M.2.2.2.1 = some ty) (hn : narrow ty (.int v) = .int v) (hq : Q (.inl (some (.int v))) h) : AW G M d mc ms Q (pc) lv [.int v] h cn sn := by
  intro p e s m args below meth c R H locs ls E Rm Fx Hp hS hl hc hs
  exact vx_ret (W.widen (k := mc) (n := ms) hc hs (W.zret E.1 E.2.1 (E.2.2.1.trans hr) hn (fun t ht _ => ⟨_, h, rfl, hq, by rw [ht]; exact Hp, hS.F ht⟩) hS.2.2 hd (hlocks := E.2.2.2.2.2.2.1)))
theorem ax_lret {G : ax_G} {M : ax_M} {d mc ms : Nat} {Q : ax_P} {pc : Nat} {lv : ax_L} {st : List Value} {h : ax_H} {cn sn : Nat} {v : Int64} (hd : decode M.2.1 pc = .ok (.lreturn, 1)) (hr : M.2.2.2.1 = some .long) (hq : Q (.inl (some (.long v))) h) : AW G M d mc ms Q (pc) lv [.long v] h cn sn := by
  intro p e s m args below meth c R H locs ls E Rm Fx Hp hS hl hc hs
  exact vx_ret (W.widen (k := mc) (n := ms) hc hs (W.lret E.1 E.2.1 (E.2.2.1.trans hr) (fun t ht _ => ⟨_, h, rfl, hq, by rw [ht]; exact Hp, hS.F ht⟩) hS.2.2 hd (hlocks := E.2.2.2.2.2.2.1)))
theorem ax_dret {G : ax_G} {M : ax_M} {d mc ms : Nat} {Q : ax_P} {pc : Nat} {lv : ax_L} {st : List Value} {h : ax_H} {cn sn : Nat} {v : UInt64} (hd : decode M.2.1 pc = .ok (.dreturn, 1)) (hr : M.2.2.2.1 = some .double) (hq : Q (.inl (some (.double v))) h) : AW G M d mc ms Q (pc) lv [.double v] h cn sn := by
  intro p e s m args below meth c R H locs ls E Rm Fx Hp hS hl hc hs
  exact vx_ret (W.widen (k := mc) (n := ms) hc hs (W.dret E.1 E.2.1 (E.2.2.1.trans hr) (fun t ht _ => ⟨_, h, rfl, hq, by rw [ht]; exact Hp, hS.F ht⟩) hS.2.2 hd (hlocks := E.2.2.2.2.2.2.1)))
theorem ax_vret {G : ax_G} {M : ax_M} {d mc ms : Nat} {Q : ax_P} {pc : Nat} {lv : ax_L} {st : List Value} {h : ax_H} {cn sn : Nat} (hd : decode M.2.1 pc = .ok (.return_, 1)) (hr : M.2.2.2.1 = none) (hq : Q (.inl none) h) : AW G M d mc ms Q (pc) lv [] h cn sn := by
  intro p e s m args below meth c R H locs ls E Rm Fx Hp hS hl hc hs
  exact vx_ret (W.widen (k := mc) (n := ms) hc hs (W.vret E.1 E.2.1 (E.2.2.1.trans hr) (fun t ht _ => ⟨_, h, rfl, hq, by rw [ht]; exact Hp, hS.F ht⟩) hS.2.2 hd (hlocks := E.2.2.2.2.2.2.1)))
theorem ax_aret {G : ax_G} {M : ax_M} {d mc ms : Nat} {Q : ax_P} {pc : Nat} {lv : ax_L} {st : List Value} {h : ax_H} {cn sn : Nat} {v : Value} {rt : FieldType} (hd : decode M.2.1 pc = .ok (.areturn, 1)) (hr : M.2.2.2.1 = some rt) (hrt : (∃ n, rt = .object n) ∨ ∃ t, rt = .array t) (hv : v = .null ∨ ∃ a, v = .ref a) (hq : Q (.inl (some v)) h) : AW G M d mc ms Q (pc) lv [v] h cn sn := by
  intro p e s m args below meth c R H locs ls E Rm Fx Hp hS hl hc hs
  exact vx_ret (W.widen (k := mc) (n := ms) hc hs (W.aret E.1 E.2.1 (E.2.2.1.trans hr) hrt hv (fun t ht _ => ⟨_, h, rfl, hq, by rw [ht]; exact Hp, hS.F ht⟩) hS.2.2 hd (hlocks := E.2.2.2.2.2.2.1)))
end
section
/-! ===== the rules of the heap ===== -/
/-- the field that an entry names: its class's number, its place -/
def ax_fk (own : String) (i ci k : Nat) : Prop := ∃ (C : String) (T : u_T) (N : Nat), vwCl[ci]? = some (C, T, N) ∧ k < N ∧ Cond.fieldLink own i (T k).1 (T k).2.1 (T k).2.2.1 ∈ ax_all ∧ (∀ w ∈ u_ws C T N, w ∈ ax_all)
def ax_fp (own : String) (i ci k : Nat) (ty : FieldType) : Prop := ∃ (C : String) (T : u_T) (N : Nat) (ty0 : Nat → FieldType), vwCl[ci]? = some (C, T, N) ∧ k < N ∧ Cond.fieldLink own i (T k).1 (T k).2.1 (T k).2.2.1 ∈ ax_all ∧ (∀ w ∈ u_ws C T N, w ∈ ax_all) ∧
  (∀ k, k < N → parseFieldDescriptor (T k).2.2.1 = some (ty0 k)) ∧ (∀ a, a < N → ∀ b, b < N → a ≠ b → (T a).2.1 ≠ (T b).2.1) ∧ parseFieldDescriptor (T k).2.2.1 = some ty ∧ (T k).2.2.2 = false
def ax_fF (own : String) (i ci k : Nat) (ty : FieldType) : Prop := ∃ (C : String) (T : u_T) (N : Nat) (ty0 : Nat → FieldType), vwCl[ci]? = some (C, T, N) ∧ k < N ∧ Cond.fieldLink own i (T k).1 (T k).2.1 (T k).2.2.1 ∈ ax_all ∧ (∀ w ∈ u_ws C T N, w ∈ ax_all) ∧
  (∀ k, k < N → parseFieldDescriptor (T k).2.2.1 = some (ty0 k)) ∧ (∀ a, a < N → ∀ b, b < N → a ≠ b → (T a).2.1 ≠ (T b).2.1) ∧ parseFieldDescriptor (T k).2.2.1 = some ty ∧ (T k).2.2.2 = true ∧ (T k).1 = own
theorem ax_asg (vm : Vm) (c : ClassId) : vm.assignable c c = true := by
  unfold Vm.assignable
  show vm.assignableAux (255 + 1) c c = true
  rw [Vm.assignableAux]
  simp only [beq_self_eq_true, Bool.true_or]
theorem ax_get {G : ax_G} {M : ax_M} {d mc ms : Nat} {Q : ax_P} {pc : Nat} {lv : ax_L} {st : List Value} {h : ax_H} {cn sn : Nat} {i a ci j : Nat} {fs : List Value} {v : Value} (hd : decode M.2.1 pc = .ok (.getfield i, 3)) (hf : ax_fk M.1.cls i ci j) (ha : h a = some (.inr (ci, fs))) (hv : fs[j]? = some v) (k : AW G M d mc ms Q (pc + 3) lv (v :: st) h cn sn) : AW G M d mc ms Q pc lv (.ref a :: st) h cn sn := by
  intro p e s m args below meth c R H locs ls E Rm Fx Hp hS hl hc hs
  obtain ⟨C, T, N, f1, f2, f3, f4⟩ := hf
  obtain ⟨L, hL, hP, hD⟩ := id Hp
  obtain ⟨q0, hq⟩ := ax_get0 (kc := G.2.2.1) hL ha
  exact va_get (ci := ci) (fs := fs) E.1 E.2.1 E.2.2.2.2.2.1 f4 E.2.2.2.2.1 Fx.1 hP q0 hq f1 j f2 (E.2.2.2.2.2.1 _ f3) (fun _ h9 => h9) hv hd (k p e s m args below meth c R H locs ls E Rm Fx Hp hS hl hc hs)
theorem ax_put {G : ax_G} {M : ax_M} {d mc ms : Nat} {Q : ax_P} {pc : Nat} {lv : ax_L} {st : List Value} {h : ax_H} {cn sn : Nat} {i a ci j : Nat} {fs : List Value} {v : Value} {ty : FieldType} (hd : decode M.2.1 pc = .ok (.putfield i, 3)) (hf : ax_fp M.1.cls i ci j ty) (ha : h a = some (.inr (ci, fs))) (hn : narrow ty v = v) (hfit : fits ty v = true) (hj : j < fs.length) (k : AW G M d mc ms Q (pc + 3) lv st (va_up h a (some (.inr (ci, fs.set j v)))) cn sn) : AW G M d mc ms Q pc lv (v :: .ref a :: st) h cn sn := by
  intro p e s m args below meth c R H locs ls E Rm Fx Hp hS hl hc hs
  obtain ⟨C, T, N, ty0, f1, f2, f3, f4, f5, f6, f7, f8⟩ := hf
  obtain ⟨L, hL, hP, hD⟩ := id Hp
  obtain ⟨q0, hq⟩ := ax_get0 (kc := G.2.2.1) hL ha
  exact va_put (ci := ci) (fs := fs) E.1 E.2.1 E.2.2.2.2.2.1 f4 ty0 f5 f6 E.2.2.2.2.1 Fx.1 hP hD hS q0 hq f1 j f2 (E.2.2.2.2.2.1 _ f3) (fun _ h9 => h9) f8 f7 hn hfit hj hd (fun H1 locs1 hP1 hD1 hS1 => k p e s m args below meth c R H1 locs1 ls E Rm Fx (ax_put0 hL hD (.inr (ci, fs.set j v)) ha hq hP1 hD1) hS1 hl hc hs)
theorem ax_putF {G : ax_G} {M : ax_M} {d mc ms : Nat} {Q : ax_P} {pc : Nat} {lv : ax_L} {st : List Value} {h : ax_H} {cn sn : Nat} {i a ci j : Nat} {fs : List Value} {v : Value} {ty : FieldType} (hd : decode M.2.1 pc = .ok (.putfield i, 3)) (hf : ax_fF M.1.cls i ci j ty) (hM : M.1.name = "<init>") (ha : h a = some (.inr (ci, fs))) (hn : narrow ty v = v) (hfit : fits ty v = true) (hj : j < fs.length) (k : AW G M d mc ms Q (pc + 3) lv st (va_up h a (some (.inr (ci, fs.set j v)))) cn sn) : AW G M d mc ms Q pc lv (v :: .ref a :: st) h cn sn := by
  intro p e s m args below meth c R H locs ls E Rm Fx Hp hS hl hc hs
  obtain ⟨C, T, N, ty0, f1, f2, f3, f4, f5, f6, f7, f8, f9⟩ := hf
  obtain ⟨L, hL, hP, hD⟩ := id Hp
  obtain ⟨q0, hq⟩ := ax_get0 (kc := G.2.2.1) hL ha
  exact va_putF (ci := ci) (fs := fs) E.1 E.2.1 E.2.2.2.2.2.1 f4 ty0 f5 f6 E.2.2.2.2.1 Fx.1 hP hD hS q0 hq f1 j f2 (E.2.2.2.2.2.1 _ f3) (fun _ h9 => h9) f8 (E.2.2.2.2.2.2.2.2.trans hM) f9 f7 hn hfit hj hd (fun H1 locs1 hP1 hD1 hS1 => k p e s m args below meth c R H1 locs1 ls E Rm Fx (ax_put0 hL hD (.inr (ci, fs.set j v)) ha hq hP1 hD1) hS1 hl hc hs)
theorem ax_iald {G : ax_G} {M : ax_M} {d mc ms : Nat} {Q : ax_P} {pc : Nat} {lv : ax_L} {st : List Value} {h : ax_H} {cn sn : Nat} {a n : Nat} {f : Nat → Int32} {i : Int32} (hd : decode M.2.1 pc = .ok (.iaload, 1)) (ha : h a = some (.inl (0, n, .inl f))) (hi : vp_in i n) (k : AW G M d mc ms Q (pc + 1) lv (.int (f i.toNatClampNeg) :: st) h cn sn) : AW G M d mc ms Q pc lv (.int i :: .ref a :: st) h cn sn := by
  intro p e s m args below meth c R H locs ls E Rm Fx Hp hS hl hc hs
  obtain ⟨L, hL, hP, hD⟩ := id Hp
  obtain ⟨q0, hq⟩ := ax_get0 (kc := G.2.2.1) hL ha
  exact va_iald (cA := G.2.2.1 0) E.1 E.2.1 Fx.1 hP q0 0 hq rfl hi hd (k p e s m args below meth c R H locs ls E Rm Fx Hp hS hl hc hs)
theorem ax_iast {G : ax_G} {M : ax_M} {d mc ms : Nat} {Q : ax_P} {pc : Nat} {lv : ax_L} {st : List Value} {h : ax_H} {cn sn : Nat} {a n : Nat} {f : Nat → Int32} {i x : Int32} (hd : decode M.2.1 pc = .ok (.iastore, 1)) (ha : h a = some (.inl (0, n, .inl f))) (hi : vp_in i n) (k : AW G M d mc ms Q (pc + 1) lv st (va_up h a (some (.inl (0, n, .inl (upd f i.toNatClampNeg x))))) cn sn) : AW G M d mc ms Q pc lv (.int x :: .int i :: .ref a :: st) h cn sn := by
  intro p e s m args below meth c R H locs ls E Rm Fx Hp hS hl hc hs
  obtain ⟨L, hL, hP, hD⟩ := id Hp
  obtain ⟨q0, hq⟩ := ax_get0 (kc := G.2.2.1) hL ha
  exact va_iast (cA := G.2.2.1 0) E.1 E.2.1 Fx.1 hP hD hS q0 0 hq rfl hi hd (fun H1 locs1 hP1 hD1 hS1 => k p e s m args below meth c R H1 locs1 ls E Rm Fx (ax_put0 hL hD (.inl (0, n, .inl (upd f i.toNatClampNeg x))) ha hq hP1 hD1) hS1 hl hc hs)
theorem ax_lald {G : ax_G} {M : ax_M} {d mc ms : Nat} {Q : ax_P} {pc : Nat} {lv : ax_L} {st : List Value} {h : ax_H} {cn sn : Nat} {a n : Nat} {f : Nat → Int64} {i : Int32} (hd : decode M.2.1 pc = .ok (.laload, 1)) (ha : h a = some (.inl (1, n, .inr (.inl f)))) (hi : vp_in i n) (k : AW G M d mc ms Q (pc + 1) lv (.long (f i.toNatClampNeg) :: st) h cn sn) : AW G M d mc ms Q pc lv (.int i :: .ref a :: st) h cn sn := by
  intro p e s m args below meth c R H locs ls E Rm Fx Hp hS hl hc hs
  obtain ⟨L, hL, hP, hD⟩ := id Hp
  obtain ⟨q0, hq⟩ := ax_get0 (kc := G.2.2.1) hL ha
  exact va_lald (cA := G.2.2.1 1) E.1 E.2.1 Fx.1 hP q0 1 hq rfl hi hd (k p e s m args below meth c R H locs ls E Rm Fx Hp hS hl hc hs)
theorem ax_last {G : ax_G} {M : ax_M} {d mc ms : Nat} {Q : ax_P} {pc : Nat} {lv : ax_L} {st : List Value} {h : ax_H} {cn sn : Nat} {a n : Nat} {f : Nat → Int64} {i : Int32} {x : Int64} (hd : decode M.2.1 pc = .ok (.lastore, 1)) (ha : h a = some (.inl (1, n, .inr (.inl f)))) (hi : vp_in i n) (k : AW G M d mc ms Q (pc + 1) lv st (va_up h a (some (.inl (1, n, .inr (.inl (vp_updL f i.toNatClampNeg x)))))) cn sn) : AW G M d mc ms Q pc lv (.long x :: .int i :: .ref a :: st) h cn sn := by
  intro p e s m args below meth c R H locs ls E Rm Fx Hp hS hl hc hs
  obtain ⟨L, hL, hP, hD⟩ := id Hp
  obtain ⟨q0, hq⟩ := ax_get0 (kc := G.2.2.1) hL ha
  exact va_last (cA := G.2.2.1 1) E.1 E.2.1 Fx.1 hP hD hS q0 1 hq rfl hi hd (fun H1 locs1 hP1 hD1 hS1 => k p e s m args below meth c R H1 locs1 ls E Rm Fx (ax_put0 hL hD (.inl (1, n, .inr (.inl (vp_updL f i.toNatClampNeg x)))) ha hq hP1 hD1) hS1 hl hc hs)
theorem ax_dald {G : ax_G} {M : ax_M} {d mc ms : Nat} {Q : ax_P} {pc : Nat} {lv : ax_L} {st : List Value} {h : ax_H} {cn sn : Nat} {a n : Nat} {f : Nat → UInt64} {i : Int32} (hd : decode M.2.1 pc = .ok (.daload, 1)) (ha : h a = some (.inl (2, n, .inr (.inr (.inr (.inl f)))))) (hi : vp_in i n) (k : AW G M d mc ms Q (pc + 1) lv (.double (f i.toNatClampNeg) :: st) h cn sn) : AW G M d mc ms Q pc lv (.int i :: .ref a :: st) h cn sn := by
  intro p e s m args below meth c R H locs ls E Rm Fx Hp hS hl hc hs
  obtain ⟨L, hL, hP, hD⟩ := id Hp
  obtain ⟨q0, hq⟩ := ax_get0 (kc := G.2.2.1) hL ha
  exact va_dald (cA := G.2.2.1 2) E.1 E.2.1 Fx.1 hP q0 2 hq rfl hi hd (k p e s m args below meth c R H locs ls E Rm Fx Hp hS hl hc hs)
theorem ax_aald3 {G : ax_G} {M : ax_M} {d mc ms : Nat} {Q : ax_P} {pc : Nat} {lv : ax_L} {st : List Value} {h : ax_H} {cn sn : Nat} {a n : Nat} {f : Nat → Option Nat} {i : Int32} (hd : decode M.2.1 pc = .ok (.aaload, 1)) (ha : h a = some (.inl (3, n, .inr (.inr (.inr (.inr f)))))) (hi : vp_in i n) (k : AW G M d mc ms Q (pc + 1) lv (va_rf (f i.toNatClampNeg) :: st) h cn sn) : AW G M d mc ms Q pc lv (.int i :: .ref a :: st) h cn sn := by
  intro p e s m args below meth c R H locs ls E Rm Fx Hp hS hl hc hs
  obtain ⟨L, hL, hP, hD⟩ := id Hp
  obtain ⟨q0, hq⟩ := ax_get0 (kc := G.2.2.1) hL ha
  exact va_aldq (cA := G.2.2.1 3) E.1 E.2.1 Fx.1 hP q0 3 hq rfl hi hd (k p e s m args below meth c R H locs ls E Rm Fx Hp hS hl hc hs)
theorem ax_aald4 {G : ax_G} {M : ax_M} {d mc ms : Nat} {Q : ax_P} {pc : Nat} {lv : ax_L} {st : List Value} {h : ax_H} {cn sn : Nat} {a n : Nat} {f : Nat → Option Nat} {i : Int32} (hd : decode M.2.1 pc = .ok (.aaload, 1)) (ha : h a = some (.inl (4, n, .inr (.inr (.inr (.inr f)))))) (hi : vp_in i n) (k : AW G M d mc ms Q (pc + 1) lv (va_rf (f i.toNatClampNeg) :: st) h cn sn) : AW G M d mc ms Q pc lv (.int i :: .ref a :: st) h cn sn := by
  intro p e s m args below meth c R H locs ls E Rm Fx Hp hS hl hc hs
  obtain ⟨L, hL, hP, hD⟩ := id Hp
  obtain ⟨q0, hq⟩ := ax_get0 (kc := G.2.2.1) hL ha
  have hlt : i.toNatClampNeg < n := Nat.not_le.mp fun q => hi (Or.inr q)
  exact W.aald (v := va_rf (f i.toNatClampNeg)) (ty := .array .int) E.1 E.2.1 (hP q0 _ hq) ((Fx.1.2 4 (G.2.2.1 4, .array .int) rfl).1 n (fun j => va_rf (f j))) rfl (fun q => by cases q) (by show ¬ (i < 0 ∨ (arrV _ _ _).slots.size ≤ _); rw [arrV_size]; exact hi) (by show (arrV _ _ _).slots[_]? = _; rw [arrV_read _ _ hlt]) rfl rfl hd (k p e s m args below meth c R H locs ls E Rm Fx Hp hS hl hc hs)
theorem ax_aast3 {G : ax_G} {M : ax_M} {d mc ms : Nat} {Q : ax_P} {pc : Nat} {lv : ax_L} {st : List Value} {h : ax_H} {cn sn : Nat} {a n v : Nat} {vs : List Value} {f : Nat → Option Nat} {i : Int32} (hd : decode M.2.1 pc = .ok (.aastore, 1)) (ha : h a = some (.inl (3, n, .inr (.inr (.inr (.inr f)))))) (hv : h v = some (.inr (5, vs))) (hi : vp_in i n) (k : AW G M d mc ms Q (pc + 1) lv st (va_up h a (some (.inl (3, n, .inr (.inr (.inr (.inr (va_up f i.toNatClampNeg (some v))))))))) cn sn) : AW G M d mc ms Q pc lv (.ref v :: .int i :: .ref a :: st) h cn sn := by
  intro p e s m args below meth c R H locs ls E Rm Fx Hp hS hl hc hs
  obtain ⟨L, hL, hP, hD⟩ := id Hp
  obtain ⟨q0, hq⟩ := ax_get0 (kc := G.2.2.1) hL ha
  obtain ⟨q1, hq1⟩ := ax_get0 (kc := G.2.2.1) hL hv
  exact va_astq (cA := G.2.2.1 3) (r := (RX5, TX5, 16)) (ci := 5) (vs := vs) E.1 E.2.1 Fx.1 hP hD hS q0 3 q1 hq rfl hq1 rfl hi hd (fun H1 locs1 hP1 hD1 hS1 => k p e s m args below meth c R H1 locs1 ls E Rm Fx (ax_put0 hL hD (.inl (3, n, .inr (.inr (.inr (.inr (va_up f i.toNatClampNeg (some v))))))) ha hq hP1 hD1) hS1 hl hc hs)
theorem ax_aast3N {G : ax_G} {M : ax_M} {d mc ms : Nat} {Q : ax_P} {pc : Nat} {lv : ax_L} {st : List Value} {h : ax_H} {cn sn : Nat} {a n : Nat} {f : Nat → Option Nat} {i : Int32} (hd : decode M.2.1 pc = .ok (.aastore, 1)) (ha : h a = some (.inl (3, n, .inr (.inr (.inr (.inr f)))))) (hi : vp_in i n) (k : AW G M d mc ms Q (pc + 1) lv st (va_up h a (some (.inl (3, n, .inr (.inr (.inr (.inr (va_up f i.toNatClampNeg none)))))))) cn sn) : AW G M d mc ms Q pc lv (.null :: .int i :: .ref a :: st) h cn sn := by
  intro p e s m args below meth c R H locs ls E Rm Fx Hp hS hl hc hs
  obtain ⟨L, hL, hP, hD⟩ := id Hp
  obtain ⟨q0, hq⟩ := ax_get0 (kc := G.2.2.1) hL ha
  exact va_astqN (cA := G.2.2.1 3) E.1 E.2.1 Fx.1 hP hD hS q0 3 hq rfl hi hd (fun H1 locs1 hP1 hD1 hS1 => k p e s m args below meth c R H1 locs1 ls E Rm Fx (ax_put0 hL hD (.inl (3, n, .inr (.inr (.inr (.inr (va_up f i.toNatClampNeg none)))))) ha hq hP1 hD1) hS1 hl hc hs)
theorem ax_aast4 {G : ax_G} {M : ax_M} {d mc ms : Nat} {Q : ax_P} {pc : Nat} {lv : ax_L} {st : List Value} {h : ax_H} {cn sn : Nat} {a n v : Nat} {x : vp_A} {f : Nat → Option Nat} {i : Int32} (hd : decode M.2.1 pc = .ok (.aastore, 1)) (ha : h a = some (.inl (4, n, .inr (.inr (.inr (.inr f)))))) (hv : h v = some (.inl (0, x))) (hi : vp_in i n) (k : AW G M d mc ms Q (pc + 1) lv st (va_up h a (some (.inl (4, n, .inr (.inr (.inr (.inr (va_up f i.toNatClampNeg (some v))))))))) cn sn) : AW G M d mc ms Q pc lv (.ref v :: .int i :: .ref a :: st) h cn sn := by
  intro p e s m args below meth c R H locs ls E Rm Fx Hp hS hl hc hs
  obtain ⟨L, hL, hP, hD⟩ := id Hp
  obtain ⟨q0, hq⟩ := ax_get0 (kc := G.2.2.1) hL ha
  obtain ⟨q1, hq1⟩ := ax_get0 (kc := G.2.2.1) hL hv
  have hlt : i.toNatClampNeg < n := Nat.not_le.mp fun q => hi (Or.inr q)
  have h0 : ¬ i < 0 := fun q => hi (Or.inl q)
  have g1 := hP q1 _ hq1
  obtain ⟨kA, hkA, hkind⟩ := Fx.2.1
  obtain ⟨kI, hkI, -⟩ := Vm.findClass_spec (va_nm_int (Fx.1.2 0 (G.2.2.1 0, .int) rfl).2)
  have hcl : (vp_cell (G.2.2.1 0) x).cls = G.2.2.1 0 := by rcases x with ⟨n9, x⟩; rcases x with x | x | x | x | x <;> rfl
  have hvm : (vp_cell (G.2.2.1 0) x).vm = .none := by rcases x with ⟨n9, x⟩; rcases x with x | x | x | x | x <;> rfl
  refine W.aast E.1 E.2.1 (hP q0 _ hq) (fun q h => by cases h) (fun h => by cases h) hkA hkind rfl hkI ⟨h0, by show _ < (arrV _ _ _).slots.size; rw [arrV_size]; exact hlt⟩ g1 (fun q h => by rw [hvm] at h; cases h) (by rw [hcl]; exact hkI) (by rw [hcl]; exact ax_asg _ _) rfl rfl hd fun H1 e1 z oq => ?_
  refine k p e s m args below meth c R H1 _ ls E Rm Fx (ax_put0 hL hD (.inl (4, n, .inr (.inr (.inr (.inr (va_up f i.toNatClampNeg (some v))))))) ha hq (hP.set hD hq ?_ oq) (hD.set hq)) (hS.put z oq (hD.2 q0 _ hq)) hl hc hs
  show H1[a]? = some (vp_cell _ _)
  rw [e1]
  rw [vp_cell_q, vp_cell_q, arrV_store]
  congr 2
  funext q
  by_cases hq : q = i.toNatClampNeg
  · subst hq
    simp [updV, va_up, va_rf]
  · simp [updV, va_up, hq]
theorem ax_ty_at (kc : Nat → ClassId) {kd : Nat} (h : kd < 5) : ∃ ty, (ax_tys kc)[kd]? = some (kc kd, ty) := by
  match kd, h with
  | 0, _ => exact ⟨_, rfl⟩
  | 1, _ => exact ⟨_, rfl⟩
  | 2, _ => exact ⟨_, rfl⟩
  | 3, _ => exact ⟨_, rfl⟩
  | 4, _ => exact ⟨_, rfl⟩
theorem ax_alen {G : ax_G} {M : ax_M} {d mc ms : Nat} {Q : ax_P} {pc : Nat} {lv : ax_L} {st : List Value} {h : ax_H} {cn sn : Nat} {a kd n : Nat} {x : (Nat → Int32) ⊕ (Nat → Int64) ⊕ (Nat → UInt32) ⊕ (Nat → UInt64) ⊕ (Nat → Option Nat)} (hd : decode M.2.1 pc = .ok (.arraylength, 1)) (ha : h a = some (.inl (kd, n, x))) (hk : kd < 5) (k : AW G M d mc ms Q (pc + 1) lv (.int (nI n) :: st) h cn sn) : AW G M d mc ms Q pc lv (.ref a :: st) h cn sn := by
  intro p e s m args below meth c R H locs ls E Rm Fx Hp hS hl hc hs
  obtain ⟨L, hL, hP, hD⟩ := id Hp
  obtain ⟨q0, hq⟩ := ax_get0 (kc := G.2.2.1) hL ha
  obtain ⟨ty, hty⟩ := ax_ty_at G.2.2.1 hk
  exact va_alen (cA := G.2.2.1 kd) (x := (n, x)) E.1 E.2.1 Fx.1 hP q0 kd hq hty rfl hd (k p e s m args below meth c R H locs ls E Rm Fx Hp hS hl hc hs)
theorem ax_sld {G : ax_G} {M : ax_M} {d mc ms : Nat} {Q : ax_P} {pc : Nat} {lv : ax_L} {st : List Value} {h : ax_H} {cn sn : Nat} {i : Int32} (hd : decode M.2.1 pc = .ok (.iaload, 1)) (hi : vp_in i G.2.2.2.2.2.1) (k : AW G M d mc ms Q (pc + 1) lv (.int (G.2.2.2.2.2.2 i.toNatClampNeg) :: st) h cn sn) : AW G M d mc ms Q pc lv (.int i :: .ref G.2.2.2.2.1 :: st) h cn sn := by
  intro p e s m args below meth c R H locs ls E Rm Fx Hp hS hl hc hs
  exact va_sld E.1 E.2.1 Fx.2.2.2.2.2.1 (Nat.lt_of_lt_of_le Fx.2.2.2.2.1 Fx.2.2.1) (Nat.not_le.mpr Fx.2.2.2.2.1) hS hi hd (k p e s m args below meth c R H locs ls E Rm Fx Hp hS hl hc hs)
theorem ax_slen {G : ax_G} {M : ax_M} {d mc ms : Nat} {Q : ax_P} {pc : Nat} {lv : ax_L} {st : List Value} {h : ax_H} {cn sn : Nat} (hd : decode M.2.1 pc = .ok (.arraylength, 1)) (k : AW G M d mc ms Q (pc + 1) lv (.int (nI G.2.2.2.2.2.1) :: st) h cn sn) : AW G M d mc ms Q pc lv (.ref G.2.2.2.2.1 :: st) h cn sn := by
  intro p e s m args below meth c R H locs ls E Rm Fx Hp hS hl hc hs
  exact va_slen E.1 E.2.1 Fx.2.2.2.2.2.1 (Nat.lt_of_lt_of_le Fx.2.2.2.2.1 Fx.2.2.1) (Nat.not_le.mpr Fx.2.2.2.2.1) hS hd (k p e s m args below meth c R H locs ls E Rm Fx Hp hS hl hc hs)
end
section
/-! ===== what is made, what the library does, what is thrown, calls ===== -/
theorem ax_newa_int {G : ax_G} {M : ax_M} {d mc ms : Nat} {Q : ax_P} {pc : Nat} {lv : ax_L} {st : List Value} {h : ax_H} {cn sn : Nat} {n : Int32} {N : Nat} (hd : decode M.2.1 pc = .ok (.newarray .int, 2)) (hw : Cond.arrayClass .int ∈ ax_all) (hn : ¬ n < 0) (hN : n.toNatClampNeg = N) (hb : N ≤ 100000) (h1 : cn + 1 ≤ mc) (h2 : sn + N ≤ ms) (k : ∀ q : Nat, h q = none → AW G M d mc ms Q (pc + 2) lv (.ref q :: st) (va_up h q (some (.inl (0, N, .inl (fun _ => 0))))) (cn + 1) (sn + N)) : AW G M d mc ms Q pc lv (.int n :: st) h cn sn := by
  intro p e s m args below meth c R H locs ls E Rm Fx Hp hS hl hc hs
  obtain ⟨L, hL, hP, hD⟩ := id Hp
  refine va_newa (atype := .int) (ty := .int) (a0 := (N, .inl (fun _ => 0))) E.1 E.2.1 (E.2.2.2.2.2.1 _ hw) rfl Fx.1 hP hD hS (fun q hq => Nat.le_trans Fx.2.2.1 hq) (fun _ => rfl) hn hN (show N * 4 ≤ 536870912 by omega) (by rw [Rm.1]; exact h1) (by rw [Rm.2.1]; exact h2) hd (fun q cA H1 hK1 hP1 hD1 hS1 => ?_)
  have e1 : cA = G.2.2.1 0 := by
    have h3 : s.vm.findClass ("[" ++ (.int : FieldType).toString) = some cA := (hK1.2 5 (cA, .int) rfl).2
    have h4 : s.vm.findClass ("[" ++ (.int : FieldType).toString) = some (G.2.2.1 0) := (Fx.1.2 0 (G.2.2.1 0, .int) rfl).2
    exact Option.some.inj (h3.symm.trans h4)
  subst e1
  obtain ⟨hq, Hp1⟩ := ax_new0 (o := .inl (0, N, .inl (fun _ => 0))) hL hP1 hD1
  exact k q hq p e s m args below meth c R H1 locs ls E Rm Fx Hp1 hS1 hl h1 h2
theorem ax_newa_long {G : ax_G} {M : ax_M} {d mc ms : Nat} {Q : ax_P} {pc : Nat} {lv : ax_L} {st : List Value} {h : ax_H} {cn sn : Nat} {n : Int32} {N : Nat} (hd : decode M.2.1 pc = .ok (.newarray .long, 2)) (hw : Cond.arrayClass .long ∈ ax_all) (hn : ¬ n < 0) (hN : n.toNatClampNeg = N) (hb : N ≤ 100000) (h1 : cn + 1 ≤ mc) (h2 : sn + N ≤ ms) (k : ∀ q : Nat, h q = none → AW G M d mc ms Q (pc + 2) lv (.ref q :: st) (va_up h q (some (.inl (1, N, .inr (.inl (fun _ => 0)))))) (cn + 1) (sn + N)) : AW G M d mc ms Q pc lv (.int n :: st) h cn sn := by
  intro p e s m args below meth c R H locs ls E Rm Fx Hp hS hl hc hs
  obtain ⟨L, hL, hP, hD⟩ := id Hp
  refine va_newa (atype := .long) (ty := .long) (a0 := (N, .inr (.inl (fun _ => 0)))) E.1 E.2.1 (E.2.2.2.2.2.1 _ hw) rfl Fx.1 hP hD hS (fun q hq => Nat.le_trans Fx.2.2.1 hq) (fun _ => rfl) hn hN (show N * 8 ≤ 536870912 by omega) (by rw [Rm.1]; exact h1) (by rw [Rm.2.1]; exact h2) hd (fun q cA H1 hK1 hP1 hD1 hS1 => ?_)
  have e1 : cA = G.2.2.1 1 := by
    have h3 : s.vm.findClass ("[" ++ (.long : FieldType).toString) = some cA := (hK1.2 5 (cA, .long) rfl).2
    have h4 : s.vm.findClass ("[" ++ (.long : FieldType).toString) = some (G.2.2.1 1) := (Fx.1.2 1 (G.2.2.1 1, .long) rfl).2
    exact Option.some.inj (h3.symm.trans h4)
  subst e1
  obtain ⟨hq, Hp1⟩ := ax_new0 (o := .inl (1, N, .inr (.inl (fun _ => 0)))) hL hP1 hD1
  exact k q hq p e s m args below meth c R H1 locs ls E Rm Fx Hp1 hS1 hl h1 h2
theorem ax_newa_double {G : ax_G} {M : ax_M} {d mc ms : Nat} {Q : ax_P} {pc : Nat} {lv : ax_L} {st : List Value} {h : ax_H} {cn sn : Nat} {n : Int32} {N : Nat} (hd : decode M.2.1 pc = .ok (.newarray .double, 2)) (hw : Cond.arrayClass .double ∈ ax_all) (hn : ¬ n < 0) (hN : n.toNatClampNeg = N) (hb : N ≤ 100000) (h1 : cn + 1 ≤ mc) (h2 : sn + N ≤ ms) (k : ∀ q : Nat, h q = none → AW G M d mc ms Q (pc + 2) lv (.ref q :: st) (va_up h q (some (.inl (2, N, .inr (.inr (.inr (.inl (fun _ => 0)))))))) (cn + 1) (sn + N)) : AW G M d mc ms Q pc lv (.int n :: st) h cn sn := by
  intro p e s m args below meth c R H locs ls E Rm Fx Hp hS hl hc hs
  obtain ⟨L, hL, hP, hD⟩ := id Hp
  refine va_newa (atype := .double) (ty := .double) (a0 := (N, .inr (.inr (.inr (.inl (fun _ => 0)))))) E.1 E.2.1 (E.2.2.2.2.2.1 _ hw) rfl Fx.1 hP hD hS (fun q hq => Nat.le_trans Fx.2.2.1 hq) (fun _ => rfl) hn hN (show N * 8 ≤ 536870912 by omega) (by rw [Rm.1]; exact h1) (by rw [Rm.2.1]; exact h2) hd (fun q cA H1 hK1 hP1 hD1 hS1 => ?_)
  have e1 : cA = G.2.2.1 2 := by
    have h3 : s.vm.findClass ("[" ++ (.double : FieldType).toString) = some cA := (hK1.2 5 (cA, .double) rfl).2
    have h4 : s.vm.findClass ("[" ++ (.double : FieldType).toString) = some (G.2.2.1 2) := (Fx.1.2 2 (G.2.2.1 2, .double) rfl).2
    exact Option.some.inj (h3.symm.trans h4)
  subst e1
  obtain ⟨hq, Hp1⟩ := ax_new0 (o := .inl (2, N, .inr (.inr (.inr (.inl (fun _ => 0)))))) hL hP1 hD1
  exact k q hq p e s m args below meth c R H1 locs ls E Rm Fx Hp1 hS1 hl h1 h2
theorem ax_newq3 {G : ax_G} {M : ax_M} {d mc ms : Nat} {Q : ax_P} {pc : Nat} {lv : ax_L} {st : List Value} {h : ax_H} {cn sn : Nat} {n : Int32} {N i : Nat} (hd : decode M.2.1 pc = .ok (.anewarray i, 3)) (hw : Cond.classLink M.1.cls i "DataMaker$Value" ∈ ax_all) (hw2 : Cond.arrayOver (.object "DataMaker$Value") ∈ ax_all) (hn : ¬ n < 0) (hN : n.toNatClampNeg = N) (hb : N ≤ 100000) (h1 : cn + 1 ≤ mc) (h2 : sn + N ≤ ms) (k : ∀ q : Nat, h q = none → AW G M d mc ms Q (pc + 3) lv (.ref q :: st) (va_up h q (some (.inl (3, N, .inr (.inr (.inr (.inr (fun _ => none)))))))) (cn + 1) (sn + N)) : AW G M d mc ms Q pc lv (.int n :: st) h cn sn := by
  intro p e s m args below meth c R H locs ls E Rm Fx Hp hS hl hc hs
  obtain ⟨L, hL, hP, hD⟩ := id Hp
  refine va_newq (C := "DataMaker$Value") E.1 E.2.1 E.2.2.2.2.1 (E.2.2.2.2.2.1 _ hw) (va_AO.of (E.2.2.2.2.2.1 _ hw2)) Fx.1 hP hD hS (fun q hq => Nat.le_trans Fx.2.2.1 hq) hn hN (by omega) (by rw [Rm.1]; exact h1) (by rw [Rm.2.1]; exact h2) hd (fun q cA H1 hK1 hP1 hD1 hS1 => ?_)
  have e1 : cA = G.2.2.1 3 := by
    obtain ⟨_, _, _, _, _, h3⟩ := (hK1.2 5 (cA, .object "DataMaker$Value") rfl).2
    obtain ⟨_, _, _, _, _, h4⟩ := (Fx.1.2 3 (G.2.2.1 3, .object "DataMaker$Value") rfl).2
    exact Option.some.inj (h3.symm.trans h4)
  subst e1
  obtain ⟨hq, Hp1⟩ := ax_new0 (o := .inl (3, N, .inr (.inr (.inr (.inr (fun _ => none)))))) hL hP1 hD1
  exact k q hq p e s m args below meth c R H1 locs ls E Rm Fx Hp1 hS1 hl h1 h2
theorem ax_newq4 {G : ax_G} {M : ax_M} {d mc ms : Nat} {Q : ax_P} {pc : Nat} {lv : ax_L} {st : List Value} {h : ax_H} {cn sn : Nat} {n : Int32} {N i : Nat} (hd : decode M.2.1 pc = .ok (.anewarray i, 3)) (hw : Cond.classLink M.1.cls i (FieldType.array .int).toString ∈ ax_all) (hw2 : Cond.arrayOver (.array .int) ∈ ax_all) (hn : ¬ n < 0) (hN : n.toNatClampNeg = N) (hb : N ≤ 100000) (h1 : cn + 1 ≤ mc) (h2 : sn + N ≤ ms) (k : ∀ q : Nat, h q = none → AW G M d mc ms Q (pc + 3) lv (.ref q :: st) (va_up h q (some (.inl (4, N, .inr (.inr (.inr (.inr (fun _ => none)))))))) (cn + 1) (sn + N)) : AW G M d mc ms Q pc lv (.int n :: st) h cn sn := by
  intro p e s m args below meth c R H locs ls E Rm Fx Hp hS hl hc hs
  obtain ⟨L, hL, hP, hD⟩ := id Hp
  subst hN
  refine W.anewA (t := .int) E.1 E.2.1 E.2.2.2.2.1 (E.2.2.2.2.2.1 _ hw) (E.2.2.2.2.2.1 _ hw2) rfl hd rfl hn (by omega) (by rw [Rm.1]; exact h1) (by rw [Rm.2.1]; exact h2) fun cA kA comp f1 f2 f3 f4 => ?_
  have e1 : cA = G.2.2.1 4 := Option.some.inj (f1.symm.trans (Fx.1.2 4 (G.2.2.1 4, .array .int) rfl).2)
  subst e1
  generalize hH1 : H.push ({ cls := G.2.2.1 4, slots := Array.replicate n.toNatClampNeg .null, vm := .none } : Cell) = H1
  have z1 : H1.size = H.size + 1 := by rw [← hH1, Array.size_push]
  have g1 : H1[H.size]? = some (arrV (G.2.2.1 4) n.toNatClampNeg (fun _ => .null)) := by rw [← hH1, Array.getElem?_push_size, ← arrV_new]
  have o1 : ∀ q : Nat, q < H.size → H1[q]? = H[q]? := fun q hq => by rw [← hH1, Array.getElem?_push, if_neg (Nat.ne_of_lt hq)]
  have hk : ∀ (k : Nat) (x : Nat × va_E), (va_pl L (ax_f G.2.2.1 h))[k]? = some x → H1[x.1]? = H[x.1]? := fun k x hx => o1 x.1 ((hP k x hx).lt)
  obtain ⟨hq, Hp1⟩ := ax_new0 (q := H.size) (o := .inl (4, n.toNatClampNeg, .inr (.inr (.inr (.inr (fun _ => none)))))) hL ((hP.kept hk).app (w2 := [(H.size, ax_cv G.2.2.1 (.inl (4, n.toNatClampNeg, .inr (.inr (.inr (.inr (fun _ => none)))))))]) (fun k x hx => by
    have hz : k < 1 := (List.getElem?_eq_some_iff.mp hx).1
    rw [show k = 0 by omega] at hx
    cases hx
    show H1[H.size]? = some (vp_cell _ _)
    rw [vp_cell_q]
    exact g1)) (hD.push hP rfl (Nat.le_trans Fx.2.2.1 hS.1))
  exact k H.size hq p e s m args below meth c R H1 locs ls E Rm Fx Hp1 ⟨Nat.le_trans hS.1 (by omega), fun x h1 h2 => (o1 x (Nat.lt_of_lt_of_le h1 hS.1)).trans (hS.2.1 x h1 h2), hS.2.2⟩ hl h1 h2
/-- a class that can be made: its number, the fields at first -/
def ax_mk (own : String) (i ci : Nat) (fs : List Value) : Prop := ∃ (C : String) (T : u_T) (N : Nat) (ty : Nat → FieldType), vwCl[ci]? = some (C, T, N) ∧ (∀ w ∈ u_ws C T N, w ∈ ax_all) ∧ (∀ k, k < N → parseFieldDescriptor (T k).2.2.1 = some (ty k)) ∧ Cond.classLink own i C ∈ ax_all ∧ Cond.instantiable C N ∈ ax_all ∧ Cond.initialized C ∈ ax_all ∧ (∀ j, j < N → defaultValue (ty j) = vp_V fs j) ∧ fs.length = N
theorem ax_new {G : ax_G} {M : ax_M} {d mc ms : Nat} {Q : ax_P} {pc : Nat} {lv : ax_L} {st : List Value} {h : ax_H} {cn sn : Nat} {i ci : Nat} {fs : List Value} (hd : decode M.2.1 pc = .ok (.new i, 3)) (hf : ax_mk M.1.cls i ci fs) (h1 : cn + 1 ≤ mc) (h2 : sn + fs.length ≤ ms) (k : ∀ q : Nat, h q = none → AW G M d mc ms Q (pc + 3) lv (.ref q :: st) (va_up h q (some (.inr (ci, fs)))) (cn + 1) (sn + fs.length)) : AW G M d mc ms Q pc lv st h cn sn := by
  intro p e s m args below meth c R H locs ls E Rm Fx Hp hS hl hc hs
  obtain ⟨C, T, N, ty, f1, f2, f3, f4, f5, f6, f7, rfl⟩ := hf
  obtain ⟨L, hL, hP, hD⟩ := id Hp
  refine va_new (ci := ci) (fs := fs) E.1 E.2.1 E.2.2.2.2.2.1 f2 ty f3 E.2.2.2.2.1 (E.2.2.2.2.2.1 _ f4) (E.2.2.2.2.2.1 _ f5) (E.2.2.2.2.2.1 _ f6) Fx.1 hP hD hS (fun q hq => Nat.le_trans Fx.2.2.1 hq) f1 f7 (by rw [Rm.1]; exact h1) (by rw [Rm.2.1]; exact h2) hd (fun q H1 hP1 hD1 hS1 => ?_)
  obtain ⟨hq, Hp1⟩ := ax_new0 (o := .inr (ci, fs)) hL hP1 hD1
  exact k q hq p e s m args below meth c R H1 locs ls E Rm Fx Hp1 hS1 hl h1 h2
theorem ax_obj {G : ax_G} {M : ax_M} {d mc ms : Nat} {Q : ax_P} {pc : Nat} {lv : ax_L} {st : List Value} {h : ax_H} {cn sn : Nat} {i a : Nat} (hd : decode M.2.1 pc = .ok (.invokespecial i, 3)) (hw1 : Cond.methodLink M.1.cls i Lib.objectInit ∈ ax_all) (hw2 : Cond.instanceMethod Lib.objectInit ∈ ax_all) (hw3 : Cond.code Lib.objectInit ⟨#[0xb1]⟩ 1 none ∈ ax_all) (hcat : (st.map fun v => v.category).sum ≤ 8) (k : AW G M d mc ms Q (pc + 3) lv st h cn sn) : AW G M d mc ms Q pc lv (.ref a :: st) h cn sn := by
  intro p e s m args below meth c R H locs ls E Rm Fx Hp hS hl hc hs
  exact W.objInit E.1 E.2.1 E.2.2.2.2.1 (E.2.2.2.2.2.1 _ hw1) (E.2.2.2.2.2.1 _ hw2) (E.2.2.2.2.2.1 _ hw3) rfl (by rw [E.2.2.2.1]; exact hl.1) rfl hd (by have := Rm.2.2.1; omega) (by have := lv_room (m := m) (pc := pc) (ls := ls) (rest := .ref a :: st) hcat; have := Rm.2.2.2; omega) (k p e s m args below meth c R H locs ls E Rm Fx Hp hS hl hc hs)
theorem ax_mmin {G : ax_G} {M : ax_M} {d mc ms : Nat} {Q : ax_P} {pc : Nat} {lv : ax_L} {st : List Value} {h : ax_H} {cn sn : Nat} {i : Nat} {x y : Int32} (hd : decode M.2.1 pc = .ok (.invokestatic i, 3)) (hw1 : Cond.methodLink M.1.cls i Lib.Math.min.name ∈ ax_all) (hw2 : Cond.static Lib.Math.min.name ∈ ax_all) (hw3 : Cond.initialized "java/lang/Math" ∈ ax_all) (hw4 : Cond.code Lib.Math.min.name Lib.Math.min.code 2 (some .int) ∈ ax_all) (hcat : (st.map fun v => v.category).sum ≤ 8) (k : AW G M d mc ms Q (pc + 3) lv (.int (if y < x then y else x) :: st) h cn sn) : AW G M d mc ms Q pc lv (.int y :: .int x :: st) h cn sn := by
  intro p e s m args below meth c R H locs ls E Rm Fx Hp hS hl hc hs
  exact va_mmin E.1 E.2.1 (by rw [E.2.2.2.1]; exact hl.1.symm) E.2.2.2.2.1 (E.2.2.2.2.2.1 _ hw1) (E.2.2.2.2.2.1 _ hw2) (E.2.2.2.2.2.1 _ hw3) (E.2.2.2.2.2.1 _ hw4) (by have := Rm.2.2.1; omega) (by have := Rm.2.2.2; omega) (by rw [Rm.1]; exact hc) (by rw [Rm.2.1]; exact hs) hd (k p e s m args below meth c R H locs ls E Rm Fx Hp hS hl hc hs)
theorem ax_mmax {G : ax_G} {M : ax_M} {d mc ms : Nat} {Q : ax_P} {pc : Nat} {lv : ax_L} {st : List Value} {h : ax_H} {cn sn : Nat} {i : Nat} {x y : Int32} (hd : decode M.2.1 pc = .ok (.invokestatic i, 3)) (hw1 : Cond.methodLink M.1.cls i Lib.Math.max.name ∈ ax_all) (hw2 : Cond.static Lib.Math.max.name ∈ ax_all) (hw3 : Cond.initialized "java/lang/Math" ∈ ax_all) (hw4 : Cond.code Lib.Math.max.name Lib.Math.max.code 2 (some .int) ∈ ax_all) (hcat : (st.map fun v => v.category).sum ≤ 8) (k : AW G M d mc ms Q (pc + 3) lv (.int (if x < y then y else x) :: st) h cn sn) : AW G M d mc ms Q pc lv (.int y :: .int x :: st) h cn sn := by
  intro p e s m args below meth c R H locs ls E Rm Fx Hp hS hl hc hs
  exact va_mmax E.1 E.2.1 (by rw [E.2.2.2.1]; exact hl.1.symm) E.2.2.2.2.1 (E.2.2.2.2.2.1 _ hw1) (E.2.2.2.2.2.1 _ hw2) (E.2.2.2.2.2.1 _ hw3) (E.2.2.2.2.2.1 _ hw4) (by have := Rm.2.2.1; omega) (by have := Rm.2.2.2; omega) (by rw [Rm.1]; exact hc) (by rw [Rm.2.1]; exact hs) hd (k p e s m args below meth c R H locs ls E Rm Fx Hp hS hl hc hs)
theorem ax_mabs {G : ax_G} {M : ax_M} {d mc ms : Nat} {Q : ax_P} {pc : Nat} {lv : ax_L} {st : List Value} {h : ax_H} {cn sn : Nat} {i : Nat} {x : Int32} (hd : decode M.2.1 pc = .ok (.invokestatic i, 3)) (hw1 : Cond.methodLink M.1.cls i Lib.Math.abs.name ∈ ax_all) (hw2 : Cond.static Lib.Math.abs.name ∈ ax_all) (hw3 : Cond.initialized "java/lang/Math" ∈ ax_all) (hw4 : Cond.code Lib.Math.abs.name Lib.Math.abs.code 1 (some .int) ∈ ax_all) (hcat : (st.map fun v => v.category).sum ≤ 8) (k : AW G M d mc ms Q (pc + 3) lv (.int (if 0 ≤ x then x else 0 - x) :: st) h cn sn) : AW G M d mc ms Q pc lv (.int x :: st) h cn sn := by
  intro p e s m args below meth c R H locs ls E Rm Fx Hp hS hl hc hs
  exact va_mabs E.1 E.2.1 (by rw [E.2.2.2.1]; exact hl.1.symm) E.2.2.2.2.1 (E.2.2.2.2.2.1 _ hw1) (E.2.2.2.2.2.1 _ hw2) (E.2.2.2.2.2.1 _ hw3) (E.2.2.2.2.2.1 _ hw4) (by have := Rm.2.2.1; omega) (by have := Rm.2.2.2; omega) (by rw [Rm.1]; exact hc) (by rw [Rm.2.1]; exact hs) hd (k p e s m args below meth c R H locs ls E Rm Fx Hp hS hl hc hs)
theorem ax_copy {G : ax_G} {M : ax_M} {d mc ms : Nat} {Q : ax_P} {pc : Nat} {lv : ax_L} {st : List Value} {h : ax_H} {cn sn : Nat} {i a0 a n0 n1 : Nat} {f g : Nat → Int32} {sp dp n : Int32} (hd : decode M.2.1 pc = .ok (.invokestatic i, 3)) (hw1 : Cond.methodLink M.1.cls i arraycopyName ∈ ax_all) (hw2 : Cond.native arraycopyName ∈ ax_all) (hw3 : Cond.static arraycopyName ∈ ax_all) (hw4 : Cond.initialized "java/lang/System" ∈ ax_all) (hcat : (st.map fun v => v.category).sum ≤ 8)
    (ha0 : h a0 = some (.inl (0, n0, .inl f))) (ha : h a = some (.inl (0, n1, .inl g))) (h1 : ¬ sp < 0) (h2 : ¬ dp < 0) (h3 : ¬ n < 0) (h4 : sp.toNatClampNeg + n.toNatClampNeg ≤ n0) (h5 : dp.toNatClampNeg + n.toNatClampNeg ≤ n1)
    (k : AW G M d mc ms Q (pc + 3) lv st (va_up h a (some (.inl (0, n1, .inl (va_cpy f g sp.toNatClampNeg dp.toNatClampNeg n.toNatClampNeg))))) cn sn) : AW G M d mc ms Q pc lv (.int n :: .int dp :: .ref a :: .int sp :: .ref a0 :: st) h cn sn := by
  intro p e s m args below meth c R H locs ls E Rm Fx Hp hS hl hc hs
  obtain ⟨L, hL, hP, hD⟩ := id Hp
  obtain ⟨q0, hq0⟩ := ax_get0 (kc := G.2.2.1) hL ha0
  obtain ⟨q1, hq1⟩ := ax_get0 (kc := G.2.2.1) hL ha
  have hlo : nativeFrameWords "java/lang/System" "arraycopy" 5 + 11 ≤ 100 := by decide +kernel
  exact va_copyi (c0 := G.2.2.1 0) (c1 := G.2.2.1 0) (ty := .int) E.1 E.2.1 (by rw [E.2.2.2.1]; exact hl.1.symm) E.2.2.2.2.1 (E.2.2.2.2.2.1 _ hw1) (E.2.2.2.2.2.1 _ hw2) (E.2.2.2.2.2.1 _ hw3) (E.2.2.2.2.2.1 _ hw4) Fx.1 hP hD hS q0 q1 0 0 hq0 hq1 rfl rfl rfl h1 h2 h3 h4 h5 (fun _ _ => rfl) (by have := Rm.2.2.1; omega) (by have := Rm.2.2.2; omega) hd
    (fun H1 locs1 hP1 hD1 hS1 => k p e s m args below meth c R H1 locs1 ls E Rm Fx (ax_put0 hL hD (.inl (0, n1, .inl (va_cpy f g sp.toNatClampNeg dp.toNatClampNeg n.toNatClampNeg))) ha hq1 hP1 hD1) hS1 hl hc hs)
end
section
/-! ===== BEGIN a constructor that throws (launches without stack traces) ===== -/
section VXIA
variable {p : Program} {l : Launch} {e : Env} {R : Room} {s : State} {m : MethodId} {args : Array Value} {below : List Frame} {meth : Method} {c : Code} {T : State} {locs : List Loc} {cells slots : Nat}
theorem vx_callI (X : Stand p l e R s m args below meth c T locs cells slots) (hexec : p.tables.exec = Jvm.exec) {own : String} {index : Nat} {y : MethodName} {bytes : ByteArray} {maxL : Nat}
    (hown : s.vm.findClass own = some m.cls) (hy1 : y.name = "<init>") (hlink : (Cond.methodLink own index y).before args s = true) (hinst : (Cond.instanceMethod y).before args s = true)
    (hcode : (Cond.code y bytes maxL none).before args s = true) (hy : y.cls ≠ "java/lang/invoke/MethodHandle" ∧ y.cls ≠ "java/lang/invoke/VarHandle")
    {W9 : Nat} {Pre : Pt → Array Value → Prop} {Post : Pt → Array Value → Option Value → Pt → Prop} {PostX : Pt → Array Value → Addr → Pt → Prop} (hK : vx_Back l R p e below s args y 3 W9 Pre Post PostX)
    {g : JFrame} (hg : g.method = m) (hsize : g.locals.size = c.maxLocals) {a : Addr} {argsL rest : List Value} (hlen : ∀ sig, parseMethodDescriptor y.desc = some sig → argsL.length = sig.parameters.length)
    (hstack : g.stack = argsL.reverse ++ .ref a :: rest) (hW : 2 * g.monitorRoom + (rest.map fun v => v.category).sum ≤ W9) (hdg : decode c.code g.pc = .ok (.invokespecial index, 3))
    (hpre : ∀ vm₁, s.WarmedH vm₁ → Pre ⟨T.setVm vm₁, locs, cells, slots⟩ (Value.ref a :: argsL).toArray) :
    (∃ (v : Option Value) (vm₁ : Vm) (B : Pt), s.WarmedH vm₁ ∧ Stand p l e R s m args below meth c B.U B.locs B.cells B.slots ∧ Post ⟨T.setVm vm₁, locs, cells, slots⟩ (Value.ref a :: argsL).toArray v B ∧
      ∀ target, Steps p.tables e below (B.U.setTop { g with pc := g.pc + 3, stack := v.toList ++ rest }) target → Steps p.tables e below (T.setTop g) target) ∨
    (∃ (q : Addr) (vm₁ : Vm) (B : Pt), s.WarmedH vm₁ ∧ Stand p l e R s m args below meth c B.U B.locs B.cells B.slots ∧ PostX ⟨T.setVm vm₁, locs, cells, slots⟩ (Value.ref a :: argsL).toArray q B ∧
      Steps p.tables e below (T.setTop g) ((B.U.setTop { g with stack := rest }).pushFrame (.throwing q))) := by
  subst hg
  have hpl : e.platform.magicAccessors = ({} : Platform).magicAccessors := by rw [X.admits.platform]
  obtain ⟨mk, methM, cM, kP, vm₁, hnamed, hmethM, hcodeM, -, hlocalsM, -, hkP, -, hW₁, hstep₁⟩ := Steps.initColdArgs (e := e) X.here hexec X.warmed hpl hown hy1 hy hlink hinst hcode (f := g) rfl hlen hstack hdg
  have X₁ := X.noted hW₁
  rcases hK g.method meth c ⟨T.setVm vm₁, locs, cells, slots⟩ { g with stack := rest } (.invokespecial index) mk (Value.ref a :: argsL).toArray X₁ rfl hsize hdg hW (X₁.named hnamed) (hpre vm₁ X₁.warmed) with ⟨v, B, X', hpost, hsteps⟩ | ⟨q, B, X', hpost, hsteps⟩
  · exact Or.inl ⟨v, vm₁, B, X₁.warmed, X', hpost, fun target h => hstep₁ _ fun acts => by rw [doInvoke_state]; exact hsteps.trans h⟩
  · exact Or.inr ⟨q, vm₁, B, X₁.warmed, X', hpost, hstep₁ _ fun acts => by rw [doInvoke_state]; exact hsteps⟩
end VXIA
section VXIB
variable {p : Program} {l : Launch} {e : Env} {R : Room} {s : State} {m : MethodId} {args : Array Value} {below : List Frame} {meth : Method} {c : Code} {H : Heap} {locs : List Loc} {cells slots : Nat}
variable {y : MethodName} {bytes cc : ByteArray} {maxL nL mc ms n index : Nat} {ret : Option FieldType} {ws : List Cond} {rm : Room} {Pc : Array Value → State → Prop} {Qc : Array Value → State → Outcome → State → Prop} {XC : String → State → State → Prop} {free : Addr → Prop} {Ts : List Cond} {own C : String} {b : Addr} {As rest : List Value} {g : JFrame}
theorem vx_runI (S : CallFix p m c cc nL s args Ts own) (hM : vx_Met l y ws rm Pc Qc XC mc ms free) (cw : CallB R s args own index y bytes maxL none ws rm mc ms n ∧ y.name = "<init>" ∧ (Cond.instanceMethod y).before args s = true) (hp : PreS s H Pc (.ref b :: As))
    (hg : g.method = m) (hn : As.length = n) (hsize : g.locals.size = nL) (hstack : g.stack = As.reverse ++ .ref b :: rest) (hW : 2 * g.monitorRoom + (rest.map fun v => v.category).sum ≤ 8) (hdg : decode cc g.pc = .ok (.invokespecial index, 3)) (hf : cells + mc ≤ R.cells ∧ slots + ms ≤ R.slots) :
    vx_Run p l e R s m args below meth c H locs cells slots mc ms g rest (Qc (Value.ref b :: As).toArray) XC free := by
  have hK : vx_Back l R p e below s args y 3 8 (PreOf R mc ms Pc) (PostOf Qc mc ms free) (vx_Post XC mc ms free) := vx_callBack cw.1 hM hp.1
  obtain ⟨⟨-, -, -, -, -, -, hcode, -, hy, hlen, hl⟩, hy1, hin⟩ := cw
  obtain ⟨hx, hb, hml, ho, -⟩ := S
  have hPc := hp.2
  intro T hT X
  rcases vx_callI X hx (bytes := bytes) (maxL := maxL) ho hy1 hl hin hcode hy hK hg (hsize.trans hml.symm) (a := b) (argsL := As) (rest := rest) (fun sig h => hn.trans (hlen sig h)) hstack hW (by rw [hb]; exact hdg)
    (fun vm₁ hW₁ => ⟨hf.1, hf.2, hPc (T.setVm vm₁) hT hW₁⟩) with ⟨v, vm₁, ⟨U', l2, c2, s2⟩, hW₁, X', ⟨g', mk, t, L, e1, e2, hq, h1, hL, h2, h3⟩, st⟩ | ⟨q, vm₁, ⟨U', l2, c2, s2⟩, hW₁, X', ⟨g', mk, t, L, E, ce, e1, e2, hq, hce, hcv, hcl, h1, hL, h2, h3⟩, st⟩
  · dsimp only [Pt.U, Pt.locs, Pt.cells, Pt.slots] at X' e1 e2 h1 h2 h3 st
    subst h1; subst h2; subst h3
    exact Or.inl ⟨v, (T.setVm vm₁).calling g' mk (Value.ref b :: As).toArray, t, U', L, hT, X', hL, e1, e2, hq, st⟩
  · dsimp only [Pt.U, Pt.locs, Pt.cells, Pt.slots] at X' e1 e2 h1 h2 h3 st hcl
    subst h1; subst h2; subst h3
    exact Or.inr ⟨q, (T.setVm vm₁).calling g' mk (Value.ref b :: As).toArray, t, U', L, E, ce, hT, X', hL, e1, e2, hq, hce, hcv, vx_cls hW₁ hcl, st⟩
end VXIB
/-! ===== END ===== -/

theorem ax_good {w : Cond} (h : w ∈ ax_all) : (w.onTables && w.keeps) = true ∨ ∃ ty, w = .arrayClass ty := good_of_word (List.mem_filter.mp h).2
theorem ax_goodIn {ws : List Cond} (h : ∀ w ∈ ws, w ∈ ax_all) : GoodIn ax_all ws := fun w hw => ⟨h w hw, ax_good (h w hw)⟩
def ax_nms : List String := ["java/lang/RuntimeException", "java/lang/Exception"]
/-- what a throw of a text stands on -/
def ax_th (own : String) (ik is ic : Nat) (cls text : String) : Prop := Bundle.fit cls = true ∧ (∀ n ∈ ax_nms, Bundle.fit n = true) ∧ Cond.classLink own ik cls ∈ ax_all ∧ Cond.initialized cls ∈ ax_all ∧ (own, is, text) ∈ ax_strs ∧ (∀ w ∈ vx_atS own ic cls ax_nms, w ∈ ax_all)
theorem ax_ot {w : Cond} (h : w ∈ ax_all) : vx_ot w = true := by
  have := (List.mem_filter.mp h).2
  unfold vx_ot
  rw [this]
  exact Bool.or_true _
theorem ax_throw {G : ax_G} {M : ax_M} {d mc ms : Nat} {Q : ax_P} {pc : Nat} {lv : ax_L} {st : List Value} {h : ax_H} {cn sn : Nat} {ik is ic : Nat} {cls text : String} (hM : M.2.2.2.2.1 = []) (ht : ax_th M.1.cls ik is ic cls text) (d0 : decode M.2.1 pc = .ok (.new ik, 3)) (d3 : decode M.2.1 (pc + 3) = .ok (.dup, 1)) (d4 : decode M.2.1 (pc + 4) = .ok (.ldc is, 2)) (d6 : decode M.2.1 (pc + 6) = .ok (.invokespecial ic, 3)) (d9 : decode M.2.1 (pc + 9) = .ok (.athrow, 1)) (hcat : (st.map fun v => v.category).sum ≤ 8) (h1 : cn + 1 ≤ mc) (h2 : sn + 6 ≤ ms) (hq : Q (.inr cls) h) : AW G M d mc ms Q pc lv st h cn sn := by
  intro p e s m args below meth c R H locs ls E Rm Fx Hp hS hl hc hs
  obtain ⟨t1, t2, t3, t4, t5, t6⟩ := ht
  obtain ⟨sa, hsa⟩ := Fx.2.2.2.2.2.2.2.2.1 _ t5
  have hT : c.exceptionTable.toList = [] := by rw [E.2.2.2.2.2.2.2.1, hM]; rfl
  refine vx_throwS E.1 E.2.1 Fx.2.2.2.1 E.2.2.2.2.1 t1 t2 (E.2.2.2.2.2.1 _ t3) (E.2.2.2.2.2.1 _ t4) hsa (fun w hw => E.2.2.2.2.2.1 _ (t6 w hw)) (fun w hw => ?_) Fx.2.2.2.2.2.2.1 Fx.2.2.2.2.2.2.2.1 hS (by rw [E.2.2.2.1]; exact hl.1) d0 d3 d4 d6 d9 (fun x hx => by rw [hT] at hx; cases hx) (by have := Rm.2.2.1; show 2 + 3 < R.frames; omega) (by have := Rm.2.2.2; show _ + (13 * (2 + 1) + 43) ≤ R.locals; omega) (by rw [Rm.1]; exact h1) (by rw [Rm.2.1]; exact h2) E.2.2.2.2.2.2.1 (fun t _ hz hk => ?_) hS.2.2 h1 h2
  · rcases List.mem_cons.mp hw with rfl | hw
    · exact ax_ot t3
    · rcases List.mem_cons.mp hw with rfl | hw
      · exact ax_ot t4
      · exact ax_ot (t6 w hw)
  · obtain ⟨L, hL, hP, hD⟩ := Hp
    refine ⟨h, hq, ⟨L, hL, hP.kept (fun k q hq => hk _ (hP k q hq).lt), hD⟩, Nat.le_trans hS.1 hz, fun q q1 q2 => (hk q (Nat.lt_of_lt_of_le q1 hS.1)).trans (hS.2.1 q q1 q2)⟩
def ax_room (d mc ms : Nat) : Room := { frames := d + 8, cells := mc, slots := ms, locals := 40 * d + 120 }
def ax_Pc (G : ax_G) (av : List Value) (h : ax_H) : Array Value → State → Prop := fun v U => v = av.toArray ∧ ax_fix G U U.heap ∧ ax_holds G h U.heap
theorem ax_fix_calling {G : ax_G} {U : State} {g : JFrame} {mk : MethodId} {a : Array Value} (h : ax_fix G U U.heap) : ax_fix G (U.calling g mk a) (U.calling g mk a).heap := by
  obtain ⟨f1, f2, f3, f4, f5, f6, f7, f8, f9, f10⟩ := h
  have hv : U.vm.Alike (U.calling g mk a).vm := Vm.Alike.refl U.vm
  exact ⟨va_K.moved (u := U) hv f1, f2, f3, f4, f5, va_X.moved (u := U) hv f6, vx_Zq.moved (u := U) hv f7, vx_Zq.moved (u := U) hv f8, fun q hq => ⟨(f9 q hq).choose, vk_R.same (u := U) rfl (f9 q hq).choose_spec⟩, fun q hq => va_Nc.moved (u := U) hv (f10 q hq)⟩
theorem ax_blind (G : ax_G) (av : List Value) (h : ax_H) : FrameBlind (ax_Pc G av h) := fun a U g mk q => ⟨q.1, ax_fix_calling q.2.1, q.2.2⟩
theorem ax_fix_warm {G : ax_G} {s U : State} {H : Heap} {locs : List Loc} (hW : s.WarmedH U.vm) (hU : U.heap = H) (Fx : ax_fix G s s.heap) (hS : va_S (ax_A G) s.heap H locs) : ax_fix G U U.heap := by
  obtain ⟨f1, ⟨k, f2, f2'⟩, f3, f4, f5, f6, f7, f8, f9, f10⟩ := Fx
  obtain ⟨k', hk', he⟩ := hW.alike.2.2 _ _ f2
  have hk : ∀ a : Nat, a < s.heap.size → ¬ ax_A G a → U.heap[a]? = s.heap[a]? := fun a h1 h2 => by rw [hU]; exact hS.2.1 a h1 h2
  exact ⟨va_K.moved hW.alike f1, ⟨k', hk', by rw [he]; exact f2'⟩, by rw [hU]; exact Nat.le_trans f3 hS.1, f4, f5, va_X.moved hW.alike (f6.kept (hk _ (Nat.lt_of_lt_of_le f5 f3) (Nat.not_le.mpr f5))), vx_Zq.moved hW.alike (f7.kept hk), vx_Zq.moved hW.alike (f8.kept hk), fun q hq => ⟨(f9 q hq).choose, vk_R.warm hW (f9 q hq).choose_spec⟩, fun q hq => va_Nc.moved hW.alike (f10 q hq)⟩
theorem ax_met {G : ax_G} {M : ax_M} {d mc ms : Nat} {Q : ax_P} {av : List Value} {h : ax_H} (hy : plainName M.1.cls = true) (hM : M.2.2.2.2.1 = []) (hn : (lg_sl av).length ≤ M.2.2.1) (k : AW G M d mc ms Q 0 (lv_args 0 av) [] h 0 0) :
    vx_Met G.1 M.1 (Cond.code M.1 M.2.1 M.2.2.1 M.2.2.2.1 :: ax_all) (ax_room d mc ms) (ax_Pc G av h) (ax_Qc G Q) (ax_XC G Q) mc ms (ax_A G) := by
  refine vx_ofW (cc := M.2.1) (maxL := M.2.2.1) (ret := M.2.2.2.1) hy rfl ?_
  intro p e s m args below meth c s₁ B hml ht hv
  obtain ⟨rfl, Fx, Hp⟩ := hv
  have hts := atoms_spec (ws := Cond.code M.1 M.2.1 M.2.2.1 M.2.2.2.1 :: ax_all) B.pre
  have hl := lv_entry av (n := M.2.2.1) hn
  rw [lg_entry_eq]
  have hT : c.exceptionTable.toList = tableOf M.2.2.2.2.1 := by
    rw [hM]
    cases hc : c.exceptionTable.toList with
    | nil => rfl
    | cons x l => exact (ht x (by rw [hc]; exact List.mem_cons_self)).elim
  exact k p e s m _ below meth c _ s.heap [] _ ⟨B.exec, B.bytes, B.returns, hml, findClass_of_methodNamed B.named, fun w hw => hts w (List.mem_cons_of_mem _ hw), B.notSynchronized, hT, (name_of_methodNamed B.named B.method).1⟩ ⟨rfl, rfl, Nat.le_refl _, Nat.le_refl _⟩ Fx Hp va_S.rf hl (Nat.zero_le _) (Nat.zero_le _)
theorem ax_metH {G : ax_G} {M : ax_M} {d mc ms : Nat} {Q : ax_P} {av : List Value} {h : ax_H} (hy : plainName M.1.cls = true) (hn : (lg_sl av).length ≤ M.2.2.1) (k : AW G M d mc ms Q 0 (lv_args 0 av) [] h 0 0) :
    vx_Met G.1 M.1 (Cond.codeWith M.1 M.2.1 M.2.2.1 M.2.2.2.1 M.2.2.2.2.1 :: ax_all) (ax_room d mc ms) (ax_Pc G av h) (ax_Qc G Q) (ax_XC G Q) mc ms (ax_A G) := by
  refine vx_ofWH (cc := M.2.1) (maxL := M.2.2.1) (ret := M.2.2.2.1) (hh := M.2.2.2.2.1) hy rfl ?_
  intro p e s m args below meth c s₁ B hml hv
  obtain ⟨rfl, Fx, Hp⟩ := hv
  have hts := atoms_spec (ws := Cond.codeWith M.1 M.2.1 M.2.2.1 M.2.2.2.1 M.2.2.2.2.1 :: ax_all) B.pre
  have hl := lv_entry av (n := M.2.2.1) hn
  rw [lg_entry_eq]
  exact k p e s m _ below meth c _ s.heap [] _ ⟨B.exec, B.bytes, B.returns, hml, findClass_of_methodNamed B.named, fun w hw => hts w (List.mem_cons_of_mem _ hw), B.notSynchronized, vx_table (x := M.1) B (hts _ List.mem_cons_self), (name_of_methodNamed B.named B.method).1⟩ ⟨rfl, rfl, Nat.le_refl _, Nat.le_refl _⟩ Fx Hp va_S.rf hl (Nat.zero_le _) (Nat.zero_le _)
section AXC
variable {p : Program} {G : ax_G} {e : Env} {R : Room} {s : State} {m : MethodId} {args : Array Value} {below : List Frame} {meth : Method} {c : Code} {H : Heap} {locs : List Loc} {cells slots : Nat} {Qf : State → Prop}
variable {mc ms : Nat} {Q1 : ax_P} {a : Array Value} {pc : Nat} {ls : Array Slot} {st0 rest : List Value}
theorem ax_call0 (hr : vx_Run p G.1 e R s m args below meth c H locs cells slots mc ms (F0 m pc ls st0) rest (ax_Qc G Q1 a) (ax_XC G Q1) (ax_A G)) (hS : va_S (ax_A G) s.heap H locs)
    (kx : ∀ (E : String) (ce : Cell) (q9 : Addr) (h1 : ax_H) (H1 : Heap) (locs1 : List Loc), Q1 (.inr E) h1 → ax_holds G h1 H1 → va_S (ax_A G) s.heap H1 locs1 → H1[q9]? = some ce → ce.vm = .none → s.vm.findClass E = some ce.cls → vx_W p G.1 e R s m args below meth c H1 locs1 (cells + mc) (slots + ms) Qf (F0 m pc ls rest) q9)
    (kk : ∀ (v : Option Value) (h1 : ax_H) (H1 : Heap) (locs1 : List Loc), Q1 (.inl v) h1 → ax_holds G h1 H1 → va_S (ax_A G) s.heap H1 locs1 → W p G.1 e R s m args below meth c H1 locs1 (cells + mc) (slots + ms) Qf (F0 m (pc + 3) ls (v.toList ++ rest))) : W p G.1 e R s m args below meth c H locs cells slots Qf (F0 m pc ls st0) := by
  intro T hT X
  rcases hr T hT X with ⟨v, st₀, t, T', L, h0, X', hL, e1, e2, ⟨v9, h1, hv, hq, hh, hF⟩, st⟩ | ⟨q, st₀, t, T', L, E, ce, h0, X', hL, e1, e2, ⟨h1, hq, hh, hF⟩, hce, hcv, hcl, st⟩
  · cases hv
    obtain ⟨k1, k2, k3⟩ := vx_keep h0 e1 hS (fun _ _ h => h) (fun _ h => h) hL hF
    obtain ⟨t2, a1, b1⟩ := kk v h1 T'.heap (locs ++ L) hq (by rw [e1]; exact hh) k3 T' rfl X'
    exact ⟨t2, st t2 a1, b1⟩
  · obtain ⟨k1, k2, k3⟩ := vx_keep h0 e1 hS (fun _ _ h => h) (fun _ h => h) hL hF
    obtain ⟨t2, a1, b1⟩ := kx E ce q h1 T'.heap (locs ++ L) hq (by rw [e1]; exact hh) k3 (by rw [e1]; exact hce) hcv hcl T' rfl X'
    exact ⟨t2, st.trans a1, b1⟩
end AXC
/-- what every callee must be -/
def ax_ok (M : ax_M) : Prop := plainName M.1.cls = true ∧ M.1.cls ≠ "java/lang/invoke/MethodHandle" ∧ M.1.cls ≠ "java/lang/invoke/VarHandle" ∧ (parseMethodDescriptor M.1.desc).map (fun d => d.parameters.length) = some M.2.2.2.2.2 ∧ M.2.2.1 ≤ 21 ∧ Cond.initialized M.1.cls ∈ ax_all
def ax_lkV (own : String) (i : Nat) (M : ax_M) (ci : Nat) : Prop := ax_ok M ∧ M.2.2.2.2.1 = [] ∧ Cond.code M.1 M.2.1 M.2.2.1 M.2.2.2.1 ∈ ax_all ∧ Cond.methodLink own i M.1 ∈ ax_all ∧ Cond.instanceMethod M.1 ∈ ax_all ∧ Cond.selects M.1.cls M.1 M.1 ∈ ax_all ∧ ∃ (T : u_T) (N : Nat), vwCl[ci]? = some (M.1.cls, T, N)
def ax_lkS (own : String) (i : Nat) (M : ax_M) : Prop := ax_ok M ∧ M.2.2.2.2.1 = [] ∧ Cond.code M.1 M.2.1 M.2.2.1 M.2.2.2.1 ∈ ax_all ∧ Cond.methodLink own i M.1 ∈ ax_all ∧ Cond.static M.1 ∈ ax_all ∧ M.1.cls = own
def ax_lkH (own : String) (i : Nat) (M : ax_M) : Prop := ax_ok M ∧ Cond.codeWith M.1 M.2.1 M.2.2.1 M.2.2.2.1 M.2.2.2.2.1 ∈ ax_all ∧ Cond.methodLink own i M.1 ∈ ax_all ∧ Cond.static M.1 ∈ ax_all
def ax_lkI (own : String) (i : Nat) (M : ax_M) : Prop := ax_ok M ∧ M.2.2.2.2.1 = [] ∧ M.2.2.2.1 = none ∧ M.1.name = "<init>" ∧ Cond.code M.1 M.2.1 M.2.2.1 none ∈ ax_all ∧ Cond.methodLink own i M.1 ∈ ax_all ∧ Cond.instanceMethod M.1 ∈ ax_all
theorem ax_wsin {w0 : Cond} {l : List Cond} (h0 : w0 ∈ ax_all) (h1 : ∀ w ∈ l, w ∈ ax_all) : ∀ w ∈ l ++ (w0 :: ax_all), w ∈ ax_all := fun w hw => (List.mem_append.mp hw).elim (h1 w) (fun h => (List.mem_cons.mp h).elim (fun e => by rw [e]; exact h0) id)
theorem ax_callV {G : ax_G} {M : ax_M} {d mc ms : Nat} {Q : ax_P} {pc : Nat} {lv : ax_L} {h : ax_H} {cn sn : Nat} {i : Nat} {M' : ax_M} {b ci : Nat} {fs : List Value} {av rest : List Value} {mc' ms' : Nat} {Q1 : ax_P} (hd : decode M.2.1 pc = .ok (.invokevirtual i, 3)) (hM : M.2.2.2.2.1 = []) (hlk : ax_lkV M.1.cls i M' ci) (hb : h b = some (.inr (ci, fs))) (hn : av.length = M'.2.2.2.2.2) (hsl : (lg_sl (.ref b :: av)).length ≤ M'.2.2.1) (hcat : (rest.map fun v => v.category).sum ≤ 8) (h1' : cn + mc' ≤ mc) (h2' : sn + ms' ≤ ms)
    (kc : AW G M' d mc' ms' Q1 0 (lv_args 0 (.ref b :: av)) [] h 0 0) (kx : ∀ (E : String) (h1 : ax_H), Q1 (.inr E) h1 → Q (.inr E) h1) (kk : ∀ (v : Option Value) (h1 : ax_H), Q1 (.inl v) h1 → AW G M (d + 1) mc ms Q (pc + 3) lv (v.toList ++ rest) h1 (cn + mc') (sn + ms')) : AW G M (d + 1) mc ms Q pc lv (av.reverse ++ .ref b :: rest) h cn sn := by
  intro p e s m args below meth c R H locs ls E Rm Fx Hp hS hl hc hs
  obtain ⟨⟨o1, o2, o3, o4, o5, o6⟩, l1, l2, l3, l4, l5, T, N, l6⟩ := hlk
  obtain ⟨L, hL, hP, hD⟩ := id Hp
  obtain ⟨q0, hq0⟩ := ax_get0 (kc := G.2.2.1) hL hb
  have hT : c.exceptionTable.toList = [] := by rw [E.2.2.2.2.2.2.2.1, hM]; rfl
  have hrun := vx_runV (Ts := ax_all) (e := e) (below := below) (meth := meth) (locs := locs) (g := F0 m pc ls (av.reverse ++ .ref b :: rest)) (rest := rest) (As := av) ⟨E.1, E.2.1, E.2.2.2.1, E.2.2.2.2.1, E.2.2.2.2.2.1⟩ (ax_met o1 l1 hsl kc) (cwV M'.2.2.2.2.2 (C := M'.1.cls) (own := M.1.cls) (index := i) E.2.2.2.2.2.1 (ax_goodIn (ax_wsin l2 (fun w hw => by
      rcases List.mem_cons.mp hw with rfl | hw
      · exact l3
      · rcases List.mem_cons.mp hw with rfl | hw
        · exact l4
        · rcases List.mem_cons.mp hw with rfl | hw
          · exact l5
          · rcases List.mem_cons.mp hw with rfl | hw
            · exact o6
            · cases hw))) rfl rfl rfl ⟨rfl, o2, o3, o4⟩ ⟨by have := Rm.2.2.1; show d + 8 + 1 ≤ R.frames; omega, by have := Rm.2.2.2; show 8 + (M'.2.2.1 + 11) + (40 * d + 120) ≤ R.locals; omega⟩)
    ⟨ax_blind G _ h, va_recv Fx.1 hP l6 hq0, fun U hU hW => ⟨rfl, ax_fix_warm hW hU Fx hS, by rw [hU]; exact Hp⟩⟩ rfl hn hl.1 rfl (lv_room hcat) hd ⟨by rw [Rm.1]; exact h1', by rw [Rm.2.1]; exact h2'⟩
  refine ax_call0 hrun hS (fun E9 ce q9 h1 H1 locs1 q1 q2 q3 w1 w2 w3 => ?_) (fun v h1 H1 locs1 q1 q2 q3 => kk v h1 q1 p e s m args below meth c R H1 locs1 ls E Rm Fx q2 q3 hl h1' h2')
  exact vx_out (fun x hx => by rw [hT] at hx; cases hx) E.2.2.2.2.2.2.1 w1 w2 w3 (fun t ht _ => ⟨h1, kx E9 h1 q1, by rw [ht]; exact q2, q3.F ht⟩) q3.2.2 h1' h2'
theorem ax_callS {G : ax_G} {M : ax_M} {d mc ms : Nat} {Q : ax_P} {pc : Nat} {lv : ax_L} {h : ax_H} {cn sn : Nat} {i : Nat} {M' : ax_M}  {av rest : List Value} {mc' ms' : Nat} {Q1 : ax_P} (hd : decode M.2.1 pc = .ok (.invokestatic i, 3)) (hM : M.2.2.2.2.1 = []) (hlk : ax_lkS M.1.cls i M')  (hn : av.length = M'.2.2.2.2.2) (hsl : (lg_sl (av)).length ≤ M'.2.2.1) (hcat : (rest.map fun v => v.category).sum ≤ 8) (h1' : cn + mc' ≤ mc) (h2' : sn + ms' ≤ ms)
    (kc : AW G M' d mc' ms' Q1 0 (lv_args 0 (av)) [] h 0 0) (kx : ∀ (E : String) (h1 : ax_H), Q1 (.inr E) h1 → Q (.inr E) h1) (kk : ∀ (v : Option Value) (h1 : ax_H), Q1 (.inl v) h1 → AW G M (d + 1) mc ms Q (pc + 3) lv (v.toList ++ rest) h1 (cn + mc') (sn + ms')) : AW G M (d + 1) mc ms Q pc lv (av.reverse ++ rest) h cn sn := by
  intro p e s m args below meth c R H locs ls E Rm Fx Hp hS hl hc hs
  obtain ⟨⟨o1, o2, o3, o4, o5, o6⟩, l1, l2, l3, l4, l5⟩ := hlk
  have hT : c.exceptionTable.toList = [] := by rw [E.2.2.2.2.2.2.2.1, hM]; rfl
  have hrun := vx_runS (Ts := ax_all) (e := e) (below := below) (meth := meth) (locs := locs) (g := F0 m pc ls (av.reverse ++ rest)) (rest := rest) (As := av) ⟨E.1, E.2.1, E.2.2.2.1, E.2.2.2.2.1, E.2.2.2.2.2.1⟩ (ax_met o1 l1 hsl kc) (cwS M'.2.2.2.2.2 (own := M.1.cls) (index := i) E.2.2.2.2.2.1 (ax_goodIn (ax_wsin l2 (fun w hw => by
      rcases List.mem_cons.mp hw with rfl | hw
      · exact l3
      · rcases List.mem_cons.mp hw with rfl | hw
        · exact l4
        · rcases List.mem_cons.mp hw with rfl | hw
          · rw [← l5]; exact o6
          · cases hw))) rfl rfl rfl ⟨l5, o2, o3, o4⟩ ⟨by have := Rm.2.2.1; show d + 8 + 1 ≤ R.frames; omega, by have := Rm.2.2.2; show 8 + (M'.2.2.1 + 11) + (40 * d + 120) ≤ R.locals; omega⟩)
    ⟨ax_blind G _ h, fun U hU hW => ⟨rfl, ax_fix_warm hW hU Fx hS, by rw [hU]; exact Hp⟩⟩ rfl hn hl.1 rfl (lv_room hcat) hd ⟨by rw [Rm.1]; exact h1', by rw [Rm.2.1]; exact h2'⟩
  refine ax_call0 hrun hS (fun E9 ce q9 h1 H1 locs1 q1 q2 q3 w1 w2 w3 => ?_) (fun v h1 H1 locs1 q1 q2 q3 => kk v h1 q1 p e s m args below meth c R H1 locs1 ls E Rm Fx q2 q3 hl h1' h2')
  exact vx_out (fun x hx => by rw [hT] at hx; cases hx) E.2.2.2.2.2.2.1 w1 w2 w3 (fun t ht _ => ⟨h1, kx E9 h1 q1, by rw [ht]; exact q2, q3.F ht⟩) q3.2.2 h1' h2'
theorem ax_callH {G : ax_G} {M : ax_M} {d mc ms : Nat} {Q : ax_P} {pc : Nat} {lv : ax_L} {h : ax_H} {cn sn : Nat} {i : Nat} {M' : ax_M}  {av rest : List Value} {mc' ms' : Nat} {Q1 : ax_P} (hd : decode M.2.1 pc = .ok (.invokestatic i, 3)) (hM : M.2.2.2.2.1 = []) (hlk : ax_lkH M.1.cls i M')  (hn : av.length = M'.2.2.2.2.2) (hsl : (lg_sl (av)).length ≤ M'.2.2.1) (hcat : (rest.map fun v => v.category).sum ≤ 8) (h1' : cn + mc' ≤ mc) (h2' : sn + ms' ≤ ms)
    (kc : AW G M' d mc' ms' Q1 0 (lv_args 0 (av)) [] h 0 0) (kx : ∀ (E : String) (h1 : ax_H), Q1 (.inr E) h1 → Q (.inr E) h1) (kk : ∀ (v : Option Value) (h1 : ax_H), Q1 (.inl v) h1 → AW G M (d + 1) mc ms Q (pc + 3) lv (v.toList ++ rest) h1 (cn + mc') (sn + ms')) : AW G M (d + 1) mc ms Q pc lv (av.reverse ++ rest) h cn sn := by
  intro p e s m args below meth c R H locs ls E Rm Fx Hp hS hl hc hs
  obtain ⟨⟨o1, o2, o3, o4, o5, o6⟩, l2, l3, l4⟩ := hlk
  have hT : c.exceptionTable.toList = [] := by rw [E.2.2.2.2.2.2.2.1, hM]; rfl
  have hrun := vx_runSX (Ts := ax_all) (e := e) (below := below) (meth := meth) (locs := locs) (g := F0 m pc ls (av.reverse ++ rest)) (rest := rest) (As := av) ⟨E.1, E.2.1, E.2.2.2.1, E.2.2.2.2.1, E.2.2.2.2.2.1⟩ (ax_metH o1 hsl kc) (vx_cwSW M'.2.2.2.2.2 (own := M.1.cls) (index := i) E.2.2.2.2.2.1 (ax_goodIn (ax_wsin l2 (fun w hw => by
      rcases List.mem_cons.mp hw with rfl | hw
      · exact l3
      · rcases List.mem_cons.mp hw with rfl | hw
        · exact l4
        · rcases List.mem_cons.mp hw with rfl | hw
          · exact o6
          · cases hw))) rfl rfl rfl ⟨o2, o3, o4⟩ ⟨by have := Rm.2.2.1; show d + 8 + 1 ≤ R.frames; omega, by have := Rm.2.2.2; show 8 + (M'.2.2.1 + 11) + (40 * d + 120) ≤ R.locals; omega⟩)
    ⟨ax_blind G _ h, fun U hU hW => ⟨rfl, ax_fix_warm hW hU Fx hS, by rw [hU]; exact Hp⟩⟩ rfl hn hl.1 rfl (lv_room hcat) hd ⟨by rw [Rm.1]; exact h1', by rw [Rm.2.1]; exact h2'⟩
  refine ax_call0 hrun hS (fun E9 ce q9 h1 H1 locs1 q1 q2 q3 w1 w2 w3 => ?_) (fun v h1 H1 locs1 q1 q2 q3 => kk v h1 q1 p e s m args below meth c R H1 locs1 ls E Rm Fx q2 q3 hl h1' h2')
  exact vx_out (fun x hx => by rw [hT] at hx; cases hx) E.2.2.2.2.2.2.1 w1 w2 w3 (fun t ht _ => ⟨h1, kx E9 h1 q1, by rw [ht]; exact q2, q3.F ht⟩) q3.2.2 h1' h2'
theorem ax_callI {G : ax_G} {M : ax_M} {d mc ms : Nat} {Q : ax_P} {pc : Nat} {lv : ax_L} {h : ax_H} {cn sn : Nat} {i : Nat} {M' : ax_M} {b : Nat} {av rest : List Value} {mc' ms' : Nat} {Q1 : ax_P} (hd : decode M.2.1 pc = .ok (.invokespecial i, 3)) (hM : M.2.2.2.2.1 = []) (hlk : ax_lkI M.1.cls i M')  (hn : av.length = M'.2.2.2.2.2) (hsl : (lg_sl (.ref b :: av)).length ≤ M'.2.2.1) (hcat : (rest.map fun v => v.category).sum ≤ 8) (h1' : cn + mc' ≤ mc) (h2' : sn + ms' ≤ ms)
    (kc : AW G M' d mc' ms' Q1 0 (lv_args 0 (.ref b :: av)) [] h 0 0) (kx : ∀ (E : String) (h1 : ax_H), Q1 (.inr E) h1 → Q (.inr E) h1) (kk : ∀ (v : Option Value) (h1 : ax_H), Q1 (.inl v) h1 → AW G M (d + 1) mc ms Q (pc + 3) lv (v.toList ++ rest) h1 (cn + mc') (sn + ms')) : AW G M (d + 1) mc ms Q pc lv (av.reverse ++ .ref b :: rest) h cn sn := by
  intro p e s m args below meth c R H locs ls E Rm Fx Hp hS hl hc hs
  obtain ⟨⟨o1, o2, o3, o4, o5, o6⟩, l1, l1', l1'', l2, l3, l4⟩ := hlk
  have hT : c.exceptionTable.toList = [] := by rw [E.2.2.2.2.2.2.2.1, hM]; rfl
  have hmet := ax_met o1 l1 hsl kc
  rw [l1'] at hmet
  have hrun := vx_runI (Ts := ax_all) (e := e) (below := below) (meth := meth) (locs := locs) (g := F0 m pc ls (av.reverse ++ .ref b :: rest)) (rest := rest) (As := av) (b := b) ⟨E.1, E.2.1, E.2.2.2.1, E.2.2.2.2.1, E.2.2.2.2.2.1⟩ hmet (cwI M'.2.2.2.2.2 (own := M.1.cls) (index := i) E.2.2.2.2.2.1 (ax_goodIn (ax_wsin (l := []) l2 (fun w hw => by cases hw))) rfl rfl rfl (E.2.2.2.2.2.1 _ o6) (E.2.2.2.2.2.1 _ l3) (E.2.2.2.2.2.1 _ l4) l1'' ⟨o2, o3, o4⟩ ⟨by have := Rm.2.2.1; show d + 8 + 1 ≤ R.frames; omega, by have := Rm.2.2.2; show 8 + (M'.2.2.1 + 11) + (40 * d + 120) ≤ R.locals; omega⟩)
    ⟨ax_blind G _ h, fun U hU hW => ⟨rfl, ax_fix_warm hW hU Fx hS, by rw [hU]; exact Hp⟩⟩ rfl hn hl.1 rfl (lv_room hcat) hd ⟨by rw [Rm.1]; exact h1', by rw [Rm.2.1]; exact h2'⟩
  refine ax_call0 hrun hS (fun E9 ce q9 h1 H1 locs1 q1 q2 q3 w1 w2 w3 => ?_) (fun v h1 H1 locs1 q1 q2 q3 => kk v h1 q1 p e s m args below meth c R H1 locs1 ls E Rm Fx q2 q3 hl h1' h2')
  exact vx_out (fun x hx => by rw [hT] at hx; cases hx) E.2.2.2.2.2.2.1 w1 w2 w3 (fun t ht _ => ⟨h1, kx E9 h1 q1, by rw [ht]; exact q2, q3.F ht⟩) q3.2.2 h1' h2'
end
