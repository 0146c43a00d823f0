section
-- ===== PART A: goes FIRST, ahead of the names: the tables' words, and 'selects' of the private methods out of them =====
/-- a private method of a class that the tables say can be made, by its rows of tables_1 -/
def lw_okq (q : MethodName × Nat) : Prop := (q.1.cls ≠ "java/lang/invoke/MethodHandle" ∧ q.1.cls ≠ "java/lang/invoke/VarHandle") ∧ Cond.instantiable q.1.cls q.2 ∈ tables_1 ∧ Cond.privateMethod q.1 ∈ tables_1 ∧ Cond.instanceMethod q.1 ∈ tables_1
theorem lw_p0 : lw_okq (⟨"DataMaker$Stock", "makeSize", "(I)V"⟩, 10) := ⟨⟨by decide +kernel, by decide +kernel⟩, List.mem_of_getElem? (i := 68) (by decide +kernel), List.mem_of_getElem? (i := 268) (by decide +kernel), List.mem_of_getElem? (i := 269) (by decide +kernel)⟩
theorem lw_p1 : lw_okq (⟨"DataMaker$Stock", "extend", "(LDataMaker$Value;I)V"⟩, 10) := ⟨⟨by decide +kernel, by decide +kernel⟩, List.mem_of_getElem? (i := 68) (by decide +kernel), List.mem_of_getElem? (i := 284) (by decide +kernel), List.mem_of_getElem? (i := 285) (by decide +kernel)⟩
theorem lw_p2 : lw_okq (⟨"DataMaker$Stock", "isHopeless", "(LDataMaker$Value;Z)Z"⟩, 10) := ⟨⟨by decide +kernel, by decide +kernel⟩, List.mem_of_getElem? (i := 68) (by decide +kernel), List.mem_of_getElem? (i := 296) (by decide +kernel), List.mem_of_getElem? (i := 297) (by decide +kernel)⟩
theorem lw_p3 : lw_okq (⟨"DataMaker$Value", "partsDiffer", "()I"⟩, 16) := ⟨⟨by decide +kernel, by decide +kernel⟩, List.mem_of_getElem? (i := 75) (by decide +kernel), List.mem_of_getElem? (i := 308) (by decide +kernel), List.mem_of_getElem? (i := 309) (by decide +kernel)⟩
theorem lw_p4 : lw_okq (⟨"DataMaker$Stock", "keep", "(LDataMaker$Value;)V"⟩, 10) := ⟨⟨by decide +kernel, by decide +kernel⟩, List.mem_of_getElem? (i := 68) (by decide +kernel), List.mem_of_getElem? (i := 312) (by decide +kernel), List.mem_of_getElem? (i := 313) (by decide +kernel)⟩
theorem lw_p5 : lw_okq (⟨"DataMaker$Stock", "extendByNumbers", "(LDataMaker$Value;I)V"⟩, 10) := ⟨⟨by decide +kernel, by decide +kernel⟩, List.mem_of_getElem? (i := 68) (by decide +kernel), List.mem_of_getElem? (i := 320) (by decide +kernel), List.mem_of_getElem? (i := 321) (by decide +kernel)⟩
theorem lw_p6 : lw_okq (⟨"DataMaker$Stock", "copyToExtend", "(LDataMaker$Value;)LDataMaker$Value;"⟩, 10) := ⟨⟨by decide +kernel, by decide +kernel⟩, List.mem_of_getElem? (i := 68) (by decide +kernel), List.mem_of_getElem? (i := 324) (by decide +kernel), List.mem_of_getElem? (i := 325) (by decide +kernel)⟩
theorem lw_p7 : lw_okq (⟨"DataMaker$Value", "joinInts", "(III)V"⟩, 16) := ⟨⟨by decide +kernel, by decide +kernel⟩, List.mem_of_getElem? (i := 75) (by decide +kernel), List.mem_of_getElem? (i := 332) (by decide +kernel), List.mem_of_getElem? (i := 333) (by decide +kernel)⟩
theorem lw_p8 : lw_okq (⟨"DataMaker$Stock", "extendByParts", "(LDataMaker$Value;III)V"⟩, 10) := ⟨⟨by decide +kernel, by decide +kernel⟩, List.mem_of_getElem? (i := 68) (by decide +kernel), List.mem_of_getElem? (i := 336) (by decide +kernel), List.mem_of_getElem? (i := 337) (by decide +kernel)⟩
theorem lw_p9 : lw_okq (⟨"DataMaker$Stock", "closeSize", "(I)V"⟩, 10) := ⟨⟨by decide +kernel, by decide +kernel⟩, List.mem_of_getElem? (i := 68) (by decide +kernel), List.mem_of_getElem? (i := 359) (by decide +kernel), List.mem_of_getElem? (i := 360) (by decide +kernel)⟩
theorem lw_p10 : lw_okq (⟨"DataMaker$Code", "appendValue", "(LDataMaker$Value;I)V"⟩, 2) := ⟨⟨by decide +kernel, by decide +kernel⟩, List.mem_of_getElem? (i := 208) (by decide +kernel), List.mem_of_getElem? (i := 376) (by decide +kernel), List.mem_of_getElem? (i := 377) (by decide +kernel)⟩
theorem lw_p11 : lw_okq (⟨"DataMaker$Code", "append", "(I)V"⟩, 2) := ⟨⟨by decide +kernel, by decide +kernel⟩, List.mem_of_getElem? (i := 208) (by decide +kernel), List.mem_of_getElem? (i := 380) (by decide +kernel), List.mem_of_getElem? (i := 381) (by decide +kernel)⟩
theorem lw_p12 : lw_okq (⟨"java/lang/Throwable", "fillInStackTrace", "(I)Ljava/lang/Throwable;"⟩, 6) := ⟨⟨by decide +kernel, by decide +kernel⟩, List.mem_of_getElem? (i := 439) (by decide +kernel), List.mem_of_getElem? (i := 437) (by decide +kernel), List.mem_of_getElem? (i := 438) (by decide +kernel)⟩
theorem lw_p13 : lw_okq (⟨"DataMaker", "forgetValues", "()V"⟩, 6) := ⟨⟨by decide +kernel, by decide +kernel⟩, List.mem_of_getElem? (i := 19) (by decide +kernel), List.mem_of_getElem? (i := 469) (by decide +kernel), List.mem_of_getElem? (i := 470) (by decide +kernel)⟩
theorem lw_p14 : lw_okq (⟨"DataMaker", "requireType", "(I)V"⟩, 6) := ⟨⟨by decide +kernel, by decide +kernel⟩, List.mem_of_getElem? (i := 19) (by decide +kernel), List.mem_of_getElem? (i := 505) (by decide +kernel), List.mem_of_getElem? (i := 506) (by decide +kernel)⟩
theorem lw_p15 : lw_okq (⟨"DataMaker$Grammar", "isParameter", "(I)Z"⟩, 8) := ⟨⟨by decide +kernel, by decide +kernel⟩, List.mem_of_getElem? (i := 27) (by decide +kernel), List.mem_of_getElem? (i := 533) (by decide +kernel), List.mem_of_getElem? (i := 534) (by decide +kernel)⟩
def lw_privs_1 : List (MethodName × Nat) := [(⟨"DataMaker$Stock", "makeSize", "(I)V"⟩, 10), (⟨"DataMaker$Stock", "extend", "(LDataMaker$Value;I)V"⟩, 10), (⟨"DataMaker$Stock", "isHopeless", "(LDataMaker$Value;Z)Z"⟩, 10), (⟨"DataMaker$Value", "partsDiffer", "()I"⟩, 16), (⟨"DataMaker$Stock", "keep", "(LDataMaker$Value;)V"⟩, 10), (⟨"DataMaker$Stock", "extendByNumbers", "(LDataMaker$Value;I)V"⟩, 10), (⟨"DataMaker$Stock", "copyToExtend", "(LDataMaker$Value;)LDataMaker$Value;"⟩, 10), (⟨"DataMaker$Value", "joinInts", "(III)V"⟩, 16), (⟨"DataMaker$Stock", "extendByParts", "(LDataMaker$Value;III)V"⟩, 10), (⟨"DataMaker$Stock", "closeSize", "(I)V"⟩, 10), (⟨"DataMaker$Code", "appendValue", "(LDataMaker$Value;I)V"⟩, 2), (⟨"DataMaker$Code", "append", "(I)V"⟩, 2), (⟨"java/lang/Throwable", "fillInStackTrace", "(I)Ljava/lang/Throwable;"⟩, 6), (⟨"DataMaker", "forgetValues", "()V"⟩, 6), (⟨"DataMaker", "requireType", "(I)V"⟩, 6), (⟨"DataMaker$Grammar", "isParameter", "(I)Z"⟩, 8)]
theorem lw_r1 : ∀ q ∈ lw_privs_1, lw_okq q := List.forall_mem_cons.mpr ⟨lw_p0, List.forall_mem_cons.mpr ⟨lw_p1, List.forall_mem_cons.mpr ⟨lw_p2, List.forall_mem_cons.mpr ⟨lw_p3, List.forall_mem_cons.mpr ⟨lw_p4, List.forall_mem_cons.mpr ⟨lw_p5, List.forall_mem_cons.mpr ⟨lw_p6, List.forall_mem_cons.mpr ⟨lw_p7, List.forall_mem_cons.mpr ⟨lw_p8, List.forall_mem_cons.mpr ⟨lw_p9, List.forall_mem_cons.mpr ⟨lw_p10, List.forall_mem_cons.mpr ⟨lw_p11, List.forall_mem_cons.mpr ⟨lw_p12, List.forall_mem_cons.mpr ⟨lw_p13, List.forall_mem_cons.mpr ⟨lw_p14, List.forall_mem_cons.mpr ⟨lw_p15, fun _ h => absurd h List.not_mem_nil⟩⟩⟩⟩⟩⟩⟩⟩⟩⟩⟩⟩⟩⟩⟩⟩
theorem lw_p16 : lw_okq (⟨"DataMaker", "requireSize", "(I)V"⟩, 6) := ⟨⟨by decide +kernel, by decide +kernel⟩, List.mem_of_getElem? (i := 19) (by decide +kernel), List.mem_of_getElem? (i := 552) (by decide +kernel), List.mem_of_getElem? (i := 553) (by decide +kernel)⟩
theorem lw_p17 : lw_okq (⟨"DataMaker", "requireKnown", "(I)V"⟩, 6) := ⟨⟨by decide +kernel, by decide +kernel⟩, List.mem_of_getElem? (i := 19) (by decide +kernel), List.mem_of_getElem? (i := 557) (by decide +kernel), List.mem_of_getElem? (i := 558) (by decide +kernel)⟩
theorem lw_p18 : lw_okq (⟨"DataMaker", "requireProperty", "(I)V"⟩, 6) := ⟨⟨by decide +kernel, by decide +kernel⟩, List.mem_of_getElem? (i := 19) (by decide +kernel), List.mem_of_getElem? (i := 577) (by decide +kernel), List.mem_of_getElem? (i := 578) (by decide +kernel)⟩
theorem lw_p19 : lw_okq (⟨"DataMaker$Told", "parseValue", "(I)LDataMaker$Value;"⟩, 6) := ⟨⟨by decide +kernel, by decide +kernel⟩, List.mem_of_getElem? (i := 180) (by decide +kernel), List.mem_of_getElem? (i := 643) (by decide +kernel), List.mem_of_getElem? (i := 644) (by decide +kernel)⟩
theorem lw_p20 : lw_okq (⟨"DataMaker$Told", "next", "()I"⟩, 6) := ⟨⟨by decide +kernel, by decide +kernel⟩, List.mem_of_getElem? (i := 180) (by decide +kernel), List.mem_of_getElem? (i := 647) (by decide +kernel), List.mem_of_getElem? (i := 648) (by decide +kernel)⟩
theorem lw_p21 : lw_okq (⟨"DataMaker$Told", "parseArgument", "(LDataMaker$Value;I)Z"⟩, 6) := ⟨⟨by decide +kernel, by decide +kernel⟩, List.mem_of_getElem? (i := 180) (by decide +kernel), List.mem_of_getElem? (i := 655) (by decide +kernel), List.mem_of_getElem? (i := 656) (by decide +kernel)⟩
theorem lw_p22 : lw_okq (⟨"DataMaker", "chosen", "()LDataMaker$Value;"⟩, 6) := ⟨⟨by decide +kernel, by decide +kernel⟩, List.mem_of_getElem? (i := 19) (by decide +kernel), List.mem_of_getElem? (i := 682) (by decide +kernel), List.mem_of_getElem? (i := 683) (by decide +kernel)⟩
theorem lw_p23 : lw_okq (⟨"DataMaker$Reductions", "addPartsOf", "(LDataMaker$Value;II)V"⟩, 2) := ⟨⟨by decide +kernel, by decide +kernel⟩, List.mem_of_getElem? (i := 222) (by decide +kernel), List.mem_of_getElem? (i := 738) (by decide +kernel), List.mem_of_getElem? (i := 739) (by decide +kernel)⟩
theorem lw_p24 : lw_okq (⟨"DataMaker$Reductions", "has", "(I)Z"⟩, 2) := ⟨⟨by decide +kernel, by decide +kernel⟩, List.mem_of_getElem? (i := 222) (by decide +kernel), List.mem_of_getElem? (i := 743) (by decide +kernel), List.mem_of_getElem? (i := 744) (by decide +kernel)⟩
theorem lw_p25 : lw_okq (⟨"DataMaker$Reductions", "append", "(LDataMaker$Value;)V"⟩, 2) := ⟨⟨by decide +kernel, by decide +kernel⟩, List.mem_of_getElem? (i := 222) (by decide +kernel), List.mem_of_getElem? (i := 751) (by decide +kernel), List.mem_of_getElem? (i := 752) (by decide +kernel)⟩
theorem lw_p26 : lw_okq (⟨"DataMakerModel", "change", "()V"⟩, 25) := ⟨⟨by decide +kernel, by decide +kernel⟩, List.mem_of_getElem? (i := 779) (by decide +kernel), List.mem_of_getElem? (i := 871) (by decide +kernel), List.mem_of_getElem? (i := 872) (by decide +kernel)⟩
theorem lw_p27 : lw_okq (⟨"DataMakerModel", "fail", "(I)I"⟩, 25) := ⟨⟨by decide +kernel, by decide +kernel⟩, List.mem_of_getElem? (i := 779) (by decide +kernel), List.mem_of_getElem? (i := 879) (by decide +kernel), List.mem_of_getElem? (i := 880) (by decide +kernel)⟩
theorem lw_p28 : lw_okq (⟨"DataMakerModel", "isType", "(I)Z"⟩, 25) := ⟨⟨by decide +kernel, by decide +kernel⟩, List.mem_of_getElem? (i := 779) (by decide +kernel), List.mem_of_getElem? (i := 887) (by decide +kernel), List.mem_of_getElem? (i := 888) (by decide +kernel)⟩
theorem lw_p29 : lw_okq (⟨"DataMakerModel", "make", "()V"⟩, 25) := ⟨⟨by decide +kernel, by decide +kernel⟩, List.mem_of_getElem? (i := 779) (by decide +kernel), List.mem_of_getElem? (i := 902) (by decide +kernel), List.mem_of_getElem? (i := 903) (by decide +kernel)⟩
theorem lw_p30 : lw_okq (⟨"DataMakerModel", "write", "(II)Z"⟩, 25) := ⟨⟨by decide +kernel, by decide +kernel⟩, List.mem_of_getElem? (i := 779) (by decide +kernel), List.mem_of_getElem? (i := 906) (by decide +kernel), List.mem_of_getElem? (i := 907) (by decide +kernel)⟩
theorem lw_p31 : lw_okq (⟨"DataMakerModel", "choices", "(II)[[I"⟩, 25) := ⟨⟨by decide +kernel, by decide +kernel⟩, List.mem_of_getElem? (i := 779) (by decide +kernel), List.mem_of_getElem? (i := 910) (by decide +kernel), List.mem_of_getElem? (i := 911) (by decide +kernel)⟩
def lw_privs_2 : List (MethodName × Nat) := [(⟨"DataMaker", "requireSize", "(I)V"⟩, 6), (⟨"DataMaker", "requireKnown", "(I)V"⟩, 6), (⟨"DataMaker", "requireProperty", "(I)V"⟩, 6), (⟨"DataMaker$Told", "parseValue", "(I)LDataMaker$Value;"⟩, 6), (⟨"DataMaker$Told", "next", "()I"⟩, 6), (⟨"DataMaker$Told", "parseArgument", "(LDataMaker$Value;I)Z"⟩, 6), (⟨"DataMaker", "chosen", "()LDataMaker$Value;"⟩, 6), (⟨"DataMaker$Reductions", "addPartsOf", "(LDataMaker$Value;II)V"⟩, 2), (⟨"DataMaker$Reductions", "has", "(I)Z"⟩, 2), (⟨"DataMaker$Reductions", "append", "(LDataMaker$Value;)V"⟩, 2), (⟨"DataMakerModel", "change", "()V"⟩, 25), (⟨"DataMakerModel", "fail", "(I)I"⟩, 25), (⟨"DataMakerModel", "isType", "(I)Z"⟩, 25), (⟨"DataMakerModel", "make", "()V"⟩, 25), (⟨"DataMakerModel", "write", "(II)Z"⟩, 25), (⟨"DataMakerModel", "choices", "(II)[[I"⟩, 25)]
theorem lw_r2 : ∀ q ∈ lw_privs_2, lw_okq q := List.forall_mem_cons.mpr ⟨lw_p16, List.forall_mem_cons.mpr ⟨lw_p17, List.forall_mem_cons.mpr ⟨lw_p18, List.forall_mem_cons.mpr ⟨lw_p19, List.forall_mem_cons.mpr ⟨lw_p20, List.forall_mem_cons.mpr ⟨lw_p21, List.forall_mem_cons.mpr ⟨lw_p22, List.forall_mem_cons.mpr ⟨lw_p23, List.forall_mem_cons.mpr ⟨lw_p24, List.forall_mem_cons.mpr ⟨lw_p25, List.forall_mem_cons.mpr ⟨lw_p26, List.forall_mem_cons.mpr ⟨lw_p27, List.forall_mem_cons.mpr ⟨lw_p28, List.forall_mem_cons.mpr ⟨lw_p29, List.forall_mem_cons.mpr ⟨lw_p30, List.forall_mem_cons.mpr ⟨lw_p31, fun _ h => absurd h List.not_mem_nil⟩⟩⟩⟩⟩⟩⟩⟩⟩⟩⟩⟩⟩⟩⟩⟩
theorem lw_p32 : lw_okq (⟨"DataMakerModel", "value", "(II)I"⟩, 25) := ⟨⟨by decide +kernel, by decide +kernel⟩, List.mem_of_getElem? (i := 779) (by decide +kernel), List.mem_of_getElem? (i := 914) (by decide +kernel), List.mem_of_getElem? (i := 915) (by decide +kernel)⟩
theorem lw_p33 : lw_okq (⟨"DataMakerModel", "look", "([IIII)I"⟩, 25) := ⟨⟨by decide +kernel, by decide +kernel⟩, List.mem_of_getElem? (i := 779) (by decide +kernel), List.mem_of_getElem? (i := 924) (by decide +kernel), List.mem_of_getElem? (i := 925) (by decide +kernel)⟩
theorem lw_p34 : lw_okq (⟨"DataMakerModel", "isTrue", "(I[IIIII)Z"⟩, 25) := ⟨⟨by decide +kernel, by decide +kernel⟩, List.mem_of_getElem? (i := 779) (by decide +kernel), List.mem_of_getElem? (i := 934) (by decide +kernel), List.mem_of_getElem? (i := 935) (by decide +kernel)⟩
theorem lw_p35 : lw_okq (⟨"DataMakerModel", "end", "([II)I"⟩, 25) := ⟨⟨by decide +kernel, by decide +kernel⟩, List.mem_of_getElem? (i := 779) (by decide +kernel), List.mem_of_getElem? (i := 938) (by decide +kernel), List.mem_of_getElem? (i := 939) (by decide +kernel)⟩
theorem lw_p36 : lw_okq (⟨"DataMakerModel", "asks", "(II)Z"⟩, 25) := ⟨⟨by decide +kernel, by decide +kernel⟩, List.mem_of_getElem? (i := 779) (by decide +kernel), List.mem_of_getElem? (i := 946) (by decide +kernel), List.mem_of_getElem? (i := 947) (by decide +kernel)⟩
theorem lw_p37 : lw_okq (⟨"DataMakerModel", "upTo", "(II)I"⟩, 25) := ⟨⟨by decide +kernel, by decide +kernel⟩, List.mem_of_getElem? (i := 779) (by decide +kernel), List.mem_of_getElem? (i := 950) (by decide +kernel), List.mem_of_getElem? (i := 951) (by decide +kernel)⟩
theorem lw_p38 : lw_okq (⟨"DataMakerModel", "isTrueOf", "(II)Z"⟩, 25) := ⟨⟨by decide +kernel, by decide +kernel⟩, List.mem_of_getElem? (i := 779) (by decide +kernel), List.mem_of_getElem? (i := 962) (by decide +kernel), List.mem_of_getElem? (i := 963) (by decide +kernel)⟩
theorem lw_p39 : lw_okq (⟨"DataMakerModel", "choose", "(II)V"⟩, 25) := ⟨⟨by decide +kernel, by decide +kernel⟩, List.mem_of_getElem? (i := 779) (by decide +kernel), List.mem_of_getElem? (i := 970) (by decide +kernel), List.mem_of_getElem? (i := 971) (by decide +kernel)⟩
theorem lw_p40 : lw_okq (⟨"DataMakerModel", "find", "(I[II)I"⟩, 25) := ⟨⟨by decide +kernel, by decide +kernel⟩, List.mem_of_getElem? (i := 779) (by decide +kernel), List.mem_of_getElem? (i := 988) (by decide +kernel), List.mem_of_getElem? (i := 989) (by decide +kernel)⟩
theorem lw_p41 : lw_okq (⟨"DataMakerModel", "has", "()Z"⟩, 25) := ⟨⟨by decide +kernel, by decide +kernel⟩, List.mem_of_getElem? (i := 779) (by decide +kernel), List.mem_of_getElem? (i := 996) (by decide +kernel), List.mem_of_getElem? (i := 997) (by decide +kernel)⟩
theorem lw_p42 : lw_okq (⟨"DataMakerModel", "current", "()I"⟩, 25) := ⟨⟨by decide +kernel, by decide +kernel⟩, List.mem_of_getElem? (i := 779) (by decide +kernel), List.mem_of_getElem? (i := 1000) (by decide +kernel), List.mem_of_getElem? (i := 1001) (by decide +kernel)⟩
theorem lw_p43 : lw_okq (⟨"DataMakerModel", "findReductions", "()V"⟩, 25) := ⟨⟨by decide +kernel, by decide +kernel⟩, List.mem_of_getElem? (i := 779) (by decide +kernel), List.mem_of_getElem? (i := 1028) (by decide +kernel), List.mem_of_getElem? (i := 1029) (by decide +kernel)⟩
theorem lw_p44 : lw_okq (⟨"DataMakerModel", "add", "(I)V"⟩, 25) := ⟨⟨by decide +kernel, by decide +kernel⟩, List.mem_of_getElem? (i := 779) (by decide +kernel), List.mem_of_getElem? (i := 1032) (by decide +kernel), List.mem_of_getElem? (i := 1033) (by decide +kernel)⟩
def lw_privs_3 : List (MethodName × Nat) := [(⟨"DataMakerModel", "value", "(II)I"⟩, 25), (⟨"DataMakerModel", "look", "([IIII)I"⟩, 25), (⟨"DataMakerModel", "isTrue", "(I[IIIII)Z"⟩, 25), (⟨"DataMakerModel", "end", "([II)I"⟩, 25), (⟨"DataMakerModel", "asks", "(II)Z"⟩, 25), (⟨"DataMakerModel", "upTo", "(II)I"⟩, 25), (⟨"DataMakerModel", "isTrueOf", "(II)Z"⟩, 25), (⟨"DataMakerModel", "choose", "(II)V"⟩, 25), (⟨"DataMakerModel", "find", "(I[II)I"⟩, 25), (⟨"DataMakerModel", "has", "()Z"⟩, 25), (⟨"DataMakerModel", "current", "()I"⟩, 25), (⟨"DataMakerModel", "findReductions", "()V"⟩, 25), (⟨"DataMakerModel", "add", "(I)V"⟩, 25)]
theorem lw_r3 : ∀ q ∈ lw_privs_3, lw_okq q := List.forall_mem_cons.mpr ⟨lw_p32, List.forall_mem_cons.mpr ⟨lw_p33, List.forall_mem_cons.mpr ⟨lw_p34, List.forall_mem_cons.mpr ⟨lw_p35, List.forall_mem_cons.mpr ⟨lw_p36, List.forall_mem_cons.mpr ⟨lw_p37, List.forall_mem_cons.mpr ⟨lw_p38, List.forall_mem_cons.mpr ⟨lw_p39, List.forall_mem_cons.mpr ⟨lw_p40, List.forall_mem_cons.mpr ⟨lw_p41, List.forall_mem_cons.mpr ⟨lw_p42, List.forall_mem_cons.mpr ⟨lw_p43, List.forall_mem_cons.mpr ⟨lw_p44, fun _ h => absurd h List.not_mem_nil⟩⟩⟩⟩⟩⟩⟩⟩⟩⟩⟩⟩⟩
def lw_privs : List (MethodName × Nat) := lw_privs_1 ++ (lw_privs_2 ++ (lw_privs_3))
def lw_tbl : List Cond := k2_sels lw_privs ++ tables_1
theorem lw_privs_ok : ∀ q ∈ lw_privs, lw_okq q := by
  show ∀ q ∈ lw_privs_1 ++ (lw_privs_2 ++ (lw_privs_3)), lw_okq q
  exact List.forall_mem_append.mpr ⟨lw_r1, List.forall_mem_append.mpr ⟨lw_r2, lw_r3⟩⟩
/-- the streams that the claim lets the run draw from -/
abbrev lw_cs : List Choice := [Jvm.Choice.named "NaN.bits"]
theorem lw_bits : nanBits ∈ lw_cs := by first | decide | exact List.mem_cons_self | simp [lw_cs, nanBits]
end
section
/-! ===== BEGIN words of one list among another's, by their places ===== -/
theorem goodIn_r {big : List Cond} (ws : List Cond) (ps : List Nat) (hp : ws = ps.filterMap (fun i => big[i]?)) (h : ws.all goodWord = true) : GoodIn big ws := by
  intro w hw
  have h1 := List.all_eq_true.mp h w hw
  rw [hp] at hw
  obtain ⟨i, -, hi⟩ := List.mem_filterMap.mp hw
  have hm : w ∈ big := by first | exact List.mem_of_getElem? hi | exact List.getElem?_mem hi
  exact ⟨hm, good_of_word h1⟩
theorem goodIn_app {big a b : List Cond} (ha : GoodIn big a) (hb : GoodIn big b) : GoodIn big (a ++ b) := fun w h => (List.mem_append.mp h).elim (ha w) (hb w)
theorem goodIn_ca {big a b : List Cond} {c : Cond} (ha : GoodIn big (c :: a)) (hb : GoodIn big b) : GoodIn big (c :: (a ++ b)) := fun w h => (List.mem_cons.mp h).elim (fun e => ha w (List.mem_cons.mpr (Or.inl e))) (fun h => (List.mem_append.mp h).elim (fun h => ha w (List.mem_cons.mpr (Or.inr h))) (hb w))
theorem goodIn_sub {big ws : List Cond} (hm : ∀ w ∈ ws, w ∈ big) (h : ws.all goodWord = true) : GoodIn big ws := fun w hw => ⟨hm w hw, good_of_word (List.all_eq_true.mp h w hw)⟩
/-! ===== END ===== -/

/-! ===== BEGIN exceptions that leave a method, and their catching by the caller (launches without stack traces) ===== -/
section VXA
/-! The laws vx_back, vx_callV, vx_callS, vx_callSW, vx_throw0, vx_throwS follow proofs of the library, with one case more: JvmDerived/Free/Laws.lean (Back.of_free), Shelf42/LK1.lean (callV, callS), Shelf/KitTraced.lean (throwNew0V, throwNewS). -/
/-- where a method has thrown q: the class by its name, the cell, what was written, the world -/
def vx_T (XC : String → State → State → Prop) (st : State) (q : Addr) (t : State) (mc ms : Nat) (free : Addr → Prop) : Prop :=
  ∃ (E : String) (ce : Cell) (L : List Loc), XC E st t ∧ t.heap[q]? = some ce ∧ ce.vm = .none ∧ st.vm.findClass E = some ce.cls ∧ st.WarmedH t.vm ∧ st.sameButNew ({ t with vm := st.vm } : State) L mc ms ∧ ∀ z ∈ L, free z.base
def vx_Q (Qc : Array Value → State → Outcome → State → Prop) (XC : String → State → State → Prop) (mc ms : Nat) (free : Addr → Prop) : Array Value → State → Outcome → State → Prop := fun a st o t =>
  (Qc a st o t ∧ ∃ L, FrameEnd st o t L mc ms ∧ ∀ q ∈ L, free q.base) ∨ ∃ q, o = .threw q ∧ vx_T XC st q t mc ms free
/-- a callee that returns or throws -/
def vx_Met (l : Launch) (y : MethodName) (ws : List Cond) (rm : Room) (Pc : Array Value → State → Prop) (Qc : Array Value → State → Outcome → State → Prop) (XC : String → State → State → Prop) (mc ms : Nat) (free : Addr → Prop) : Prop :=
  MetFree l y (headSpec ws rm) Pc (fun _ _ _ _ _ => True) (vx_Q Qc XC mc ms free)
def vx_Post (XC : String → State → State → Prop) (mc ms : Nat) (free : Addr → Prop) : Pt → Array Value → Addr → Pt → Prop := fun A a q B =>
  ∃ (g : JFrame) (mk : MethodId) (t : State) (L : List Loc) (E : String) (ce : Cell), B.U.heap = t.heap ∧ B.U.vm = t.vm ∧ XC E (A.U.calling g mk a) t ∧ t.heap[q]? = some ce ∧ ce.vm = .none ∧ A.U.vm.findClass E = some ce.cls ∧ B.locs = A.locs ++ L ∧ (∀ z ∈ L, free z.base) ∧ B.cells = A.cells + mc ∧ B.slots = A.slots + ms
def vx_Back (l : Launch) (R : Room) (p : Program) (e : Env) (below : List Frame) (s : State) (sargs : Array Value) (y : MethodName) (len W9 : Nat)
    (Pre : Pt → Array Value → Prop) (Post : Pt → Array Value → Option Value → Pt → Prop) (PostX : Pt → Array Value → Addr → Pt → Prop) : Prop :=
  ∀ (m : MethodId) (meth : Method) (c : Code) (A : Pt) (g : JFrame) (ig : Instr) (mk : MethodId) (a : Array Value),
    Stand p l e R s m sargs below meth c A.U A.locs A.cells A.slots → g.method = m → g.locals.size = c.maxLocals → decode c.code g.pc = .ok (ig, len) →
    2 * g.monitorRoom + (g.stack.map fun v => v.category).sum ≤ W9 → A.U.methodNamed? y = some mk → Pre A a →
    (∃ (v : Option Value) (B : Pt), Stand p l e R s m sargs below meth c B.U B.locs B.cells B.slots ∧ Post A a v B ∧
      Steps p.tables e below (doInvoke e (A.U.setTop g) [] mk a).1 (B.U.setTop { g with pc := g.pc + len, stack := v.toList ++ g.stack })) ∨
    (∃ (q : Addr) (B : Pt), Stand p l e R s m sargs below meth c B.U B.locs B.cells B.slots ∧ PostX A a q B ∧
      Steps p.tables e below (doInvoke e (A.U.setTop g) [] mk a).1 ((B.U.setTop g).pushFrame (.throwing q)))
section Payer
variable {l : Launch} {R : Room} {p : Program} {e : Env} {below : List Frame} {s : State} {sargs : Array Value} {y : MethodName} {len W9 : Nat}
theorem vx_back {ws : List Cond} {rm : Room} {Pc : Array Value → State → Prop} {Qc : Array Value → State → Outcome → State → Prop} {XC : String → State → State → Prop} {mc ms : Nat} {free : Addr → Prop} {bytes : ByteArray} {maxL : Nat} {ret : Option FieldType}
    (hM : vx_Met l y ws rm Pc Qc XC mc ms free) (hblind : FrameBlind Pc) (hrc : rm.cells = mc) (hrs : rm.slots = ms)
    (hframes : rm.frames + 1 ≤ R.frames) (hlocals : W9 + (maxL + 11) + rm.locals ≤ R.locals)
    (hws : ∀ w ∈ ws, ∀ a' U, s.WarmedH U.vm → w.before a' U = true) (hcode : Cond.code y bytes maxL ret ∈ ws) (hinit : ∀ a' U, s.WarmedH U.vm → (Cond.initialized y.cls).before a' U = true) :
    vx_Back l R p e below s sargs y len W9 (PreOf R mc ms Pc) (PostOf Qc mc ms free) (vx_Post XC mc ms free) := by
  intro m meth c A g ig mk a X hg hsize hdg hW hn hp
  have h1 : (headSpec ws rm).pre.before a A.U = true := atoms_intro fun w hw => hws w hw _ _ X.warmed
  have h2 : (Cond.code y bytes maxL ret).before a A.U = true := hws _ hcode _ _ X.warmed
  have h3 : (Cond.initialized y.cls).before a A.U = true := hinit _ _ X.warmed
  have h4 : A.cells + (headSpec ws rm).room.cells ≤ R.cells := by rw [show (headSpec ws rm).room.cells = mc from hrc]; exact hp.1
  have h5 : A.slots + (headSpec ws rm).room.slots ≤ R.slots := by rw [show (headSpec ws rm).room.slots = ms from hrs]; exact hp.2.1
  have hPc : Pc a (A.U.calling g mk a) := hblind _ _ _ _ hp.2.2
  obtain ⟨U, Ls, c0, s0⟩ := A
  dsimp only [Pt.U, Pt.locs, Pt.cells, Pt.slots] at h1 h2 h3 h4 h5 X hn hPc ⊢
  obtain ⟨methY, cY, hmY, hcY, -, hlY, -, -, -, -⟩ := Cond.code_spec hn h2
  obtain ⟨kY, hkY, -⟩ := className_of_methodNamed hn
  have hinitY : kY.init = .initialized := Cond.initialized_spec (findClass_of_methodNamed hn) hkY h3
  have h : At U g.method c below := by rw [hg]; exact X.here
  have hlocals9 : W9 + (maxL + 11) + (headSpec ws rm).room.locals ≤ R.locals := hlocals
  have happ : (headSpec ws rm).appliesLoose y e.platform (U.calling g mk a) = true :=
    Spec.appliesLoose_calling (g := g) h hdg hn hkY hinitY
      (X.room_calling (g := g) (R' := (headSpec ws rm).room) hsize hmY hcY hframes (by rw [hlY]; omega) h4 h5) h1
  obtain ⟨mid, hmid⟩ := h.above
  have hfr : (U.setTop g).frames = (.java g :: mid) ++ below := by rw [State.frames_setTop' g h.top, hmid]; rfl
  obtain ⟨o, s₂, hsteps, -, hend, hq⟩ := Steps.callFree hM p X.admits X.cas X.clock (acts := []) hfr happ hPc trivial
  have hq' : vx_Q Qc XC mc ms free a (U.calling g mk a) o s₂ := hq
  rw [State.frames_setTop' g h.top] at hend
  obtain ⟨g₀, hg0⟩ := Option.isSome_iff_exists.mp h.top
  obtain ⟨r, hr⟩ := State.topJava?_eq_some.mp hg0
  have hr' : (({ U with heap := s₂.heap, slotsUsed := s₂.slotsUsed } : State).setVm s₂.vm).frames = .java g₀ :: r := hr
  rcases hq' with ⟨hqc, L, hfe, hL⟩ | ⟨q, rfl, E, ce, L, hx, hce, hcv, hcl, hW₂, hsm, hL⟩
  · obtain ⟨⟨v, rfl⟩, hW₂, e2, q2, q3, q4, q5, q6⟩ := id hfe
    have e3 : s₂ = ({ (U.calling g mk a).setFrames s₂.frames with heap := s₂.heap, slotsUsed := s₂.slotsUsed } : State).setVm s₂.vm := by
      have : s₂ = ({ s₂ with vm := (U.calling g mk a).vm } : State).setVm s₂.vm := rfl
      rw [e2] at this
      exact this
    obtain ⟨c₂, i₂, len₂, hc₂, hd₂, hf₂⟩ := hend
    have hW' : U.WarmedH s₂.vm := hW₂
    have hcc : c₂ = c := by
      have h1 : s₂.code? g.method = U.code? g.method := by
        rw [State.code?_eq, State.code?_eq, hW'.alike.method?]
      exact Option.some.inj (hc₂.symm.trans (h1.trans h.code))
    subst hcc
    have hlen : len₂ = len := by rw [hdg] at hd₂; cases hd₂; rfl
    subst hlen
    have hs₂ : s₂ = (({ U with heap := s₂.heap, slotsUsed := s₂.slotsUsed } : State).setVm s₂.vm).setTop { g with pc := g.pc + len₂, stack := v.toList ++ g.stack } := by
      refine e3.trans ?_
      rw [hf₂, State.calling_eq h.top, State.setFrames_setFrames, State.setTop_of_frames _ hr', hr]
      rfl
    have hsame : U.sameButNew ({ U with heap := s₂.heap, slotsUsed := s₂.slotsUsed } : State) L mc ms := by
      refine ⟨?_, q2, q3, q4, q5, q6⟩
      obtain ⟨t, ht, -⟩ := State.frames_cons hr
      show ({ U with heap := s₂.heap, slotsUsed := s₂.slotsUsed } : State) = { U.setFrames U.frames with heap := s₂.heap, slotsUsed := s₂.slotsUsed }
      rw [State.setFrames_self ht]
    subst hg
    refine Or.inl ⟨v, ⟨(({ U with heap := s₂.heap, slotsUsed := s₂.slotsUsed } : State).setVm s₂.vm), Ls ++ L, c0 + mc, s0 + ms⟩,
      ⟨X.admits, X.cas, X.clock, X.frames, X.room, X.hears, X.method, X.code, (X.here.setHeapUsed s₂.heap s₂.slotsUsed).setVm hW'.alike, X.tail, State.WarmedH.trans X.warmed hW', X.limits, X.bytes, X.same.trans (hsame.setVm s.vm)⟩,
      ⟨g, mk, s₂, L, rfl, rfl, hqc, rfl, hL, rfl, rfl⟩, ?_⟩
    show Steps p.tables e below _ ((({ U with heap := s₂.heap, slotsUsed := s₂.slotsUsed } : State).setVm s₂.vm).setTop { g with pc := g.pc + len₂, stack := v.toList ++ g.stack })
    rw [← hs₂]
    exact hsteps
  · obtain ⟨e2, q2, q3, q4, q5, q6⟩ := id hsm
    have e3 : s₂ = ({ (U.calling g mk a).setFrames s₂.frames with heap := s₂.heap, slotsUsed := s₂.slotsUsed } : State).setVm s₂.vm := by
      have : s₂ = ({ s₂ with vm := (U.calling g mk a).vm } : State).setVm s₂.vm := rfl
      rw [e2] at this
      exact this
    have hf₂ : s₂.frames = .throwing q :: .java g :: U.frames.tail := hend
    have hW' : U.WarmedH s₂.vm := hW₂
    have hs₂ : s₂ = ((({ U with heap := s₂.heap, slotsUsed := s₂.slotsUsed } : State).setVm s₂.vm).setTop g).pushFrame (.throwing q) := by
      refine e3.trans ?_
      rw [hf₂, State.calling_eq h.top, State.setFrames_setFrames, State.pushFrame, State.frames_setTop _ hr', State.setTop_of_frames _ hr', State.setFrames_setFrames, hr]
      rfl
    have hsame : U.sameButNew ({ U with heap := s₂.heap, slotsUsed := s₂.slotsUsed } : State) L mc ms := by
      refine ⟨?_, q2, q3, q4, q5, q6⟩
      obtain ⟨t, ht, -⟩ := State.frames_cons hr
      show ({ U with heap := s₂.heap, slotsUsed := s₂.slotsUsed } : State) = { U.setFrames U.frames with heap := s₂.heap, slotsUsed := s₂.slotsUsed }
      rw [State.setFrames_self ht]
    subst hg
    refine Or.inr ⟨q, ⟨(({ U with heap := s₂.heap, slotsUsed := s₂.slotsUsed } : State).setVm s₂.vm), Ls ++ L, c0 + mc, s0 + ms⟩,
      ⟨X.admits, X.cas, X.clock, X.frames, X.room, X.hears, X.method, X.code, (X.here.setHeapUsed s₂.heap s₂.slotsUsed).setVm hW'.alike, X.tail, State.WarmedH.trans X.warmed hW', X.limits, X.bytes, X.same.trans (hsame.setVm s.vm)⟩,
      ⟨g, mk, s₂, L, E, ce, rfl, rfl, hx, hce, hcv, hcl, rfl, hL, rfl, rfl⟩, ?_⟩
    show Steps p.tables e below _ (((({ U with heap := s₂.heap, slotsUsed := s₂.slotsUsed } : State).setVm s₂.vm).setTop g).pushFrame (.throwing q))
    rw [← hs₂]
    exact hsteps
end Payer
section Calls
variable {p : Program} {l : Launch} {e : Env} {R : Room} {s : State} {m : MethodId} {args : Array Value} {below : List Frame} {meth : Method} {c : Code} {T : State} {locs : List Loc} {cells slots : Nat}
theorem vx_callV (X : Stand p l e R s m args below meth c T locs cells slots) (hexec : p.tables.exec = Jvm.exec) {own C : String} {index : Nat} {y : MethodName} {bytes : ByteArray} {maxL : Nat} {ret : Option FieldType}
    (hown : s.vm.findClass own = some m.cls) (hlink : (Cond.methodLink own index y).before args s = true) (hinst : (Cond.instanceMethod y).before args s = true) (hsel : (Cond.selects C y y).before args s = true)
    (hcode : (Cond.code y bytes maxL ret).before args s = true) (hy : y.cls ≠ "java/lang/invoke/MethodHandle" ∧ y.cls ≠ "java/lang/invoke/VarHandle")
    {W9 : Nat} {Pre : Pt → Array Value → Prop} {Post : Pt → Array Value → Option Value → Pt → Prop} {PostX : Pt → Array Value → Addr → Pt → Prop} (hK : vx_Back l R p e below s args y 3 W9 Pre Post PostX)
    {b : Addr} {cellB : Cell} (hcell : T.heap[b]? = some cellB) (hobj : cellB.vm.isStatics = false) (hcls : s.vm.findClass C = some cellB.cls)
    {g : JFrame} (hg : g.method = m) (hsize : g.locals.size = c.maxLocals) {argsL rest : List Value} (hlen : ∀ sig, parseMethodDescriptor y.desc = some sig → argsL.length = sig.parameters.length)
    (hstack : g.stack = argsL.reverse ++ .ref b :: rest) (hW : 2 * g.monitorRoom + (rest.map fun v => v.category).sum ≤ W9) (hdg : decode c.code g.pc = .ok (.invokevirtual index, 3))
    (hpre : ∀ vm₁, s.WarmedH vm₁ → Pre ⟨T.setVm vm₁, locs, cells, slots⟩ (Value.ref b :: argsL).toArray) :
    (∃ (v : Option Value) (vm₁ : Vm) (B : Pt), s.WarmedH vm₁ ∧ Stand p l e R s m args below meth c B.U B.locs B.cells B.slots ∧ Post ⟨T.setVm vm₁, locs, cells, slots⟩ (Value.ref b :: argsL).toArray v B ∧
      ∀ target, Steps p.tables e below (B.U.setTop { g with pc := g.pc + 3, stack := v.toList ++ rest }) target → Steps p.tables e below (T.setTop g) target) ∨
    (∃ (q : Addr) (vm₁ : Vm) (B : Pt), s.WarmedH vm₁ ∧ Stand p l e R s m args below meth c B.U B.locs B.cells B.slots ∧ PostX ⟨T.setVm vm₁, locs, cells, slots⟩ (Value.ref b :: argsL).toArray q B ∧
      Steps p.tables e below (T.setTop g) ((B.U.setTop { g with stack := rest }).pushFrame (.throwing q))) := by
  obtain ⟨mk, methM, hnamed, hmethM, hstM, habM⟩ := Cond.instanceMethod_spec hinst
  obtain ⟨methM', cM, hmethM', -, -, -, -, -, -, hsigM⟩ := Cond.code_spec hnamed hcode
  cases hmethM.symm.trans hmethM'
  obtain ⟨c2, r2, m2, q1, q2, q3, q4, kP, hkP, hkPi⟩ := Cond.selects_spec hsel
  cases hcls.symm.trans q1
  cases (State.methodFound?_of_named hnamed hy).symm.trans q2
  cases hnamed.symm.trans q3
  have hselP : selectMethod e.platform s.vm cellB.cls mk = .method mk := by rw [Launch.admits_selectMethod X.admits]; exact q4
  obtain ⟨vm₁, X₁, hstep₁⟩ := X.invokevirtual hexec hown hlink hnamed hmethM hstM hkP hkPi hy (a := b) (cell := cellB) hcell
    (fun z h => by rw [h] at hobj; cases hobj) hselP hmethM habM hkP hkPi (g := g) hg (argsL := argsL) (rest := rest) (hlen _ hsigM) hstack hdg
  rcases hK m meth c ⟨T.setVm vm₁, locs, cells, slots⟩ { g with stack := rest } (.invokevirtual index) mk (Value.ref b :: argsL).toArray X₁ hg hsize hdg hW (X₁.named hnamed) (hpre vm₁ X₁.warmed) with ⟨v, B, X', hpost, hsteps⟩ | ⟨q, B, X', hpost, hsteps⟩
  · exact Or.inl ⟨v, vm₁, B, X₁.warmed, X', hpost, fun target h => hstep₁ _ fun acts => by rw [doInvoke_state]; exact hsteps.trans h⟩
  · exact Or.inr ⟨q, vm₁, B, X₁.warmed, X', hpost, hstep₁ _ fun acts => by rw [doInvoke_state]; exact hsteps⟩
theorem vx_callS (X : Stand p l e R s m args below meth c T locs cells slots) (hexec : p.tables.exec = Jvm.exec) {own : String} {index : Nat} {y : MethodName} {bytes : ByteArray} {maxL : Nat} {ret : Option FieldType}
    (hown : s.vm.findClass own = some m.cls) (hlink : (Cond.methodLink own index y).before args s = true) (hstat : (Cond.static y).before args s = true) (hinit : (Cond.initialized y.cls).before args s = true)
    (hcode : (Cond.code y bytes maxL ret).before args s = true) (hy : y.cls ≠ "java/lang/invoke/MethodHandle" ∧ y.cls ≠ "java/lang/invoke/VarHandle")
    {W9 : Nat} {Pre : Pt → Array Value → Prop} {Post : Pt → Array Value → Option Value → Pt → Prop} {PostX : Pt → Array Value → Addr → Pt → Prop} (hK : vx_Back l R p e below s args y 3 W9 Pre Post PostX)
    {g : JFrame} (hg : g.method = m) (hsize : g.locals.size = c.maxLocals) {argsL rest : List Value} (hlen : ∀ sig, parseMethodDescriptor y.desc = some sig → argsL.length = sig.parameters.length)
    (hstack : g.stack = argsL.reverse ++ rest) (hW : 2 * g.monitorRoom + (rest.map fun v => v.category).sum ≤ W9) (hdg : decode c.code g.pc = .ok (.invokestatic index, 3))
    (hpre : ∀ vm₁, s.WarmedH vm₁ → Pre ⟨T.setVm vm₁, locs, cells, slots⟩ argsL.toArray) :
    (∃ (v : Option Value) (vm₁ : Vm) (B : Pt), s.WarmedH vm₁ ∧ Stand p l e R s m args below meth c B.U B.locs B.cells B.slots ∧ Post ⟨T.setVm vm₁, locs, cells, slots⟩ argsL.toArray v B ∧
      ∀ target, Steps p.tables e below (B.U.setTop { g with pc := g.pc + 3, stack := v.toList ++ rest }) target → Steps p.tables e below (T.setTop g) target) ∨
    (∃ (q : Addr) (vm₁ : Vm) (B : Pt), s.WarmedH vm₁ ∧ Stand p l e R s m args below meth c B.U B.locs B.cells B.slots ∧ PostX ⟨T.setVm vm₁, locs, cells, slots⟩ argsL.toArray q B ∧
      Steps p.tables e below (T.setTop g) ((B.U.setTop { g with stack := rest }).pushFrame (.throwing q))) := by
  obtain ⟨mk, hnamed⟩ := Cond.code_named hcode
  obtain ⟨methM, cM, hmethM, -, -, -, -, -, -, hsigM⟩ := Cond.code_spec hnamed hcode
  have hstatic : methM.isStatic = true := Cond.static_spec hnamed hmethM hstat
  obtain ⟨kP, hkP, -⟩ := className_of_methodNamed hnamed
  have hinitP : kP.init = .initialized := Cond.initialized_spec (findClass_of_methodNamed hnamed) hkP hinit
  obtain ⟨vm₁, X₁, hstep₁⟩ := X.invokestatic hexec hown hlink hnamed hmethM hstatic hkP hinitP hy (g := g) hg (argsL := argsL) (rest := rest) (hlen _ hsigM) hstack hdg
  rcases hK m meth c ⟨T.setVm vm₁, locs, cells, slots⟩ { g with stack := rest } (.invokestatic index) mk argsL.toArray X₁ hg hsize hdg hW (X₁.named hnamed) (hpre vm₁ X₁.warmed) with ⟨v, B, X', hpost, hsteps⟩ | ⟨q, B, X', hpost, hsteps⟩
  · exact Or.inl ⟨v, vm₁, B, X₁.warmed, X', hpost, fun target h => hstep₁ _ fun acts => by rw [doInvoke_state]; exact hsteps.trans h⟩
  · exact Or.inr ⟨q, vm₁, B, X₁.warmed, X', hpost, hstep₁ _ fun acts => by rw [doInvoke_state]; exact hsteps⟩
end Calls
theorem vx_cls {s : State} {T : State} {vm₁ : Vm} {E : String} {k : ClassId} (hW : s.WarmedH vm₁) (h : (T.setVm vm₁).vm.findClass E = some k) : s.vm.findClass E = some k := by
  have h1 : vm₁.findClass E = some k := h
  rw [hW.alike.findClass] at h1
  exact h1
/-- the method's frame g, with q thrown over it -/
def vx_W (p : Program) (l : Launch) (e : Env) (R : Room) (s : State) (m : MethodId) (args : Array Value) (below : List Frame) (meth : Method) (c : Code) (H : Heap) (locs : List Loc) (cells slots : Nat) (Q : State → Prop) (g : JFrame) (q : Addr) : Prop :=
  ∀ T : State, T.heap = H → Stand p l e R s m args below meth c T locs cells slots → ∃ t, Steps p.tables e below ((T.setTop g).pushFrame (.throwing q)) t ∧ Q t
def vx_Run (p : Program) (l : Launch) (e : Env) (R : Room) (s : State) (m : MethodId) (args : Array Value) (below : List Frame) (meth : Method) (c : Code) (H : Heap) (locs : List Loc) (cells slots mc ms : Nat) (g : JFrame) (rest : List Value) (Qa : State → Outcome → State → Prop) (XC : String → State → State → Prop) (free : Addr → Prop) : Prop :=
  ∀ T : State, T.heap = H → Stand p l e R s m args below meth c T locs cells slots →
    (∃ (v : Option Value) (st₀ t T' : State) (L : List Loc), st₀.heap = H ∧ Stand p l e R s m args below meth c T' (locs ++ L) (cells + mc) (slots + ms) ∧ (∀ q ∈ L, free q.base) ∧ T'.heap = t.heap ∧ T'.vm = t.vm ∧ Qa st₀ (.returned v) t ∧
      Goes p e below T g T' { g with pc := g.pc + 3, stack := v.toList ++ rest }) ∨
    (∃ (q : Addr) (st₀ t T' : State) (L : List Loc) (E : String) (ce : Cell), st₀.heap = H ∧ Stand p l e R s m args below meth c T' (locs ++ L) (cells + mc) (slots + ms) ∧ (∀ z ∈ L, free z.base) ∧ T'.heap = t.heap ∧ T'.vm = t.vm ∧ XC E st₀ t ∧ t.heap[q]? = some ce ∧ ce.vm = .none ∧ s.vm.findClass E = some ce.cls ∧
      Steps p.tables e below (T.setTop g) ((T'.setTop { g with stack := rest }).pushFrame (.throwing q)))
def vx_X {S : Type} (px : S → Prop) (B : String → S → State → Prop) (A : Nat → Prop) : String → State → State → Prop := fun E st t => ∃ u : S, px u ∧ B E u t ∧ va_F A st t
section Runs
variable {p : Program} {l : Launch} {e : Env} {R : Room} {s : State} {m : MethodId} {args : Array Value} {below : List Frame} {meth : Method} {c : Code} {H : Heap} {locs : List Loc} {cells slots : Nat}
variable {y : MethodName} {bytes cc : ByteArray} {maxL nL mc ms n index : Nat} {ret : Option FieldType} {ws : List Cond} {rm : Room} {Pc : Array Value → State → Prop} {Qc : Array Value → State → Outcome → State → Prop} {XC : String → State → State → Prop} {free : Addr → Prop} {Ts : List Cond} {own C : String} {b : Addr} {As rest : List Value} {g : JFrame}
theorem vx_callBack (cb : CallB R s args own index y bytes maxL ret ws rm mc ms n) (hM : vx_Met l y ws rm Pc Qc XC mc ms free) (hbl : FrameBlind Pc) : vx_Back l R p e below s args y 3 8 (PreOf R mc ms Pc) (PostOf Qc mc ms free) (vx_Post XC mc ms free) := by
  obtain ⟨hrc, hrs, hfr, hlo, hws, hcw, -, hini, -⟩ := cb
  exact vx_back (bytes := bytes) (maxL := maxL) (ret := ret) hM hbl hrc hrs hfr hlo hws hcw (fun a' U hW => word_at hW (Or.inl (by first | rfl | simp [Cond.onTables, Cond.keeps, Cond.steady])) hini)
theorem vx_runV (S : CallFix p m c cc nL s args Ts own) (hM : vx_Met l y ws rm Pc Qc XC mc ms free) (cw : CallW R s args own C index y bytes maxL ret ws rm mc ms n) (hp : PreV s H C b Pc As)
    (hg : g.method = m) (hn : As.length = n) (hsize : g.locals.size = nL) (hstack : g.stack = As.reverse ++ .ref b :: rest) (hW : 2 * g.monitorRoom + (rest.map fun v => v.category).sum ≤ 8) (hdg : decode cc g.pc = .ok (.invokevirtual index, 3)) (hf : cells + mc ≤ R.cells ∧ slots + ms ≤ R.slots) :
    vx_Run p l e R s m args below meth c H locs cells slots mc ms g rest (Qc (Value.ref b :: As).toArray) XC free := by
  have hK : vx_Back l R p e below s args y 3 8 (PreOf R mc ms Pc) (PostOf Qc mc ms free) (vx_Post XC mc ms free) := vx_callBack cw.1 hM hp.1
  obtain ⟨⟨-, -, -, -, -, -, hcode, -, hy, hlen, hl⟩, hin, hse⟩ := cw
  obtain ⟨hx, hb, hml, ho, -⟩ := S
  obtain ⟨-, ⟨cellB, hcB, hoB, hclB⟩, hPc⟩ := hp
  intro T hT X
  rcases vx_callV X hx (C := C) (bytes := bytes) (maxL := maxL) (ret := ret) ho hl hin hse hcode hy hK (by rw [hT]; exact hcB) hoB hclB hg (hsize.trans hml.symm) (argsL := As) (rest := rest) (fun sig h => hn.trans (hlen sig h)) hstack hW (by rw [hb]; exact hdg)
    (fun vm₁ hW₁ => ⟨hf.1, hf.2, hPc (T.setVm vm₁) hT hW₁⟩) with ⟨v, vm₁, ⟨U', l2, c2, s2⟩, hW₁, X', ⟨g', mk, t, L, e1, e2, hq, h1, hL, h2, h3⟩, st⟩ | ⟨q, vm₁, ⟨U', l2, c2, s2⟩, hW₁, X', ⟨g', mk, t, L, E, ce, e1, e2, hq, hce, hcv, hcl, h1, hL, h2, h3⟩, st⟩
  · dsimp only [Pt.U, Pt.locs, Pt.cells, Pt.slots] at X' e1 e2 h1 h2 h3 st
    subst h1; subst h2; subst h3
    exact Or.inl ⟨v, (T.setVm vm₁).calling g' mk (Value.ref b :: As).toArray, t, U', L, hT, X', hL, e1, e2, hq, st⟩
  · dsimp only [Pt.U, Pt.locs, Pt.cells, Pt.slots] at X' e1 e2 h1 h2 h3 st hcl
    subst h1; subst h2; subst h3
    exact Or.inr ⟨q, (T.setVm vm₁).calling g' mk (Value.ref b :: As).toArray, t, U', L, E, ce, hT, X', hL, e1, e2, hq, hce, hcv, vx_cls hW₁ hcl, st⟩
theorem vx_runS (S : CallFix p m c cc nL s args Ts own) (hM : vx_Met l y ws rm Pc Qc XC mc ms free) (cw : CallB R s args own index y bytes maxL ret ws rm mc ms n ∧ (Cond.static y).before args s = true) (hp : PreS s H Pc As)
    (hg : g.method = m) (hn : As.length = n) (hsize : g.locals.size = nL) (hstack : g.stack = As.reverse ++ rest) (hW : 2 * g.monitorRoom + (rest.map fun v => v.category).sum ≤ 8) (hdg : decode cc g.pc = .ok (.invokestatic index, 3)) (hf : cells + mc ≤ R.cells ∧ slots + ms ≤ R.slots) :
    vx_Run p l e R s m args below meth c H locs cells slots mc ms g rest (Qc As.toArray) XC free := by
  have hK : vx_Back l R p e below s args y 3 8 (PreOf R mc ms Pc) (PostOf Qc mc ms free) (vx_Post XC mc ms free) := vx_callBack cw.1 hM hp.1
  obtain ⟨⟨-, -, -, -, -, -, hcode, hini, hy, hlen, hl⟩, hstt⟩ := cw
  obtain ⟨hx, hb, hml, ho, -⟩ := S
  intro T hT X
  rcases vx_callS X hx (bytes := bytes) (maxL := maxL) (ret := ret) ho hl hstt hini hcode hy hK hg (hsize.trans hml.symm) (argsL := As) (rest := rest) (fun sig h => hn.trans (hlen sig h)) hstack hW (by rw [hb]; exact hdg)
    (fun vm₁ hW₁ => ⟨hf.1, hf.2, hp.2 (T.setVm vm₁) hT hW₁⟩) with ⟨v, vm₁, ⟨U', l2, c2, s2⟩, hW₁, X', ⟨g', mk, t, L, e1, e2, hq, h1, hL, h2, h3⟩, st⟩ | ⟨q, vm₁, ⟨U', l2, c2, s2⟩, hW₁, X', ⟨g', mk, t, L, E, ce, e1, e2, hq, hce, hcv, hcl, h1, hL, h2, h3⟩, st⟩
  · dsimp only [Pt.U, Pt.locs, Pt.cells, Pt.slots] at X' e1 e2 h1 h2 h3 st
    subst h1; subst h2; subst h3
    exact Or.inl ⟨v, (T.setVm vm₁).calling g' mk As.toArray, t, U', L, hT, X', hL, e1, e2, hq, st⟩
  · dsimp only [Pt.U, Pt.locs, Pt.cells, Pt.slots] at X' e1 e2 h1 h2 h3 st hcl
    subst h1; subst h2; subst h3
    exact Or.inr ⟨q, (T.setVm vm₁).calling g' mk As.toArray, t, U', L, E, ce, hT, X', hL, e1, e2, hq, hce, hcv, vx_cls hW₁ hcl, st⟩
end Runs
section Rows
variable {p : Program} {l : Launch} {e : Env} {R : Room} {s : State} {m : MethodId} {args : Array Value} {below : List Frame} {meth : Method} {c : Code} {H : Heap} {locs : List Loc} {cells slots : Nat} {Q : State → Prop}
variable {mc ms : Nat} {free : Addr → Prop} {A0 A1 : Nat → Prop} {H0 : Heap} {a : Array Value} {pc : Nat} {ls : Array Slot} {st0 rest : List Value}
theorem vx_keep {st₀ t T' : State} {L : List Loc} (h0 : st₀.heap = H) (e1 : T'.heap = t.heap) (hS : va_S A0 H0 H locs) (hA : ∀ q, q < H.size → A1 q → A0 q) (hf : ∀ q, free q → A0 q) (hL : ∀ q ∈ L, free q.base) (hF : va_F A1 st₀ t) :
    H.size ≤ T'.heap.size ∧ (∀ q : Nat, q < H.size → ¬ A1 q → T'.heap[q]? = H[q]?) ∧ va_S A0 H0 T'.heap (locs ++ L) := by
  obtain ⟨hz, hk⟩ := hF
  rw [h0] at hz hk
  exact ⟨by rw [e1]; exact hz, fun q h1 h2 => by rw [e1]; exact hk q h1 h2,
    ⟨Nat.le_trans hS.1 (by rw [e1]; exact hz), fun q h1 h2 => by rw [e1, hk q (Nat.lt_of_lt_of_le h1 hS.1) (fun z => h2 (hA q (Nat.lt_of_lt_of_le h1 hS.1) z))]; exact hS.2.1 q h1 h2, fun q hq => by
      rcases List.mem_append.mp hq with h | h
      · exact hS.2.2 q h
      · exact hf _ (hL q h)⟩⟩
theorem vx_calli {S SX : Type} {post : Int32 → S → Prop} {px : SX → Prop} {B : S → State → Prop} {BX : String → SX → State → Prop} {AX : Nat → Prop} (hr : vx_Run p l e R s m args below meth c H locs cells slots mc ms (F0 m pc ls st0) rest (va_Qi post B A1 a) (vx_X px BX AX) free) (hS : va_S A0 H0 H locs) (hA : ∀ q, q < H.size → A1 q → A0 q) (hf : ∀ q, free q → A0 q) (hAX : ∀ q, q < H.size → AX q → A0 q)
    (kx : ∀ (E : String) (ce : Cell) (q9 : Addr) (u : SX) (t : State) (H1 : Heap) (locs1 : List Loc), t.heap = H1 → s.vm.Alike t.vm → px u → BX E u t → H.size ≤ H1.size → (∀ q : Nat, q < H.size → ¬ AX q → H1[q]? = H[q]?) → va_S A0 H0 H1 locs1 → H1[q9]? = some ce → ce.vm = .none → s.vm.findClass E = some ce.cls → vx_W p l e R s m args below meth c H1 locs1 (cells + mc) (slots + ms) Q (F0 m pc ls rest) q9)
    (kk : ∀ (r : Int32) (u : S) (t : State) (H1 : Heap) (locs1 : List Loc), t.heap = H1 → s.vm.Alike t.vm → post r u → B u t → H.size ≤ H1.size → (∀ q : Nat, q < H.size → ¬ A1 q → H1[q]? = H[q]?) → va_S A0 H0 H1 locs1 → W p l e R s m args below meth c H1 locs1 (cells + mc) (slots + ms) Q (F0 m (pc + 3) ls (.int r :: rest))) : W p l e R s m args below meth c H locs cells slots Q (F0 m pc ls st0) := by
  intro T hT X
  rcases hr T hT X with ⟨v, st₀, t, T', L, h0, X', hL, e1, e2, ⟨⟨r, u, hv, hp, hb⟩, hF⟩, st⟩ | ⟨q, st₀, t, T', L, E, ce, h0, X', hL, e1, e2, ⟨u, hp, hb, hF⟩, hce, hcv, hcl, st⟩
  · cases hv
    obtain ⟨k1, k2, k3⟩ := vx_keep h0 e1 hS hA hf hL hF
    obtain ⟨t2, a1, b1⟩ := kk r u t T'.heap (locs ++ L) e1.symm (by rw [← e2]; exact X'.warmed.alike) hp hb k1 k2 k3 T' rfl X'
    exact ⟨t2, st t2 a1, b1⟩
  · obtain ⟨k1, k2, k3⟩ := vx_keep h0 e1 hS hAX hf hL hF
    obtain ⟨t2, a1, b1⟩ := kx E ce q u t T'.heap (locs ++ L) e1.symm (by rw [← e2]; exact X'.warmed.alike) hp hb k1 k2 k3 (by rw [e1]; exact hce) hcv hcl T' rfl X'
    exact ⟨t2, st.trans a1, b1⟩
theorem vx_calll {S SX : Type} {post : Int64 → S → Prop} {px : SX → Prop} {B : S → State → Prop} {BX : String → SX → State → Prop} {AX : Nat → Prop} (hr : vx_Run p l e R s m args below meth c H locs cells slots mc ms (F0 m pc ls st0) rest (va_Ql post B A1 a) (vx_X px BX AX) free) (hS : va_S A0 H0 H locs) (hA : ∀ q, q < H.size → A1 q → A0 q) (hf : ∀ q, free q → A0 q) (hAX : ∀ q, q < H.size → AX q → A0 q)
    (kx : ∀ (E : String) (ce : Cell) (q9 : Addr) (u : SX) (t : State) (H1 : Heap) (locs1 : List Loc), t.heap = H1 → s.vm.Alike t.vm → px u → BX E u t → H.size ≤ H1.size → (∀ q : Nat, q < H.size → ¬ AX q → H1[q]? = H[q]?) → va_S A0 H0 H1 locs1 → H1[q9]? = some ce → ce.vm = .none → s.vm.findClass E = some ce.cls → vx_W p l e R s m args below meth c H1 locs1 (cells + mc) (slots + ms) Q (F0 m pc ls rest) q9)
    (kk : ∀ (r : Int64) (u : S) (t : State) (H1 : Heap) (locs1 : List Loc), t.heap = H1 → s.vm.Alike t.vm → post r u → B u t → H.size ≤ H1.size → (∀ q : Nat, q < H.size → ¬ A1 q → H1[q]? = H[q]?) → va_S A0 H0 H1 locs1 → W p l e R s m args below meth c H1 locs1 (cells + mc) (slots + ms) Q (F0 m (pc + 3) ls (.long r :: rest))) : W p l e R s m args below meth c H locs cells slots Q (F0 m pc ls st0) := by
  intro T hT X
  rcases hr T hT X with ⟨v, st₀, t, T', L, h0, X', hL, e1, e2, ⟨⟨r, u, hv, hp, hb⟩, hF⟩, st⟩ | ⟨q, st₀, t, T', L, E, ce, h0, X', hL, e1, e2, ⟨u, hp, hb, hF⟩, hce, hcv, hcl, st⟩
  · cases hv
    obtain ⟨k1, k2, k3⟩ := vx_keep h0 e1 hS hA hf hL hF
    obtain ⟨t2, a1, b1⟩ := kk r u t T'.heap (locs ++ L) e1.symm (by rw [← e2]; exact X'.warmed.alike) hp hb k1 k2 k3 T' rfl X'
    exact ⟨t2, st t2 a1, b1⟩
  · obtain ⟨k1, k2, k3⟩ := vx_keep h0 e1 hS hAX hf hL hF
    obtain ⟨t2, a1, b1⟩ := kx E ce q u t T'.heap (locs ++ L) e1.symm (by rw [← e2]; exact X'.warmed.alike) hp hb k1 k2 k3 (by rw [e1]; exact hce) hcv hcl T' rfl X'
    exact ⟨t2, st.trans a1, b1⟩
theorem vx_callf {S SX : Type} {post : UInt32 → S → Prop} {px : SX → Prop} {B : S → State → Prop} {BX : String → SX → State → Prop} {AX : Nat → Prop} (hr : vx_Run p l e R s m args below meth c H locs cells slots mc ms (F0 m pc ls st0) rest (va_Qf post B A1 a) (vx_X px BX AX) free) (hS : va_S A0 H0 H locs) (hA : ∀ q, q < H.size → A1 q → A0 q) (hf : ∀ q, free q → A0 q) (hAX : ∀ q, q < H.size → AX q → A0 q)
    (kx : ∀ (E : String) (ce : Cell) (q9 : Addr) (u : SX) (t : State) (H1 : Heap) (locs1 : List Loc), t.heap = H1 → s.vm.Alike t.vm → px u → BX E u t → H.size ≤ H1.size → (∀ q : Nat, q < H.size → ¬ AX q → H1[q]? = H[q]?) → va_S A0 H0 H1 locs1 → H1[q9]? = some ce → ce.vm = .none → s.vm.findClass E = some ce.cls → vx_W p l e R s m args below meth c H1 locs1 (cells + mc) (slots + ms) Q (F0 m pc ls rest) q9)
    (kk : ∀ (r : UInt32) (u : S) (t : State) (H1 : Heap) (locs1 : List Loc), t.heap = H1 → s.vm.Alike t.vm → post r u → B u t → H.size ≤ H1.size → (∀ q : Nat, q < H.size → ¬ A1 q → H1[q]? = H[q]?) → va_S A0 H0 H1 locs1 → W p l e R s m args below meth c H1 locs1 (cells + mc) (slots + ms) Q (F0 m (pc + 3) ls (.float r :: rest))) : W p l e R s m args below meth c H locs cells slots Q (F0 m pc ls st0) := by
  intro T hT X
  rcases hr T hT X with ⟨v, st₀, t, T', L, h0, X', hL, e1, e2, ⟨⟨r, u, hv, hp, hb⟩, hF⟩, st⟩ | ⟨q, st₀, t, T', L, E, ce, h0, X', hL, e1, e2, ⟨u, hp, hb, hF⟩, hce, hcv, hcl, st⟩
  · cases hv
    obtain ⟨k1, k2, k3⟩ := vx_keep h0 e1 hS hA hf hL hF
    obtain ⟨t2, a1, b1⟩ := kk r u t T'.heap (locs ++ L) e1.symm (by rw [← e2]; exact X'.warmed.alike) hp hb k1 k2 k3 T' rfl X'
    exact ⟨t2, st t2 a1, b1⟩
  · obtain ⟨k1, k2, k3⟩ := vx_keep h0 e1 hS hAX hf hL hF
    obtain ⟨t2, a1, b1⟩ := kx E ce q u t T'.heap (locs ++ L) e1.symm (by rw [← e2]; exact X'.warmed.alike) hp hb k1 k2 k3 (by rw [e1]; exact hce) hcv hcl T' rfl X'
    exact ⟨t2, st.trans a1, b1⟩
theorem vx_calld {S SX : Type} {post : UInt64 → S → Prop} {px : SX → Prop} {B : S → State → Prop} {BX : String → SX → State → Prop} {AX : Nat → Prop} (hr : vx_Run p l e R s m args below meth c H locs cells slots mc ms (F0 m pc ls st0) rest (va_Qd post B A1 a) (vx_X px BX AX) free) (hS : va_S A0 H0 H locs) (hA : ∀ q, q < H.size → A1 q → A0 q) (hf : ∀ q, free q → A0 q) (hAX : ∀ q, q < H.size → AX q → A0 q)
    (kx : ∀ (E : String) (ce : Cell) (q9 : Addr) (u : SX) (t : State) (H1 : Heap) (locs1 : List Loc), t.heap = H1 → s.vm.Alike t.vm → px u → BX E u t → H.size ≤ H1.size → (∀ q : Nat, q < H.size → ¬ AX q → H1[q]? = H[q]?) → va_S A0 H0 H1 locs1 → H1[q9]? = some ce → ce.vm = .none → s.vm.findClass E = some ce.cls → vx_W p l e R s m args below meth c H1 locs1 (cells + mc) (slots + ms) Q (F0 m pc ls rest) q9)
    (kk : ∀ (r : UInt64) (u : S) (t : State) (H1 : Heap) (locs1 : List Loc), t.heap = H1 → s.vm.Alike t.vm → post r u → B u t → H.size ≤ H1.size → (∀ q : Nat, q < H.size → ¬ A1 q → H1[q]? = H[q]?) → va_S A0 H0 H1 locs1 → W p l e R s m args below meth c H1 locs1 (cells + mc) (slots + ms) Q (F0 m (pc + 3) ls (.double r :: rest))) : W p l e R s m args below meth c H locs cells slots Q (F0 m pc ls st0) := by
  intro T hT X
  rcases hr T hT X with ⟨v, st₀, t, T', L, h0, X', hL, e1, e2, ⟨⟨r, u, hv, hp, hb⟩, hF⟩, st⟩ | ⟨q, st₀, t, T', L, E, ce, h0, X', hL, e1, e2, ⟨u, hp, hb, hF⟩, hce, hcv, hcl, st⟩
  · cases hv
    obtain ⟨k1, k2, k3⟩ := vx_keep h0 e1 hS hA hf hL hF
    obtain ⟨t2, a1, b1⟩ := kk r u t T'.heap (locs ++ L) e1.symm (by rw [← e2]; exact X'.warmed.alike) hp hb k1 k2 k3 T' rfl X'
    exact ⟨t2, st t2 a1, b1⟩
  · obtain ⟨k1, k2, k3⟩ := vx_keep h0 e1 hS hAX hf hL hF
    obtain ⟨t2, a1, b1⟩ := kx E ce q u t T'.heap (locs ++ L) e1.symm (by rw [← e2]; exact X'.warmed.alike) hp hb k1 k2 k3 (by rw [e1]; exact hce) hcv hcl T' rfl X'
    exact ⟨t2, st.trans a1, b1⟩
theorem vx_callv {S SX : Type} {post : S → Prop} {px : SX → Prop} {B : S → State → Prop} {BX : String → SX → State → Prop} {AX : Nat → Prop} (hr : vx_Run p l e R s m args below meth c H locs cells slots mc ms (F0 m pc ls st0) rest (va_Qv post B A1 a) (vx_X px BX AX) free) (hS : va_S A0 H0 H locs) (hA : ∀ q, q < H.size → A1 q → A0 q) (hf : ∀ q, free q → A0 q) (hAX : ∀ q, q < H.size → AX q → A0 q)
    (kx : ∀ (E : String) (ce : Cell) (q9 : Addr) (u : SX) (t : State) (H1 : Heap) (locs1 : List Loc), t.heap = H1 → s.vm.Alike t.vm → px u → BX E u t → H.size ≤ H1.size → (∀ q : Nat, q < H.size → ¬ AX q → H1[q]? = H[q]?) → va_S A0 H0 H1 locs1 → H1[q9]? = some ce → ce.vm = .none → s.vm.findClass E = some ce.cls → vx_W p l e R s m args below meth c H1 locs1 (cells + mc) (slots + ms) Q (F0 m pc ls rest) q9)
    (kk : ∀ (u : S) (t : State) (H1 : Heap) (locs1 : List Loc), t.heap = H1 → s.vm.Alike t.vm → post u → B u t → H.size ≤ H1.size → (∀ q : Nat, q < H.size → ¬ A1 q → H1[q]? = H[q]?) → va_S A0 H0 H1 locs1 → W p l e R s m args below meth c H1 locs1 (cells + mc) (slots + ms) Q (F0 m (pc + 3) ls (rest))) : W p l e R s m args below meth c H locs cells slots Q (F0 m pc ls st0) := by
  intro T hT X
  rcases hr T hT X with ⟨v, st₀, t, T', L, h0, X', hL, e1, e2, ⟨⟨u, hv, hp, hb⟩, hF⟩, st⟩ | ⟨q, st₀, t, T', L, E, ce, h0, X', hL, e1, e2, ⟨u, hp, hb, hF⟩, hce, hcv, hcl, st⟩
  · cases hv
    obtain ⟨k1, k2, k3⟩ := vx_keep h0 e1 hS hA hf hL hF
    obtain ⟨t2, a1, b1⟩ := kk u t T'.heap (locs ++ L) e1.symm (by rw [← e2]; exact X'.warmed.alike) hp hb k1 k2 k3 T' rfl X'
    exact ⟨t2, st t2 a1, b1⟩
  · obtain ⟨k1, k2, k3⟩ := vx_keep h0 e1 hS hAX hf hL hF
    obtain ⟨t2, a1, b1⟩ := kx E ce q u t T'.heap (locs ++ L) e1.symm (by rw [← e2]; exact X'.warmed.alike) hp hb k1 k2 k3 (by rw [e1]; exact hce) hcv hcl T' rfl X'
    exact ⟨t2, st.trans a1, b1⟩
/-- caught by the row x of this method's table; the rows ahead don't take it -/
theorem vx_catch {own name : String} {E : String} {ce : Cell} {q : Addr} (hown : s.vm.findClass own = some m.cls) (pre : List ExceptionTableEntry) (x : ExceptionTableEntry) (suf : List ExceptionTableEntry) (hsplit : c.exceptionTable.toList = pre ++ x :: suf)
    (hpass : ∀ z ∈ pre, covers z pc = false ∨ (z.catchType ≠ 0 ∧ ∃ nm : String, (Cond.classLink own z.catchType nm).before args s = true ∧ va_Nc E nm s)) (hx : covers x pc = true) (h0 : x.catchType ≠ 0)
    (hlink : (Cond.classLink own x.catchType name).before args s = true) (hcast : (Cond.castable E name).before args s = true) (hcell : H[q]? = some ce) (hv : ce.vm = .none) (hcl : s.vm.findClass E = some ce.cls)
    (kk : W p l e R s m args below meth c H locs cells slots Q (F0 m x.handlerPc ls [.ref q])) : vx_W p l e R s m args below meth c H locs cells slots Q (F0 m pc ls rest) q := by
  intro T hT X
  have hpl : e.platform.magicAccessors = ({} : Platform).magicAccessors := by rw [X.admits.platform]
  obtain ⟨c3, c4, hc3, hc4, hasg⟩ := Cond.castable_spec hcast
  cases Option.some.inj (hc3.symm.trans hcl)
  obtain ⟨c5, hc5, hcl5⟩ := Cond.classLink_spec hown hlink e.platform hpl
  cases Option.some.inj (hc4.symm.trans hc5)
  obtain ⟨vm', X', st⟩ := X.thenCaughtThrough q (g := F0 m pc ls rest) rfl (Steps.refl _) (by rw [hT]; exact hcell) (by rw [hv]; rfl) (by obtain ⟨k9, h9, -⟩ := Vm.findClass_spec hcl; exact ⟨k9, h9⟩) pre x suf hsplit
    (fun z hz => by
      rcases hpass z hz with h | ⟨hz0, nm, hl1, hn1⟩
      · exact Or.inl h
      · obtain ⟨c6, hc6, hcl6⟩ := Cond.classLink_spec hown hl1 e.platform hpl
        obtain ⟨a8, b8, h1, h2, h3⟩ := hn1
        cases Option.some.inj (h1.symm.trans hcl)
        cases Option.some.inj (h2.symm.trans hc6)
        exact Or.inr ⟨hz0, _, hcl6, h3⟩) hx (Or.inr ⟨h0, c4, hcl5, hasg⟩)
  obtain ⟨t, a1, b1⟩ := kk (T.setVm vm') hT X'
  exact ⟨t, st.trans a1, b1⟩
end Rows
section Ends
variable {p : Program} {l : Launch} {e : Env} {R : Room} {s : State} {m : MethodId} {args : Array Value} {below : List Frame} {meth : Method} {c : Code} {H : Heap} {locs : List Loc} {cells slots : Nat} {Q : State → Prop}
variable {mc ms : Nat} {free : Addr → Prop} {A0 A1 : Nat → Prop} {H0 : Heap} {a : Array Value} {ls : Array Slot} {st0 rest : List Value}
variable {Qc : Array Value → State → Outcome → State → Prop} {XC : String → State → State → Prop}
/-- what a body that may throw owes at its end -/
def vx_MQ (below : List Frame) (Qc : Array Value → State → Outcome → State → Prop) (XC : String → State → State → Prop) (a : Array Value) (s : State) (mc ms : Nat) (free : Addr → Prop) : State → Prop := fun t =>
  ∃ o, t.status = .running ∧ Ended t below o ∧ vx_Q Qc XC mc ms free a s o t
theorem vx_ret {g : JFrame} {mc ms : Nat} (k : W p l e R s m args below meth c H locs cells slots (MQ below Qc args s mc ms free) g) : W p l e R s m args below meth c H locs cells slots (vx_MQ below Qc XC args s mc ms free) g := by
  intro T hT X
  obtain ⟨t, a1, o, b1, b2, b3, b4⟩ := k T hT X
  exact ⟨t, a1, o, b1, b2, Or.inl ⟨b3, b4⟩⟩
/-- not caught here: it goes on to the caller -/
theorem vx_widen {g : JFrame} {q : Addr} {k n : Nat} (h1 : cells ≤ k) (h2 : slots ≤ n) (kk : vx_W p l e R s m args below meth c H locs k n Q g q) : vx_W p l e R s m args below meth c H locs cells slots Q g q := fun T hT X => kk T hT (stand_widen X h1 h2)
theorem vx_out {pc : Nat} {E : String} {ce : Cell} {q : Addr} {mc ms : Nat} (hout : ∀ x ∈ c.exceptionTable.toList, covers x pc = false) (hlocks : meth.locks = false) (hcell : H[q]? = some ce) (hv : ce.vm = .none) (hcl : s.vm.findClass E = some ce.cls)
    (hx : ∀ t : State, t.heap = H → s.vm.Alike t.vm → XC E s t) (hf : ∀ z ∈ locs, free z.base) (hc : cells ≤ mc) (hs : slots ≤ ms) :
    vx_W p l e R s m args below meth c H locs cells slots (vx_MQ below Qc XC args s mc ms free) (F0 m pc ls rest) q := by
  intro T hT X
  obtain ⟨st1, hrun, hend, hW, hsm⟩ := X.leaveThrown q (g := F0 m pc ls rest) rfl rfl rfl hout hlocks
  have hcell9 : (T.setFrames (.throwing q :: below)).heap[q]? = some ce := by
    show T.heap[q]? = some ce
    rw [hT]; exact hcell
  exact ⟨_, st1, .threw q, hrun, hend, Or.inr ⟨q, rfl, E, ce, locs, hx _ hT hW.alike, hcell9, hv, hcl, hW, hsm.mono hc hs, hf⟩⟩
theorem vx_frame {U : State} {k n : Nat} (h : s.sameButNew ({ U with vm := s.vm } : State) locs k n) : s.heap.size ≤ U.heap.size ∧ ∀ q : Nat, q < s.heap.size → (∀ z ∈ locs, z.base ≠ q) → U.heap[q]? = s.heap[q]? := by
  obtain ⟨-, h2, -, -, -, h6⟩ := h
  refine ⟨h2, fun q hq hz => ?_⟩
  obtain ⟨c9, e1, e2, e3, e4⟩ := h6 q _ (Array.getElem?_eq_getElem hq)
  have hs : c9.slots = (s.heap[q]).slots := Array.ext_getElem? fun i => e4 i fun hm => hz _ hm rfl
  have h9 : c9 = s.heap[q] := by
    rw [hs] at e2
    exact e2
  have e5 : U.heap[q]? = some c9 := e1
  rw [e5, h9, Array.getElem?_eq_getElem hq]
/-- the words of a throw but the four that speak of the heap -/
def vx_no (w : Cond) : Bool := decide (w ≠ .isRef (.static Bundle.tN "UNASSIGNED_STACK" Bundle.steD)) && decide (w ≠ .isRef (.static Bundle.tN "SUPPRESSED_SENTINEL" Bundle.listD)) && decide (w ≠ .laysStatic Bundle.tN "UNASSIGNED_STACK" Bundle.steD) && decide (w ≠ .laysStatic Bundle.tN "SUPPRESSED_SENTINEL" Bundle.listD)
def vx_at0 (own : String) (ic : Nat) (X : String) (names : List String) : List Cond := (Bundle.ownAtoms0 own ic X names).filter vx_no
def vx_atS (own : String) (ic : Nat) (X : String) (names : List String) : List Cond := (Bundle.ownAtoms own ic X names).filter vx_no
/-- a word that the tables alone decide, or a good one -/
def vx_ot (w : Cond) : Bool := w.onTables || goodWord w
theorem vx_ot_at {args a' : Array Value} {s U : State} {w : Cond} (hW : s.WarmedH U.vm) (hvm : s.vm = U.vm) (hg : vx_ot w = true) (h : w.before args s = true) : w.before a' U = true := by
  simp only [vx_ot, Bool.or_eq_true] at hg
  rcases hg with hg | hg
  · exact va_tabs hg hvm h
  · exact word_at hW (good_of_word hg) h
/-- a list's words: the good ones out of the method's own list, the others by premises of their own -/
theorem vx_hat {args : Array Value} {s : State} {L B : List Cond} (h1 : ∀ w ∈ L.filter goodWord, w.before args s = true) (h2 : ∀ w ∈ L.filter (fun w => !goodWord w), w ∈ B) (h3 : ∀ w ∈ B, w.before args s = true) : ∀ w ∈ L, w.before args s = true := by
  intro w hw
  by_cases g : goodWord w = true
  · exact h1 w (List.mem_filter.mpr ⟨hw, g⟩)
  · refine h3 w (h2 w (List.mem_filter.mpr ⟨hw, ?_⟩))
    show (!goodWord w) = true
    cases hgw : goodWord w
    · rfl
    · exact absurd hgw g
theorem vx_c {args : Array Value} {s : State} {w : Cond} {B : List Cond} (h : w.before args s = true) (t : ∀ w ∈ B, w.before args s = true) : ∀ w' ∈ w :: B, w'.before args s = true := fun w' h' => (List.mem_cons.mp h').elim (fun e => by rw [e]; exact h) (t w')
theorem vx_n {args : Array Value} {s : State} : ∀ w ∈ ([] : List Cond), w.before args s = true := fun _ h => nomatch h
theorem vx_own {args : Array Value} {s : State} {L : List Cond} (h1 : ∀ w ∈ L.filter vx_no, w.before args s = true)
    (hU : (Cond.isRef (.static Bundle.tN "UNASSIGNED_STACK" Bundle.steD)).before args s = true) (hN : (Cond.isRef (.static Bundle.tN "SUPPRESSED_SENTINEL" Bundle.listD)).before args s = true)
    (lU : (Cond.laysStatic Bundle.tN "UNASSIGNED_STACK" Bundle.steD).before args s = true) (lN : (Cond.laysStatic Bundle.tN "SUPPRESSED_SENTINEL" Bundle.listD).before args s = true) : ∀ w ∈ L, w.before args s = true := by
  intro w hw
  by_cases e1 : w = .isRef (.static Bundle.tN "UNASSIGNED_STACK" Bundle.steD)
  · rw [e1]; exact hU
  · by_cases e2 : w = .isRef (.static Bundle.tN "SUPPRESSED_SENTINEL" Bundle.listD)
    · rw [e2]; exact hN
    · by_cases e3 : w = .laysStatic Bundle.tN "UNASSIGNED_STACK" Bundle.steD
      · rw [e3]; exact lU
      · by_cases e4 : w = .laysStatic Bundle.tN "SUPPRESSED_SENTINEL" Bundle.listD
        · rw [e4]; exact lN
        · exact h1 w (List.mem_filter.mpr ⟨hw, by unfold vx_no; rw [decide_eq_true e1, decide_eq_true e2, decide_eq_true e3, decide_eq_true e4]; rfl⟩)
/-- where a static field lies, its class's statics cell in H -/
def vx_L (C n d : String) (A : Nat → Prop) (U : State) (H : Heap) : Prop := ∃ (c : ClassId) (k : Class) (i : Nat) (f : Field) (a : Nat) (cell : Cell), U.vm.findClass C = some c ∧ U.fieldFound? C n d = some (c, k, i, f) ∧ f.isStatic = true ∧ k.statics = some a ∧ H[a]? = some cell ∧ cell.vm.isStatics = true ∧ cell.cls = c ∧ f.slot < cell.slots.size ∧ k.staticTypes[f.slot]? = some f.type ∧ ¬ A a
theorem vx_L.moved {C n d : String} {A : Nat → Prop} {u U : State} {H : Heap} (hvm : u.vm.Alike U.vm) (h : vx_L C n d A u H) : vx_L C n d A U H := by
  obtain ⟨c, k, i, f, a, cell, h1, h2, h3, h4, h5, h6, h7, h8, h9, h10⟩ := h
  obtain ⟨k', hi', he⟩ := State.fieldFound?_setVm hvm h2
  exact ⟨c, k', i, f, a, cell, by rw [hvm.findClass]; exact h1, hi', h3, by rw [he]; exact h4, h5, h6, h7, h8, by rw [he]; exact h9, h10⟩
theorem vx_L.kept {C n d : String} {A : Nat → Prop} {U : State} {H H1 : Heap} (h : vx_L C n d A U H) (hq : ∀ a : Nat, a < H.size → ¬ A a → H1[a]? = H[a]?) : vx_L C n d A U H1 := by
  obtain ⟨c, k, i, f, a, cell, h1, h2, h3, h4, h5, h6, h7, h8, h9, h10⟩ := h
  exact ⟨c, k, i, f, a, cell, h1, h2, h3, h4, by rw [hq a (Array.getElem?_eq_some_iff.mp h5).1 h10]; exact h5, h6, h7, h8, h9, h10⟩
theorem vx_L.narrow {C n d : String} {A B : Nat → Prop} {U : State} {H : Heap} (h : vx_L C n d A U H) (hAB : ∀ q, B q → A q) : vx_L C n d B U H := by
  obtain ⟨c, k, i, f, a, cell, h1, h2, h3, h4, h5, h6, h7, h8, h9, h10⟩ := h
  exact ⟨c, k, i, f, a, cell, h1, h2, h3, h4, h5, h6, h7, h8, h9, fun z => h10 (hAB _ z)⟩
theorem vx_L.word {C n d : String} {A : Nat → Prop} {s : State} {args : Array Value} (h : vx_L C n d A s s.heap) : (Cond.laysStatic C n d).before args s = true := by
  obtain ⟨c, k, i, f, a, cell, h1, h2, h3, h4, h5, h6, h7, h8, h9, -⟩ := h
  show (Cond.laysStatic C n d).holds args s none s [] = true
  exact Cond.laysStatic_of h1 h2 h3 h4 h5 h6 h7 h8 h9
/-- .. and what it holds: null or some reference -/
def vx_Zq (C n d : String) (A : Nat → Prop) (U : State) (H : Heap) : Prop := va_Zq C n d A U H ∧ vx_L C n d A U H
theorem vx_Zq.moved {C n d : String} {A : Nat → Prop} {u U : State} {H : Heap} (hvm : u.vm.Alike U.vm) (h : vx_Zq C n d A u H) : vx_Zq C n d A U H := ⟨va_Zq.moved hvm h.1, vx_L.moved hvm h.2⟩
theorem vx_Zq.kept {C n d : String} {A : Nat → Prop} {U : State} {H H1 : Heap} (h : vx_Zq C n d A U H) (hq : ∀ a : Nat, a < H.size → ¬ A a → H1[a]? = H[a]?) : vx_Zq C n d A U H1 := ⟨va_Zq.kept h.1 hq, vx_L.kept h.2 hq⟩
theorem vx_Zq.narrow {C n d : String} {A B : Nat → Prop} {U : State} {H : Heap} (h : vx_Zq C n d A U H) (hAB : ∀ q, B q → A q) : vx_Zq C n d B U H := ⟨va_Zq.narrow h.1 hAB, vx_L.narrow h.2 hAB⟩
theorem vx_Zqof {args : Array Value} {s : State} {C n d : String} {A : Nat → Prop} (hl : (Cond.laysStatic C n d).before args s = true) (hini : (Cond.initialized C).before args s = true) (h : (Cond.isRef (.static C n d)).before args s = true) (hA : ∀ a : Nat, a < s.heap.size → ¬ A a) : vx_Zq C n d A s s.heap := by
  refine ⟨va_Zqof hl hini h hA, ?_⟩
  obtain ⟨c, k, i, f, a, cell, h1, h2, h3, h4, h5, h6, h7, h8, h9⟩ := Cond.laysStatic_spec hl
  exact ⟨c, k, i, f, a, cell, h1, h2, h3, h4, h5, h6, h7, h8, h9, hA a (Array.getElem?_eq_some_iff.mp h5).1⟩
theorem vx_isRef {C n d : String} {v : Value} {A : Nat → Prop} {s : State} {args : Array Value} (h : va_Z C n d v A s s.heap) (hv : v.isRef = true) : (Cond.isRef (.static C n d)).before args s = true := by
  obtain ⟨cf, kf, fi, f, a, cell, h1, h2, h3, h4, h5, h6, h7, -⟩ := h
  have he : (Term.static C n d).eval args s none [] s = some v := by
    simp [Term.eval, State.fieldNamed?, h1, h2, h4, h5, h6, h7]
  simp only [Cond.before, Cond.holds, Cond.value, he]
  cases v <;> simp_all [Value.isRef]
theorem vx_isRefq {C n d : String} {A : Nat → Prop} {s : State} {args : Array Value} (h : va_Zq C n d A s s.heap) : (Cond.isRef (.static C n d)).before args s = true := by
  rcases h with h | ⟨t, h⟩
  · exact vx_isRef h rfl
  · exact vx_isRef h rfl
/-- the same frame, seen from here: as if the method were called anew in this heap -/
theorem vx_rebase {T : State} (X : Stand p l e R s m args below meth c T locs cells slots) {R' : Room} (hf : R'.frames ≤ R.frames) (hl : R'.locals ≤ R.locals) (hc : cells + R'.cells ≤ R.cells) (hs : slots + R'.slots ≤ R.slots) :
    Stand p l e R' ((T.setVm s.vm).setFrames (.invoking m args :: below)) m args below meth c T [] 0 0 := by
  have htop : (T.setVm s.vm).topJava?.isSome := X.here.top
  have hF : ((T.setVm s.vm).setFrames (.invoking m args :: below)).frames = .invoking m args :: below := State.frames_setFrames _ (State.cur_lt_of_top htop)
  obtain ⟨g₀, hg0⟩ := Option.isSome_iff_exists.mp htop
  obtain ⟨r, hr⟩ := State.topJava?_eq_some.mp hg0
  have hl9 : e.platform.stackLimits (T.setVm s.vm).me = e.platform.stackLimits s.me := X.limits
  have hb9 : (T.setVm s.vm).me.stackBytes = s.me.stackBytes := X.bytes
  refine ⟨X.admits, X.cas, X.clock, hF, ?_, X.hears, X.method, X.code, X.here, X.tail, X.warmed, ?_, ?_, ?_⟩
  · have h := X.room
    have hU : ((T.setVm s.vm).setFrames (.invoking m args :: below)).localsInUse = s.localsInUse := by
      rw [State.localsInUse_invoking hF (meth := meth) (c := c) X.method X.code, State.localsInUse_invoking X.frames X.method X.code]
    simp only [State.hasRoom, Bool.and_eq_true, decide_eq_true_eq] at h ⊢
    obtain ⟨⟨⟨⟨h1, h2, h3, h4, h5, h6⟩, h7⟩, h8⟩, h9⟩ := h
    rw [X.frames, List.length_cons] at h2 h3
    have q1 := X.heapSize
    have q2 := X.used
    simp only [hF, hU, List.length_cons, State.stackLimits_setFrames, State.stackBytes_setFrames, hl9, hb9]
    refine ⟨⟨⟨⟨by omega, by omega, by omega, by omega, by omega, h6⟩, ?_⟩, ?_⟩, X.book⟩
    · show T.heap.size + R'.cells ≤ e.platform.maxCells
      omega
    · show T.slotsUsed + R'.slots ≤ e.platform.maxSlots
      omega
  · rw [State.stackLimits_setFrames]; rfl
  · rw [State.stackBytes_setFrames]; rfl
  · refine ⟨?_, Nat.le_refl _, Nat.le_refl _, ?_, ?_, fun a c9 h9 => ⟨c9, h9, rfl, rfl, fun _ _ => rfl⟩⟩
    · obtain ⟨t, ht, -⟩ := State.frames_cons hr
      show T.setVm s.vm = { ((T.setVm s.vm).setFrames (.invoking m args :: below)).setFrames (T.setVm s.vm).frames with heap := T.heap, slotsUsed := T.slotsUsed }
      rw [State.setFrames_setFrames, State.setFrames_self ht]
      rfl
    · show T.slotsUsed = T.slotsUsed + ((T.heap.toList.drop T.heap.size).map (·.slots.size)).sum
      rw [List.drop_eq_nil_of_le (Nat.le_of_eq Array.length_toList)]
      rfl
    · show ((T.heap.toList.drop T.heap.size).map (·.slots.size)).sum ≤ 0
      rw [List.drop_eq_nil_of_le (Nat.le_of_eq Array.length_toList)]
      exact Nat.le_refl _
/-- 'throw new E()': new; dup; invokespecial; athrow -/
theorem vx_throw0 {cc : ByteArray} {pc : Nat} (hexec : p.tables.exec = Jvm.exec) (hb : c.code = cc) (hl : l.stackTraces = false) {own cls : String} {names : List String} {ik ic mc ms : Nat} {A : Nat → Prop}
    (hown : s.vm.findClass own = some m.cls) (hcls : Bundle.fit cls = true) (hnames : ∀ n ∈ names, Bundle.fit n = true)
    (hk : (Cond.classLink own ik cls).before args s = true) (hini : (Cond.initialized cls).before args s = true) (hat : ∀ w ∈ vx_at0 own ic cls names, w.before args s = true)
    (hgood : ∀ w ∈ Cond.classLink own ik cls :: Cond.initialized cls :: vx_at0 own ic cls names, vx_ot w = true)
    (hU : vx_Zq Bundle.tN "UNASSIGNED_STACK" Bundle.steD A s s.heap) (hN : vx_Zq Bundle.tN "SUPPRESSED_SENTINEL" Bundle.listD A s s.heap) (hS : va_S A s.heap H locs) (hsize : ls.size = c.maxLocals)
    (d0 : decode cc pc = .ok (.new ik, 3)) (d3 : decode cc (pc + 3) = .ok (.dup, 1)) (d4 : decode cc (pc + 4) = .ok (.invokespecial ic, 3)) (d7 : decode cc (pc + 7) = .ok (.athrow, 1))
    (hout : ∀ x ∈ c.exceptionTable.toList, covers x (pc + 7) = false)
    (hRframes : names.length + 3 < R.frames) (hRlocals : (rest.map fun v => v.category).sum + (13 * (names.length + 1) + 42) ≤ R.locals) (hRcells : cells + 1 ≤ R.cells) (hRslots : slots + 6 ≤ R.slots) (hlocks : meth.locks = false)
    (hx : ∀ t : State, s.vm.Alike t.vm → H.size ≤ t.heap.size → (∀ q : Nat, q < H.size → t.heap[q]? = H[q]?) → XC cls s t)
    (hf : ∀ z ∈ locs, free z.base) (hc : cells + 1 ≤ mc) (hs : slots + 6 ≤ ms) :
    W p l e R s m args below meth c H locs cells slots (vx_MQ below Qc XC args s mc ms free) (F0 m pc ls rest) := by
  intro T hT X
  have htr : e.platform.stackTraces = false := (show e.platform.stackTraces = l.stackTraces by rw [X.admits.platform]).trans hl
  have Y := vx_rebase X (R' := { frames := R.frames, locals := R.locals, cells := 1, slots := 6 }) (Nat.le_refl _) (Nat.le_refl _) hRcells hRslots
  obtain ⟨s', hA⟩ : ∃ z, z = (T.setVm s.vm).setFrames (.invoking m args :: below) := ⟨_, rfl⟩
  rw [← hA] at Y
  have hvm : s'.vm = s.vm := by rw [hA]; rfl
  have hhp : s'.heap = H := by rw [hA]; exact hT
  have hW0 : s.WarmedH s'.vm := by rw [hvm]; exact State.WarmedH.refl s
  have hat' : ∀ w ∈ vx_at0 own ic cls names, w.before args s' = true := fun w hw => vx_ot_at hW0 hvm.symm (hgood w (List.mem_cons_of_mem _ (List.mem_cons_of_mem _ hw))) (hat w hw)
  have hk' : (Cond.classLink own ik cls).before args s' = true := vx_ot_at hW0 hvm.symm (hgood _ List.mem_cons_self) hk
  have hini' : (Cond.initialized cls).before args s' = true := vx_ot_at hW0 hvm.symm (hgood _ (List.mem_cons_of_mem _ List.mem_cons_self)) hini
  have hU' : vx_Zq Bundle.tN "UNASSIGNED_STACK" Bundle.steD A s' s'.heap := by rw [hhp]; exact vx_Zq.moved hW0.alike (hU.kept hS.2.1)
  have hN' : vx_Zq Bundle.tN "SUPPRESSED_SENTINEL" Bundle.listD A s' s'.heap := by rw [hhp]; exact vx_Zq.moved hW0.alike (hN.kept hS.2.1)
  have h : ∀ w ∈ Bundle.ownAtoms0 own ic cls names, w.before args s' = true := vx_own hat' (vx_isRefq hU'.1) (vx_isRefq hN'.1) hU'.2.word hN'.2.word
  have hown' : s'.vm.findClass own = some m.cls := by rw [hvm]; exact hown
  have hins : (Cond.instantiable cls 6).before args s' = true := h _ (by simp [Bundle.ownAtoms0])
  obtain ⟨vm₁, cX, kX, hfX, hkX, -, -, X₁, st1⟩ := Y.newCold hexec (own := own) (C := cls) (index := ik) (n := 6) hown' hk' hins hini'
    (g := F0 m pc ls rest) rfl (by rw [hb]; exact d0) (Nat.le_refl _) (Nat.le_refl _)
  generalize hT1 : (T.setVm vm₁).pushCell { cls := cX, slots := kX.instanceTypes.map defaultValue, vm := .none } = T1 at X₁ st1
  have hcat : (Value.ref T.heap.size).category = 1 := rfl
  have hcellA : T1.heap[T.heap.size]? = some (freshCell cX kX) := by rw [← hT1]; exact State.heap_pushCell_size _ _
  have d3' : decode c.code (pc + 3) = .ok (.dup, 1) := by rw [hb]; exact d3
  obtain ⟨U, hsteps, hrun, hend, hW, hsame, ce, hce, hO⟩ := X₁.ctorThrow0 hexec htr (own := own) (cls := cls) (names := names) (ic := ic) hown' hcls hnames h (fun x hx => nomatch hx) hfX hkX hcellA (by rw [hhp, hT]; exact Nat.le_refl _)
    (g := { method := m, pc := pc + 4, locals := ls, stack := .ref T.heap.size :: .ref T.heap.size :: rest, locked := none }) rfl hsize rfl rfl (rest := rest) rfl
    (by rw [hb]; exact d4) (by rw [hb]; exact d7) hout hRframes (by simp only [List.map_cons, List.sum_cons, hcat]; omega) hlocks
  obtain ⟨f1, f2⟩ := vx_frame hsame
  rw [hhp] at f1 f2
  have hWs : s.WarmedH U.vm := State.WarmedH.trans hW0 hW
  have hcl : s.vm.findClass cls = some ce.cls := by
    have h9 := hO.cls
    rw [hvm] at h9
    exact h9
  have hall : s.sameButNew ({ U with vm := s.vm } : State) locs mc ms := by
    subst hA
    obtain ⟨e1, e2⟩ := hsame
    rw [State.setFrames_setFrames] at e1
    have h2 : (T.setVm s.vm).sameButNew ({ U with vm := s.vm } : State) [] (0 + 1) (0 + 6) := ⟨e1, e2⟩
    have h3 := X.same.trans h2
    rw [List.append_nil] at h3
    exact h3.mono hc hs
  refine ⟨U, ?_, .threw T.heap.size, hrun, hend, Or.inr ⟨T.heap.size, rfl, cls, ce, locs, hx U hWs.alike f1 (fun q hq => f2 q hq (fun z hz => nomatch hz)), hce, hO.vm, hcl, hWs, hall, hf⟩⟩
  refine st1 _ ?_
  show Steps p.tables e below (T1.setTop { method := m, pc := pc + 3, locals := ls, stack := .ref T.heap.size :: rest, locked := none }) _
  jvm_step X₁.here [X₁.here.top, hexec, d3', Value.category]
  exact hsteps
/-- 'throw new E("text")': new; dup; ldc; invokespecial; athrow -/
theorem vx_throwS {cc : ByteArray} {pc : Nat} (hexec : p.tables.exec = Jvm.exec) (hb : c.code = cc) (hl : l.stackTraces = false) {own cls text : String} {names : List String} {ik is ic mc ms sa : Nat} {A : Nat → Prop}
    (hown : s.vm.findClass own = some m.cls) (hcls : Bundle.fit cls = true) (hnames : ∀ n ∈ names, Bundle.fit n = true)
    (hk : (Cond.classLink own ik cls).before args s = true) (hini : (Cond.initialized cls).before args s = true) (hstr : vk_R own is text sa s) (hat : ∀ w ∈ vx_atS own ic cls names, w.before args s = true)
    (hgood : ∀ w ∈ Cond.classLink own ik cls :: Cond.initialized cls :: vx_atS own ic cls names, vx_ot w = true)
    (hU : vx_Zq Bundle.tN "UNASSIGNED_STACK" Bundle.steD A s s.heap) (hN : vx_Zq Bundle.tN "SUPPRESSED_SENTINEL" Bundle.listD A s s.heap) (hS : va_S A s.heap H locs) (hsize : ls.size = c.maxLocals)
    (d0 : decode cc pc = .ok (.new ik, 3)) (d3 : decode cc (pc + 3) = .ok (.dup, 1)) (d4 : decode cc (pc + 4) = .ok (.ldc is, 2)) (d6 : decode cc (pc + 6) = .ok (.invokespecial ic, 3)) (d9 : decode cc (pc + 9) = .ok (.athrow, 1))
    (hout : ∀ x ∈ c.exceptionTable.toList, covers x (pc + 9) = false)
    (hRframes : names.length + 3 < R.frames) (hRlocals : (rest.map fun v => v.category).sum + (13 * (names.length + 1) + 43) ≤ R.locals) (hRcells : cells + 1 ≤ R.cells) (hRslots : slots + 6 ≤ R.slots) (hlocks : meth.locks = false)
    (hx : ∀ t : State, s.vm.Alike t.vm → H.size ≤ t.heap.size → (∀ q : Nat, q < H.size → t.heap[q]? = H[q]?) → XC cls s t)
    (hf : ∀ z ∈ locs, free z.base) (hc : cells + 1 ≤ mc) (hs : slots + 6 ≤ ms) :
    W p l e R s m args below meth c H locs cells slots (vx_MQ below Qc XC args s mc ms free) (F0 m pc ls rest) := by
  intro T hT X
  have htr : e.platform.stackTraces = false := (show e.platform.stackTraces = l.stackTraces by rw [X.admits.platform]).trans hl
  have Y := vx_rebase X (R' := { frames := R.frames, locals := R.locals, cells := 1, slots := 6 }) (Nat.le_refl _) (Nat.le_refl _) hRcells hRslots
  obtain ⟨s', hA⟩ : ∃ z, z = (T.setVm s.vm).setFrames (.invoking m args :: below) := ⟨_, rfl⟩
  rw [← hA] at Y
  have hvm : s'.vm = s.vm := by rw [hA]; rfl
  have hhp : s'.heap = H := by rw [hA]; exact hT
  have hW0 : s.WarmedH s'.vm := by rw [hvm]; exact State.WarmedH.refl s
  have hat' : ∀ w ∈ vx_atS own ic cls names, w.before args s' = true := fun w hw => vx_ot_at hW0 hvm.symm (hgood w (List.mem_cons_of_mem _ (List.mem_cons_of_mem _ hw))) (hat w hw)
  have hk' : (Cond.classLink own ik cls).before args s' = true := vx_ot_at hW0 hvm.symm (hgood _ List.mem_cons_self) hk
  have hini' : (Cond.initialized cls).before args s' = true := vx_ot_at hW0 hvm.symm (hgood _ (List.mem_cons_of_mem _ List.mem_cons_self)) hini
  have hU' : vx_Zq Bundle.tN "UNASSIGNED_STACK" Bundle.steD A s' s'.heap := by rw [hhp]; exact vx_Zq.moved hW0.alike (hU.kept hS.2.1)
  have hN' : vx_Zq Bundle.tN "SUPPRESSED_SENTINEL" Bundle.listD A s' s'.heap := by rw [hhp]; exact vx_Zq.moved hW0.alike (hN.kept hS.2.1)
  have h : ∀ w ∈ Bundle.ownAtoms own ic cls names, w.before args s' = true := vx_own hat' (vx_isRefq hU'.1) (vx_isRefq hN'.1) hU'.2.word hN'.2.word
  have hown' : s'.vm.findClass own = some m.cls := by rw [hvm]; exact hown
  have hins : (Cond.instantiable cls 6).before args s' = true := h _ (by simp [Bundle.ownAtoms])
  obtain ⟨vm₁, cX, kX, hfX, hkX, -, -, X₁, st1⟩ := Y.newCold hexec (own := own) (C := cls) (index := ik) (n := 6) hown' hk' hins hini'
    (g := F0 m pc ls rest) rfl (by rw [hb]; exact d0) (Nat.le_refl _) (Nat.le_refl _)
  generalize hT1 : (T.setVm vm₁).pushCell { cls := cX, slots := kX.instanceTypes.map defaultValue, vm := .none } = T1 at X₁ st1
  have hcat : (Value.ref T.heap.size).category = 1 := rfl
  have hcellA : T1.heap[T.heap.size]? = some (freshCell cX kX) := by rw [← hT1]; exact State.heap_pushCell_size _ _
  have d3' : decode c.code (pc + 3) = .ok (.dup, 1) := by rw [hb]; exact d3
  have d4' : decode c.code (pc + 4) = .ok (.ldc is, 2) := by rw [hb]; exact d4
  have hstr' : vk_R own is text sa s' := vk_R.warm hW0 hstr
  obtain ⟨U, hsteps, hrun, hend, hW, hsame, ce, hce, hO⟩ := X₁.ctorThrowS hexec htr (own := own) (cls := cls) (names := names) (ic := ic) hown' hcls hnames h (fun x hx => nomatch hx) hfX hkX hcellA (by rw [hhp, hT]; exact Nat.le_refl _) (msg := .ref sa) rfl
    (g := { method := m, pc := pc + 6, locals := ls, stack := .ref sa :: .ref T.heap.size :: .ref T.heap.size :: rest, locked := none }) rfl hsize rfl rfl (rest := rest) rfl
    (by rw [hb]; exact d6) (by rw [hb]; exact d9) hout hRframes (by simp only [List.map_cons, List.sum_cons, hcat]; omega) hlocks
  obtain ⟨f1, f2⟩ := vx_frame hsame
  rw [hhp] at f1 f2
  have hWs : s.WarmedH U.vm := State.WarmedH.trans hW0 hW
  have hcl : s.vm.findClass cls = some ce.cls := by
    have h9 := hO.cls
    rw [hvm] at h9
    exact h9
  have hall : s.sameButNew ({ U with vm := s.vm } : State) locs mc ms := by
    subst hA
    obtain ⟨e1, e2⟩ := hsame
    rw [State.setFrames_setFrames] at e1
    have h2 : (T.setVm s.vm).sameButNew ({ U with vm := s.vm } : State) [] (0 + 1) (0 + 6) := ⟨e1, e2⟩
    have h3 := X.same.trans h2
    rw [List.append_nil] at h3
    exact h3.mono hc hs
  refine ⟨U, ?_, .threw T.heap.size, hrun, hend, Or.inr ⟨T.heap.size, rfl, cls, ce, locs, hx U hWs.alike f1 (fun q hq => f2 q hq (fun z hz => nomatch hz)), hce, hO.vm, hcl, hWs, hall, hf⟩⟩
  refine st1 _ ?_
  show Steps p.tables e below (T1.setTop { method := m, pc := pc + 3, locals := ls, stack := .ref T.heap.size :: rest, locked := none }) _
  jvm_step X₁.here [X₁.here.top, hexec, d3', Value.category]
  exact X₁.ldcString hexec (own := own) (text := text) (index := is) (a := sa) hown' hstr'.1 hstr'.2
    (g := { method := m, pc := pc + 4, locals := ls, stack := .ref T.heap.size :: .ref T.heap.size :: rest, locked := none }) rfl d4' _ hsteps
/-- 'throw new E("text")', the text by a wide index -/
theorem vx_throwSW {cc : ByteArray} {pc : Nat} (hexec : p.tables.exec = Jvm.exec) (hb : c.code = cc) (hl : l.stackTraces = false) {own cls text : String} {names : List String} {ik is ic mc ms sa : Nat} {A : Nat → Prop}
    (hown : s.vm.findClass own = some m.cls) (hcls : Bundle.fit cls = true) (hnames : ∀ n ∈ names, Bundle.fit n = true)
    (hk : (Cond.classLink own ik cls).before args s = true) (hini : (Cond.initialized cls).before args s = true) (hstr : vk_R own is text sa s) (hat : ∀ w ∈ vx_atS own ic cls names, w.before args s = true)
    (hgood : ∀ w ∈ Cond.classLink own ik cls :: Cond.initialized cls :: vx_atS own ic cls names, vx_ot w = true)
    (hU : vx_Zq Bundle.tN "UNASSIGNED_STACK" Bundle.steD A s s.heap) (hN : vx_Zq Bundle.tN "SUPPRESSED_SENTINEL" Bundle.listD A s s.heap) (hS : va_S A s.heap H locs) (hsize : ls.size = c.maxLocals)
    (d0 : decode cc pc = .ok (.new ik, 3)) (d3 : decode cc (pc + 3) = .ok (.dup, 1)) (d4 : decode cc (pc + 4) = .ok (.ldc_w is, 3)) (d7 : decode cc (pc + 7) = .ok (.invokespecial ic, 3)) (d10 : decode cc (pc + 10) = .ok (.athrow, 1))
    (hout : ∀ x ∈ c.exceptionTable.toList, covers x (pc + 10) = false)
    (hRframes : names.length + 3 < R.frames) (hRlocals : (rest.map fun v => v.category).sum + (13 * (names.length + 1) + 43) ≤ R.locals) (hRcells : cells + 1 ≤ R.cells) (hRslots : slots + 6 ≤ R.slots) (hlocks : meth.locks = false)
    (hx : ∀ t : State, s.vm.Alike t.vm → H.size ≤ t.heap.size → (∀ q : Nat, q < H.size → t.heap[q]? = H[q]?) → XC cls s t)
    (hf : ∀ z ∈ locs, free z.base) (hc : cells + 1 ≤ mc) (hs : slots + 6 ≤ ms) :
    W p l e R s m args below meth c H locs cells slots (vx_MQ below Qc XC args s mc ms free) (F0 m pc ls rest) := by
  intro T hT X
  have htr : e.platform.stackTraces = false := (show e.platform.stackTraces = l.stackTraces by rw [X.admits.platform]).trans hl
  have Y := vx_rebase X (R' := { frames := R.frames, locals := R.locals, cells := 1, slots := 6 }) (Nat.le_refl _) (Nat.le_refl _) hRcells hRslots
  obtain ⟨s', hA⟩ : ∃ z, z = (T.setVm s.vm).setFrames (.invoking m args :: below) := ⟨_, rfl⟩
  rw [← hA] at Y
  have hvm : s'.vm = s.vm := by rw [hA]; rfl
  have hhp : s'.heap = H := by rw [hA]; exact hT
  have hW0 : s.WarmedH s'.vm := by rw [hvm]; exact State.WarmedH.refl s
  have hat' : ∀ w ∈ vx_atS own ic cls names, w.before args s' = true := fun w hw => vx_ot_at hW0 hvm.symm (hgood w (List.mem_cons_of_mem _ (List.mem_cons_of_mem _ hw))) (hat w hw)
  have hk' : (Cond.classLink own ik cls).before args s' = true := vx_ot_at hW0 hvm.symm (hgood _ List.mem_cons_self) hk
  have hini' : (Cond.initialized cls).before args s' = true := vx_ot_at hW0 hvm.symm (hgood _ (List.mem_cons_of_mem _ List.mem_cons_self)) hini
  have hU' : vx_Zq Bundle.tN "UNASSIGNED_STACK" Bundle.steD A s' s'.heap := by rw [hhp]; exact vx_Zq.moved hW0.alike (hU.kept hS.2.1)
  have hN' : vx_Zq Bundle.tN "SUPPRESSED_SENTINEL" Bundle.listD A s' s'.heap := by rw [hhp]; exact vx_Zq.moved hW0.alike (hN.kept hS.2.1)
  have h : ∀ w ∈ Bundle.ownAtoms own ic cls names, w.before args s' = true := vx_own hat' (vx_isRefq hU'.1) (vx_isRefq hN'.1) hU'.2.word hN'.2.word
  have hown' : s'.vm.findClass own = some m.cls := by rw [hvm]; exact hown
  have hins : (Cond.instantiable cls 6).before args s' = true := h _ (by simp [Bundle.ownAtoms])
  obtain ⟨vm₁, cX, kX, hfX, hkX, -, -, X₁, st1⟩ := Y.newCold hexec (own := own) (C := cls) (index := ik) (n := 6) hown' hk' hins hini'
    (g := F0 m pc ls rest) rfl (by rw [hb]; exact d0) (Nat.le_refl _) (Nat.le_refl _)
  generalize hT1 : (T.setVm vm₁).pushCell { cls := cX, slots := kX.instanceTypes.map defaultValue, vm := .none } = T1 at X₁ st1
  have hcat : (Value.ref T.heap.size).category = 1 := rfl
  have hcellA : T1.heap[T.heap.size]? = some (freshCell cX kX) := by rw [← hT1]; exact State.heap_pushCell_size _ _
  have d3' : decode c.code (pc + 3) = .ok (.dup, 1) := by rw [hb]; exact d3
  have d4' : decode c.code (pc + 4) = .ok (.ldc_w is, 3) := by rw [hb]; exact d4
  have hstr' : vk_R own is text sa s' := vk_R.warm hW0 hstr
  obtain ⟨U, hsteps, hrun, hend, hW, hsame, ce, hce, hO⟩ := X₁.ctorThrowS hexec htr (own := own) (cls := cls) (names := names) (ic := ic) hown' hcls hnames h (fun x hx => nomatch hx) hfX hkX hcellA (by rw [hhp, hT]; exact Nat.le_refl _) (msg := .ref sa) rfl
    (g := { method := m, pc := pc + 7, locals := ls, stack := .ref sa :: .ref T.heap.size :: .ref T.heap.size :: rest, locked := none }) rfl hsize rfl rfl (rest := rest) rfl
    (by rw [hb]; exact d7) (by rw [hb]; exact d10) hout hRframes (by simp only [List.map_cons, List.sum_cons, hcat]; omega) hlocks
  obtain ⟨f1, f2⟩ := vx_frame hsame
  rw [hhp] at f1 f2
  have hWs : s.WarmedH U.vm := State.WarmedH.trans hW0 hW
  have hcl : s.vm.findClass cls = some ce.cls := by
    have h9 := hO.cls
    rw [hvm] at h9
    exact h9
  have hall : s.sameButNew ({ U with vm := s.vm } : State) locs mc ms := by
    subst hA
    obtain ⟨e1, e2⟩ := hsame
    rw [State.setFrames_setFrames] at e1
    have h2 : (T.setVm s.vm).sameButNew ({ U with vm := s.vm } : State) [] (0 + 1) (0 + 6) := ⟨e1, e2⟩
    have h3 := X.same.trans h2
    rw [List.append_nil] at h3
    exact h3.mono hc hs
  refine ⟨U, ?_, .threw T.heap.size, hrun, hend, Or.inr ⟨T.heap.size, rfl, cls, ce, locs, hx U hWs.alike f1 (fun q hq => f2 q hq (fun z hz => nomatch hz)), hce, hO.vm, hcl, hWs, hall, hf⟩⟩
  refine st1 _ ?_
  show Steps p.tables e below (T1.setTop { method := m, pc := pc + 3, locals := ls, stack := .ref T.heap.size :: rest, locked := none }) _
  jvm_step X₁.here [X₁.here.top, hexec, d3', Value.category]
  exact X₁.ldcStringW hexec (own := own) (text := text) (index := is) (a := sa) hown' hstr'.1 hstr'.2
    (g := { method := m, pc := pc + 4, locals := ls, stack := .ref T.heap.size :: .ref T.heap.size :: rest, locked := none }) rfl d4' _ hsteps
end Ends
section Bodies
variable {l : Launch}
theorem vx_ofW {y : MethodName} {ws ws' : List Cond} {rm : Room} {Pc : Array Value → State → Prop} {Qc : Array Value → State → Outcome → State → Prop} {XC : String → State → State → Prop} {mc ms : Nat} {free : Addr → Prop} {cc : ByteArray} {maxL : Nat} {ret : Option FieldType}
    (hy : plainName y.cls = true) (hw : ws = Cond.code y cc maxL ret :: ws')
    (body : ∀ p e s m args below meth c s₁, BodyLoose p l y (headSpec ws rm) cc maxL ret e s m args below meth c s₁ → c.maxLocals = maxL → (∀ x ∈ c.exceptionTable.toList, False) → Pc args s →
      W p l e (headSpec ws rm).room s m args below meth c s.heap [] 0 0 (vx_MQ below Qc XC args s mc ms free) (entryFrame m args maxL)) : vx_Met l y ws rm Pc Qc XC mc ms free := by
  refine MetFree.of_bodyS (code := cc) (maxLocals := maxL) (ret := ret) hy ?_ ?_
  · intro args s m h hn
    obtain ⟨meth, c, h1, h2, h3, h4, h5, h6, -, -⟩ := Cond.code_spec hn (atoms_spec (ws := ws) h _ (by rw [hw]; exact List.mem_cons_self))
    exact ⟨meth, c, h1, h2, h3, h4, h5, h6⟩
  · intro p e s m args below meth c s₁ B hml hP _
    have hh0 : s₁.heap = s.heap := by rw [B.state]; rfl
    have ht : ∀ x ∈ c.exceptionTable.toList, False := by
      obtain ⟨meth9, c9, h1, h2, -, -, -, -, h7, -⟩ := Cond.code_spec B.named (atoms_spec (ws := ws) B.pre _ (by rw [hw]; exact List.mem_cons_self))
      cases Option.some.inj (h1.symm.trans B.method)
      cases Option.some.inj (h2.symm.trans (Stand.of_body B).code)
      intro x hx
      rw [Array.isEmpty_iff.mp h7] at hx
      cases hx
    obtain ⟨t, a1, o, b1, b2, b3⟩ := body p e s m args below meth c s₁ B hml ht hP s₁ hh0 (Stand.of_body B)
    exact ⟨t, o, a1, b1, b2, b3⟩
/-- the table of a body with handlers -/
theorem vx_table {p : Program} {x y : MethodName} {S : Spec} {cc bytes : ByteArray} {maxL maxL' : Nat} {ret ret' : Option FieldType} {e : Env} {s s₁ : State} {m : MethodId} {args : Array Value} {below : List Frame} {meth : Method} {c : Code} {hh : List (Nat × Nat × Nat × Nat)}
    (B : BodyLoose p l y S cc maxL ret e s m args below meth c s₁) (h : (Cond.codeWith y bytes maxL' ret' hh).before args s = true) : c.exceptionTable.toList = tableOf hh := by
  obtain ⟨m9, meth9, c9, hn9, h1, h2, -, -, h6, -⟩ := Cond.codeWith_spec h
  cases Option.some.inj (hn9.symm.trans B.named)
  cases Option.some.inj (h1.symm.trans B.method)
  cases Option.some.inj (h2.symm.trans (Stand.of_body B).code)
  rw [← h6, table_eq]
end Bodies
end VXA
/-! ===== END ===== -/
/-! ===== BEGIN a static call of a method with an exception table ===== -/
section VXS
variable {p : Program} {l : Launch} {e : Env} {R : Room} {s : State} {m : MethodId} {args : Array Value} {below : List Frame} {meth : Method} {c : Code} {T : State} {H : Heap} {locs : List Loc} {cells slots : Nat}
abbrev vx_CSW (R : Room) (s : State) (args : Array Value) (own : String) (index : Nat) (y : MethodName) (bytes : ByteArray) (maxL : Nat) (ret : Option FieldType) (hh : List (Nat × Nat × Nat × Nat)) (ws : List Cond) (rm : Room) (mc ms n : Nat) : Prop :=
  (rm.cells = mc ∧ rm.slots = ms ∧ rm.frames + 1 ≤ R.frames ∧ 8 + (maxL + 11) + rm.locals ≤ R.locals ∧ (∀ w ∈ ws, ∀ (a' : Array Value) (U : State), s.WarmedH U.vm → w.before a' U = true) ∧ Cond.codeWith y bytes maxL ret hh ∈ ws) ∧
  (Cond.codeWith y bytes maxL ret hh).before args s = true ∧ (Cond.initialized y.cls).before args s = true ∧ (y.cls ≠ "java/lang/invoke/MethodHandle" ∧ y.cls ≠ "java/lang/invoke/VarHandle") ∧
  (∀ sig, parseMethodDescriptor y.desc = some sig → n = sig.parameters.length) ∧ (Cond.methodLink own index y).before args s = true ∧ (Cond.static y).before args s = true
theorem vx_cwSW {own : String} {index maxL mc ms : Nat} {y : MethodName} {bytes : ByteArray} {ret : Option FieldType} {hh : List (Nat × Nat × Nat × Nat)} {Ts ws ws' : List Cond} {rm : Room} (n : Nat) (ht : ∀ w ∈ Ts, w.before args s = true) (hT : GoodIn Ts (va_wsS own index y ws)) (hw : ws = Cond.codeWith y bytes maxL ret hh :: ws') (hrc : rm.cells = mc) (hrs : rm.slots = ms)
    (hd : y.cls ≠ "java/lang/invoke/MethodHandle" ∧ y.cls ≠ "java/lang/invoke/VarHandle" ∧ (parseMethodDescriptor y.desc).map (fun d => d.parameters.length) = some n) (hR : rm.frames + 1 ≤ R.frames ∧ 8 + (maxL + 11) + rm.locals ≤ R.locals) :
    vx_CSW R s args own index y bytes maxL ret hh ws rm mc ms n := by
  have ok : ∀ w ∈ va_wsS own index y ws, w.before args s = true := fun w h => ht w (hT w h).1
  have hG : GoodIn Ts ws := fun w h => hT w (by unfold va_wsS; exact List.mem_append_right _ h)
  have hc : Cond.codeWith y bytes maxL ret hh ∈ ws := by rw [hw]; exact List.mem_cons_self
  refine ⟨⟨hrc, hrs, hR.1, hR.2, pay_in ht hG, hc⟩, ht _ (hG _ hc).1, ok _ (by simp [va_wsS]), ⟨hd.1, hd.2.1⟩, fun sig h => ?_, ok _ (by simp [va_wsS]), ok _ (by simp [va_wsS])⟩
  have h2 := hd.2.2
  rw [h] at h2
  exact (Option.some.inj h2).symm
theorem vx_callSW (X : Stand p l e R s m args below meth c T locs cells slots) (hexec : p.tables.exec = Jvm.exec) {own : String} {index : Nat} {y : MethodName} {bytes : ByteArray} {maxL : Nat} {ret : Option FieldType} {hh : List (Nat × Nat × Nat × Nat)}
    (hown : s.vm.findClass own = some m.cls) (hlink : (Cond.methodLink own index y).before args s = true) (hstat : (Cond.static y).before args s = true) (hinit : (Cond.initialized y.cls).before args s = true)
    (hcode : (Cond.codeWith y bytes maxL ret hh).before args s = true) (hy : y.cls ≠ "java/lang/invoke/MethodHandle" ∧ y.cls ≠ "java/lang/invoke/VarHandle")
    {W9 : Nat} {Pre : Pt → Array Value → Prop} {Post : Pt → Array Value → Option Value → Pt → Prop} (hK : Back l R p e below s args y 3 W9 Pre Post)
    {g : JFrame} (hg : g.method = m) (hsize : g.locals.size = c.maxLocals) {argsL rest : List Value} (hlen : ∀ sig, parseMethodDescriptor y.desc = some sig → argsL.length = sig.parameters.length)
    (hstack : g.stack = argsL.reverse ++ rest) (hW : 2 * g.monitorRoom + (rest.map fun v => v.category).sum ≤ W9) (hdg : decode c.code g.pc = .ok (.invokestatic index, 3))
    (hpre : ∀ vm₁, s.WarmedH vm₁ → Pre ⟨T.setVm vm₁, locs, cells, slots⟩ argsL.toArray) :
    ∃ (v : Option Value) (vm₁ : Vm) (B : Pt), s.WarmedH vm₁ ∧ Stand p l e R s m args below meth c B.U B.locs B.cells B.slots ∧ Post ⟨T.setVm vm₁, locs, cells, slots⟩ argsL.toArray v B ∧
      ∀ target, Steps p.tables e below (B.U.setTop { g with pc := g.pc + 3, stack := v.toList ++ rest }) target → Steps p.tables e below (T.setTop g) target := by
  obtain ⟨mk, methM, cM, hnamed, hmethM, -, -, -, -, -, -, hsigM⟩ := Cond.codeWith_spec hcode
  have hstatic : methM.isStatic = true := Cond.static_spec hnamed hmethM hstat
  obtain ⟨kP, hkP, -⟩ := className_of_methodNamed hnamed
  have hinitP : kP.init = .initialized := Cond.initialized_spec (findClass_of_methodNamed hnamed) hkP hinit
  obtain ⟨vm₁, X₁, hstep₁⟩ := X.invokestatic hexec hown hlink hnamed hmethM hstatic hkP hinitP hy (g := g) hg (argsL := argsL) (rest := rest) (hlen _ hsigM) hstack hdg
  obtain ⟨v, B, X', hpost, hsteps⟩ := hK m meth c ⟨T.setVm vm₁, locs, cells, slots⟩ { g with stack := rest } (.invokestatic index) mk argsL.toArray X₁ hg hsize hdg hW (X₁.named hnamed) (hpre vm₁ X₁.warmed)
  exact ⟨v, vm₁, B, X₁.warmed, X', hpost, fun target h => hstep₁ _ fun acts => by rw [doInvoke_state]; exact hsteps.trans h⟩
theorem vx_runSW {y : MethodName} {bytes cc : ByteArray} {maxL nL mc ms n index : Nat} {ret : Option FieldType} {hh : List (Nat × Nat × Nat × Nat)} {ws : List Cond} {rm : Room} {Pc : Array Value → State → Prop} {Qc : Array Value → State → Outcome → State → Prop} {free : Addr → Prop} {Ts : List Cond} {own : String} {As rest : List Value} {g : JFrame}
    (S : CallFix p m c cc nL s args Ts own) (hM : Met l y ws rm Pc Qc mc ms free) (cw : vx_CSW R s args own index y bytes maxL ret hh ws rm mc ms n) (hp : PreS s H Pc As)
    (hg : g.method = m) (hn : As.length = n) (hsize : g.locals.size = nL) (hstack : g.stack = As.reverse ++ rest) (hW : 2 * g.monitorRoom + (rest.map fun v => v.category).sum ≤ 8) (hdg : decode cc g.pc = .ok (.invokestatic index, 3)) (hf : cells + mc ≤ R.cells ∧ slots + ms ≤ R.slots) :
    va_Run p l e R s m args below meth c H locs cells slots mc ms g rest (Qc As.toArray) (free) := by
  obtain ⟨⟨hrc, hrs, hfr, hlo, hws, hcw⟩, hcode, hini, hy, hlen, hl, hstt⟩ := cw
  have hK : Back l R p e below s args y 3 8 (PreOf R mc ms Pc) (PostOf Qc mc ms free) := va_backW (hh := hh) (bytes := bytes) (maxL := maxL) (ret := ret) hM hp.1 hrc hrs hfr hlo hws hcw (fun a' U hW => word_at hW (Or.inl (by first | rfl | simp [Cond.onTables, Cond.keeps, Cond.steady])) hini)
  obtain ⟨hx, hb, hml, ho, -⟩ := S
  intro T hT X
  obtain ⟨v, vm₁, ⟨U', l2, c2, s2⟩, hW₁, X', ⟨g', mk, t, L, e1, e2, hq, h1, hL, h2, h3⟩, st⟩ := vx_callSW X hx (hh := hh) (bytes := bytes) (maxL := maxL) (ret := ret) ho hl hstt hini hcode hy hK hg (hsize.trans hml.symm) (argsL := As) (rest := rest) (fun sig h => hn.trans (hlen sig h)) hstack hW (by rw [hb]; exact hdg)
    (fun vm₁ hW₁ => ⟨hf.1, hf.2, hp.2 (T.setVm vm₁) hT hW₁⟩)
  dsimp only [Pt.U, Pt.locs, Pt.cells, Pt.slots] at X' e1 e2 h1 h2 h3 st
  subst h1; subst h2; subst h3
  exact ⟨v, (T.setVm vm₁).calling g' mk As.toArray, t, U', L, hT, X', hL, e1, e2, hq, st⟩
/-- not caught here, past rows that name other classes: it goes on to the caller -/
theorem vx_outP {p : Program} {l : Launch} {e : Env} {R : Room} {s : State} {m : MethodId} {args : Array Value} {below : List Frame} {meth : Method} {c : Code} {H : Heap} {locs : List Loc} {cells slots : Nat} {free : Addr → Prop} {ls : Array Slot} {rest : List Value} {Qc : Array Value → State → Outcome → State → Prop} {XC : String → State → State → Prop}
    {pc : Nat} {own E : String} {ce : Cell} {q : Addr} {mc ms : Nat} (hown : s.vm.findClass own = some m.cls) (hlocks : meth.locks = false)
    (hpass : ∀ z ∈ c.exceptionTable.toList, covers z pc = false ∨ (z.catchType ≠ 0 ∧ ∃ nm : String, (Cond.classLink own z.catchType nm).before args s = true ∧ va_Nc E nm s)) (hcell : H[q]? = some ce) (hv : ce.vm = .none) (hcl : s.vm.findClass E = some ce.cls)
    (hx : ∀ t : State, t.heap = H → s.vm.Alike t.vm → XC E s t) (hf : ∀ z ∈ locs, free z.base) (hc : cells ≤ mc) (hs : slots ≤ ms) :
    vx_W p l e R s m args below meth c H locs cells slots (vx_MQ below Qc XC args s mc ms free) (F0 m pc ls rest) q := by
  intro T hT X
  have hpl : e.platform.magicAccessors = ({} : Platform).magicAccessors := by rw [X.admits.platform]
  obtain ⟨vm', hW', X', st⟩ := X.outThrough hlocks q (g := F0 m pc ls rest) rfl rfl rfl (cell := ce) (by rw [hT]; exact hcell) (by rw [hv]; rfl)
    (by obtain ⟨k9, h9, -⟩ := Vm.findClass_spec hcl; exact ⟨k9, h9⟩) (fun z hz => by
      rcases hpass z hz with h | ⟨hz0, nm, hl1, hn1⟩
      · exact Or.inl h
      · obtain ⟨c6, hc6, hcl6⟩ := Cond.classLink_spec hown hl1 e.platform hpl
        obtain ⟨a8, b8, h1, h2, h3⟩ := hn1
        cases Option.some.inj (h1.symm.trans hcl)
        cases Option.some.inj (h2.symm.trans hc6)
        exact Or.inr ⟨hz0, _, hcl6, h3⟩)
  obtain ⟨g₀, hfr⟩ := X'.frames_eq
  have hcell9 : ((T.setVm vm').setFrames (.throwing q :: below)).heap[q]? = some ce := by
    show T.heap[q]? = some ce
    rw [hT]; exact hcell
  have hend : Ended ((T.setVm vm').setFrames (.throwing q :: below)) below (.threw q) := State.frames_setFrames _ (State.cur_lt_of_frames hfr)
  refine ⟨(T.setVm vm').setFrames (.throwing q :: below), ?_, .threw q, X'.here.running, hend, Or.inr ⟨q, rfl, E, ce, locs, hx _ hT (X'.ends _).1.alike, hcell9, hv, hcl, (X'.ends _).1, (X'.ends _).2.mono hc hs, hf⟩⟩
  rw [X.pushThrowing_eq]
  exact st
/-- a thing of a world lies in the heap -/
theorem vx_lt {D : va_G} {cl : List vw_C} {ws : va_W} {H1 : Heap} (h : va_P D cl ws H1) {k : Nat} {q : Nat × va_E} (hk : ws[k]? = some q) : q.1 < H1.size := (h k q hk).lt
end VXS
/-! ===== END ===== -/
/-! ===== BEGIN methods with a table of their own: called by a name, returning or throwing ===== -/
section VXH
/-! vx_backW, vx_callVX, vx_callSX, vx_callVW, vx_runVW, vx_runVX, vx_runSX, vx_ofWH follow the same proofs as their sisters above (Free/Laws.lean, Shelf42/LK1.lean); vx_outP calls Shelf42/NT130.lean (outThrough). -/
section
variable {l : Launch} {R : Room} {p : Program} {e : Env} {below : List Frame} {s : State} {sargs : Array Value} {y : MethodName} {len W9 : Nat}
theorem vx_backW {ws : List Cond} {rm : Room} {Pc : Array Value → State → Prop} {Qc : Array Value → State → Outcome → State → Prop} {XC : String → State → State → Prop} {mc ms : Nat} {free : Addr → Prop} {bytes : ByteArray} {maxL : Nat} {ret : Option FieldType} {hh : List (Nat × Nat × Nat × Nat)}
    (hM : vx_Met l y ws rm Pc Qc XC mc ms free) (hblind : FrameBlind Pc) (hrc : rm.cells = mc) (hrs : rm.slots = ms)
    (hframes : rm.frames + 1 ≤ R.frames) (hlocals : W9 + (maxL + 11) + rm.locals ≤ R.locals)
    (hws : ∀ w ∈ ws, ∀ a' U, s.WarmedH U.vm → w.before a' U = true) (hcode : Cond.codeWith y bytes maxL ret hh ∈ ws) (hinit : ∀ a' U, s.WarmedH U.vm → (Cond.initialized y.cls).before a' U = true) :
    vx_Back l R p e below s sargs y len W9 (PreOf R mc ms Pc) (PostOf Qc mc ms free) (vx_Post XC mc ms free) := by
  intro m meth c A g ig mk a X hg hsize hdg hW hn hp
  have h1 : (headSpec ws rm).pre.before a A.U = true := atoms_intro fun w hw => hws w hw _ _ X.warmed
  have h2 : (Cond.codeWith y bytes maxL ret hh).before a A.U = true := hws _ hcode _ _ X.warmed
  have h3 : (Cond.initialized y.cls).before a A.U = true := hinit _ _ X.warmed
  have h4 : A.cells + (headSpec ws rm).room.cells ≤ R.cells := by rw [show (headSpec ws rm).room.cells = mc from hrc]; exact hp.1
  have h5 : A.slots + (headSpec ws rm).room.slots ≤ R.slots := by rw [show (headSpec ws rm).room.slots = ms from hrs]; exact hp.2.1
  have hPc : Pc a (A.U.calling g mk a) := hblind _ _ _ _ hp.2.2
  obtain ⟨U, Ls, c0, s0⟩ := A
  dsimp only [Pt.U, Pt.locs, Pt.cells, Pt.slots] at h1 h2 h3 h4 h5 X hn hPc ⊢
  obtain ⟨m9, methY, cY, hn9, hmY, hcY, -, hlY, -⟩ := Cond.codeWith_spec h2
  cases Option.some.inj (hn9.symm.trans hn)
  obtain ⟨kY, hkY, -⟩ := className_of_methodNamed hn
  have hinitY : kY.init = .initialized := Cond.initialized_spec (findClass_of_methodNamed hn) hkY h3
  have h : At U g.method c below := by rw [hg]; exact X.here
  have hlocals9 : W9 + (maxL + 11) + (headSpec ws rm).room.locals ≤ R.locals := hlocals
  have happ : (headSpec ws rm).appliesLoose y e.platform (U.calling g mk a) = true :=
    Spec.appliesLoose_calling (g := g) h hdg hn hkY hinitY
      (X.room_calling (g := g) (R' := (headSpec ws rm).room) hsize hmY hcY hframes (by rw [hlY]; omega) h4 h5) h1
  obtain ⟨mid, hmid⟩ := h.above
  have hfr : (U.setTop g).frames = (.java g :: mid) ++ below := by rw [State.frames_setTop' g h.top, hmid]; rfl
  obtain ⟨o, s₂, hsteps, -, hend, hq⟩ := Steps.callFree hM p X.admits X.cas X.clock (acts := []) hfr happ hPc trivial
  have hq' : vx_Q Qc XC mc ms free a (U.calling g mk a) o s₂ := hq
  rw [State.frames_setTop' g h.top] at hend
  obtain ⟨g₀, hg0⟩ := Option.isSome_iff_exists.mp h.top
  obtain ⟨r, hr⟩ := State.topJava?_eq_some.mp hg0
  have hr' : (({ U with heap := s₂.heap, slotsUsed := s₂.slotsUsed } : State).setVm s₂.vm).frames = .java g₀ :: r := hr
  rcases hq' with ⟨hqc, L, hfe, hL⟩ | ⟨q, rfl, E, ce, L, hx, hce, hcv, hcl, hW₂, hsm, hL⟩
  · obtain ⟨⟨v, rfl⟩, hW₂, e2, q2, q3, q4, q5, q6⟩ := id hfe
    have e3 : s₂ = ({ (U.calling g mk a).setFrames s₂.frames with heap := s₂.heap, slotsUsed := s₂.slotsUsed } : State).setVm s₂.vm := by
      have : s₂ = ({ s₂ with vm := (U.calling g mk a).vm } : State).setVm s₂.vm := rfl
      rw [e2] at this
      exact this
    obtain ⟨c₂, i₂, len₂, hc₂, hd₂, hf₂⟩ := hend
    have hW' : U.WarmedH s₂.vm := hW₂
    have hcc : c₂ = c := by
      have h1 : s₂.code? g.method = U.code? g.method := by
        rw [State.code?_eq, State.code?_eq, hW'.alike.method?]
      exact Option.some.inj (hc₂.symm.trans (h1.trans h.code))
    subst hcc
    have hlen : len₂ = len := by rw [hdg] at hd₂; cases hd₂; rfl
    subst hlen
    have hs₂ : s₂ = (({ U with heap := s₂.heap, slotsUsed := s₂.slotsUsed } : State).setVm s₂.vm).setTop { g with pc := g.pc + len₂, stack := v.toList ++ g.stack } := by
      refine e3.trans ?_
      rw [hf₂, State.calling_eq h.top, State.setFrames_setFrames, State.setTop_of_frames _ hr', hr]
      rfl
    have hsame : U.sameButNew ({ U with heap := s₂.heap, slotsUsed := s₂.slotsUsed } : State) L mc ms := by
      refine ⟨?_, q2, q3, q4, q5, q6⟩
      obtain ⟨t, ht, -⟩ := State.frames_cons hr
      show ({ U with heap := s₂.heap, slotsUsed := s₂.slotsUsed } : State) = { U.setFrames U.frames with heap := s₂.heap, slotsUsed := s₂.slotsUsed }
      rw [State.setFrames_self ht]
    subst hg
    refine Or.inl ⟨v, ⟨(({ U with heap := s₂.heap, slotsUsed := s₂.slotsUsed } : State).setVm s₂.vm), Ls ++ L, c0 + mc, s0 + ms⟩,
      ⟨X.admits, X.cas, X.clock, X.frames, X.room, X.hears, X.method, X.code, (X.here.setHeapUsed s₂.heap s₂.slotsUsed).setVm hW'.alike, X.tail, State.WarmedH.trans X.warmed hW', X.limits, X.bytes, X.same.trans (hsame.setVm s.vm)⟩,
      ⟨g, mk, s₂, L, rfl, rfl, hqc, rfl, hL, rfl, rfl⟩, ?_⟩
    show Steps p.tables e below _ ((({ U with heap := s₂.heap, slotsUsed := s₂.slotsUsed } : State).setVm s₂.vm).setTop { g with pc := g.pc + len₂, stack := v.toList ++ g.stack })
    rw [← hs₂]
    exact hsteps
  · obtain ⟨e2, q2, q3, q4, q5, q6⟩ := id hsm
    have e3 : s₂ = ({ (U.calling g mk a).setFrames s₂.frames with heap := s₂.heap, slotsUsed := s₂.slotsUsed } : State).setVm s₂.vm := by
      have : s₂ = ({ s₂ with vm := (U.calling g mk a).vm } : State).setVm s₂.vm := rfl
      rw [e2] at this
      exact this
    have hf₂ : s₂.frames = .throwing q :: .java g :: U.frames.tail := hend
    have hW' : U.WarmedH s₂.vm := hW₂
    have hs₂ : s₂ = ((({ U with heap := s₂.heap, slotsUsed := s₂.slotsUsed } : State).setVm s₂.vm).setTop g).pushFrame (.throwing q) := by
      refine e3.trans ?_
      rw [hf₂, State.calling_eq h.top, State.setFrames_setFrames, State.pushFrame, State.frames_setTop _ hr', State.setTop_of_frames _ hr', State.setFrames_setFrames, hr]
      rfl
    have hsame : U.sameButNew ({ U with heap := s₂.heap, slotsUsed := s₂.slotsUsed } : State) L mc ms := by
      refine ⟨?_, q2, q3, q4, q5, q6⟩
      obtain ⟨t, ht, -⟩ := State.frames_cons hr
      show ({ U with heap := s₂.heap, slotsUsed := s₂.slotsUsed } : State) = { U.setFrames U.frames with heap := s₂.heap, slotsUsed := s₂.slotsUsed }
      rw [State.setFrames_self ht]
    subst hg
    refine Or.inr ⟨q, ⟨(({ U with heap := s₂.heap, slotsUsed := s₂.slotsUsed } : State).setVm s₂.vm), Ls ++ L, c0 + mc, s0 + ms⟩,
      ⟨X.admits, X.cas, X.clock, X.frames, X.room, X.hears, X.method, X.code, (X.here.setHeapUsed s₂.heap s₂.slotsUsed).setVm hW'.alike, X.tail, State.WarmedH.trans X.warmed hW', X.limits, X.bytes, X.same.trans (hsame.setVm s.vm)⟩,
      ⟨g, mk, s₂, L, E, ce, rfl, rfl, hx, hce, hcv, hcl, rfl, hL, rfl, rfl⟩, ?_⟩
    show Steps p.tables e below _ (((({ U with heap := s₂.heap, slotsUsed := s₂.slotsUsed } : State).setVm s₂.vm).setTop g).pushFrame (.throwing q))
    rw [← hs₂]
    exact hsteps
end
variable {p : Program} {l : Launch} {e : Env} {R : Room} {s : State} {m : MethodId} {args : Array Value} {below : List Frame} {meth : Method} {c : Code} {T : State} {H : Heap} {locs : List Loc} {cells slots : Nat}
theorem vx_callVX (X : Stand p l e R s m args below meth c T locs cells slots) (hexec : p.tables.exec = Jvm.exec) {own C : String} {index : Nat} {y : MethodName} {bytes : ByteArray} {maxL : Nat} {ret : Option FieldType} {hh : List (Nat × Nat × Nat × Nat)}
    (hown : s.vm.findClass own = some m.cls) (hlink : (Cond.methodLink own index y).before args s = true) (hinst : (Cond.instanceMethod y).before args s = true) (hsel : (Cond.selects C y y).before args s = true)
    (hcode : (Cond.codeWith y bytes maxL ret hh).before args s = true) (hy : y.cls ≠ "java/lang/invoke/MethodHandle" ∧ y.cls ≠ "java/lang/invoke/VarHandle")
    {W9 : Nat} {Pre : Pt → Array Value → Prop} {Post : Pt → Array Value → Option Value → Pt → Prop} {PostX : Pt → Array Value → Addr → Pt → Prop} (hK : vx_Back l R p e below s args y 3 W9 Pre Post PostX)
    {b : Addr} {cellB : Cell} (hcell : T.heap[b]? = some cellB) (hobj : cellB.vm.isStatics = false) (hcls : s.vm.findClass C = some cellB.cls)
    {g : JFrame} (hg : g.method = m) (hsize : g.locals.size = c.maxLocals) {argsL rest : List Value} (hlen : ∀ sig, parseMethodDescriptor y.desc = some sig → argsL.length = sig.parameters.length)
    (hstack : g.stack = argsL.reverse ++ .ref b :: rest) (hW : 2 * g.monitorRoom + (rest.map fun v => v.category).sum ≤ W9) (hdg : decode c.code g.pc = .ok (.invokevirtual index, 3))
    (hpre : ∀ vm₁, s.WarmedH vm₁ → Pre ⟨T.setVm vm₁, locs, cells, slots⟩ (Value.ref b :: argsL).toArray) :
    (∃ (v : Option Value) (vm₁ : Vm) (B : Pt), s.WarmedH vm₁ ∧ Stand p l e R s m args below meth c B.U B.locs B.cells B.slots ∧ Post ⟨T.setVm vm₁, locs, cells, slots⟩ (Value.ref b :: argsL).toArray v B ∧
      ∀ target, Steps p.tables e below (B.U.setTop { g with pc := g.pc + 3, stack := v.toList ++ rest }) target → Steps p.tables e below (T.setTop g) target) ∨
    (∃ (q : Addr) (vm₁ : Vm) (B : Pt), s.WarmedH vm₁ ∧ Stand p l e R s m args below meth c B.U B.locs B.cells B.slots ∧ PostX ⟨T.setVm vm₁, locs, cells, slots⟩ (Value.ref b :: argsL).toArray q B ∧
      Steps p.tables e below (T.setTop g) ((B.U.setTop { g with stack := rest }).pushFrame (.throwing q))) := by
  obtain ⟨mk, methM, hnamed, hmethM, hstM, habM⟩ := Cond.instanceMethod_spec hinst
  obtain ⟨m8, methM', cM, hn8, hmethM', -, -, -, -, -, -, hsigM⟩ := Cond.codeWith_spec hcode
  cases Option.some.inj (hn8.symm.trans hnamed)
  cases hmethM.symm.trans hmethM'
  obtain ⟨c2, r2, m2, q1, q2, q3, q4, kP, hkP, hkPi⟩ := Cond.selects_spec hsel
  cases hcls.symm.trans q1
  cases (State.methodFound?_of_named hnamed hy).symm.trans q2
  cases hnamed.symm.trans q3
  have hselP : selectMethod e.platform s.vm cellB.cls mk = .method mk := by rw [Launch.admits_selectMethod X.admits]; exact q4
  obtain ⟨vm₁, X₁, hstep₁⟩ := X.invokevirtual hexec hown hlink hnamed hmethM hstM hkP hkPi hy (a := b) (cell := cellB) hcell
    (fun z h => by rw [h] at hobj; cases hobj) hselP hmethM habM hkP hkPi (g := g) hg (argsL := argsL) (rest := rest) (hlen _ hsigM) hstack hdg
  rcases hK m meth c ⟨T.setVm vm₁, locs, cells, slots⟩ { g with stack := rest } (.invokevirtual index) mk (Value.ref b :: argsL).toArray X₁ hg hsize hdg hW (X₁.named hnamed) (hpre vm₁ X₁.warmed) with ⟨v, B, X', hpost, hsteps⟩ | ⟨q, B, X', hpost, hsteps⟩
  · exact Or.inl ⟨v, vm₁, B, X₁.warmed, X', hpost, fun target h => hstep₁ _ fun acts => by rw [doInvoke_state]; exact hsteps.trans h⟩
  · exact Or.inr ⟨q, vm₁, B, X₁.warmed, X', hpost, hstep₁ _ fun acts => by rw [doInvoke_state]; exact hsteps⟩
theorem vx_callSX (X : Stand p l e R s m args below meth c T locs cells slots) (hexec : p.tables.exec = Jvm.exec) {own : String} {index : Nat} {y : MethodName} {bytes : ByteArray} {maxL : Nat} {ret : Option FieldType} {hh : List (Nat × Nat × Nat × Nat)}
    (hown : s.vm.findClass own = some m.cls) (hlink : (Cond.methodLink own index y).before args s = true) (hstat : (Cond.static y).before args s = true) (hinit : (Cond.initialized y.cls).before args s = true)
    (hcode : (Cond.codeWith y bytes maxL ret hh).before args s = true) (hy : y.cls ≠ "java/lang/invoke/MethodHandle" ∧ y.cls ≠ "java/lang/invoke/VarHandle")
    {W9 : Nat} {Pre : Pt → Array Value → Prop} {Post : Pt → Array Value → Option Value → Pt → Prop} {PostX : Pt → Array Value → Addr → Pt → Prop} (hK : vx_Back l R p e below s args y 3 W9 Pre Post PostX)
    {g : JFrame} (hg : g.method = m) (hsize : g.locals.size = c.maxLocals) {argsL rest : List Value} (hlen : ∀ sig, parseMethodDescriptor y.desc = some sig → argsL.length = sig.parameters.length)
    (hstack : g.stack = argsL.reverse ++ rest) (hW : 2 * g.monitorRoom + (rest.map fun v => v.category).sum ≤ W9) (hdg : decode c.code g.pc = .ok (.invokestatic index, 3))
    (hpre : ∀ vm₁, s.WarmedH vm₁ → Pre ⟨T.setVm vm₁, locs, cells, slots⟩ argsL.toArray) :
    (∃ (v : Option Value) (vm₁ : Vm) (B : Pt), s.WarmedH vm₁ ∧ Stand p l e R s m args below meth c B.U B.locs B.cells B.slots ∧ Post ⟨T.setVm vm₁, locs, cells, slots⟩ argsL.toArray v B ∧
      ∀ target, Steps p.tables e below (B.U.setTop { g with pc := g.pc + 3, stack := v.toList ++ rest }) target → Steps p.tables e below (T.setTop g) target) ∨
    (∃ (q : Addr) (vm₁ : Vm) (B : Pt), s.WarmedH vm₁ ∧ Stand p l e R s m args below meth c B.U B.locs B.cells B.slots ∧ PostX ⟨T.setVm vm₁, locs, cells, slots⟩ argsL.toArray q B ∧
      Steps p.tables e below (T.setTop g) ((B.U.setTop { g with stack := rest }).pushFrame (.throwing q))) := by
  obtain ⟨mk, methM, cM, hnamed, hmethM, -, -, -, -, -, -, hsigM⟩ := Cond.codeWith_spec hcode
  have hstatic : methM.isStatic = true := Cond.static_spec hnamed hmethM hstat
  obtain ⟨kP, hkP, -⟩ := className_of_methodNamed hnamed
  have hinitP : kP.init = .initialized := Cond.initialized_spec (findClass_of_methodNamed hnamed) hkP hinit
  obtain ⟨vm₁, X₁, hstep₁⟩ := X.invokestatic hexec hown hlink hnamed hmethM hstatic hkP hinitP hy (g := g) hg (argsL := argsL) (rest := rest) (hlen _ hsigM) hstack hdg
  rcases hK m meth c ⟨T.setVm vm₁, locs, cells, slots⟩ { g with stack := rest } (.invokestatic index) mk argsL.toArray X₁ hg hsize hdg hW (X₁.named hnamed) (hpre vm₁ X₁.warmed) with ⟨v, B, X', hpost, hsteps⟩ | ⟨q, B, X', hpost, hsteps⟩
  · exact Or.inl ⟨v, vm₁, B, X₁.warmed, X', hpost, fun target h => hstep₁ _ fun acts => by rw [doInvoke_state]; exact hsteps.trans h⟩
  · exact Or.inr ⟨q, vm₁, B, X₁.warmed, X', hpost, hstep₁ _ fun acts => by rw [doInvoke_state]; exact hsteps⟩
theorem vx_callVW (X : Stand p l e R s m args below meth c T locs cells slots) (hexec : p.tables.exec = Jvm.exec) {own C : String} {index : Nat} {y : MethodName} {bytes : ByteArray} {maxL : Nat} {ret : Option FieldType} {hh : List (Nat × Nat × Nat × Nat)}
    (hown : s.vm.findClass own = some m.cls) (hlink : (Cond.methodLink own index y).before args s = true) (hinst : (Cond.instanceMethod y).before args s = true) (hsel : (Cond.selects C y y).before args s = true)
    (hcode : (Cond.codeWith y bytes maxL ret hh).before args s = true) (hy : y.cls ≠ "java/lang/invoke/MethodHandle" ∧ y.cls ≠ "java/lang/invoke/VarHandle")
    {W9 : Nat} {Pre : Pt → Array Value → Prop} {Post : Pt → Array Value → Option Value → Pt → Prop} (hK : Back l R p e below s args y 3 W9 Pre Post)
    {b : Addr} {cellB : Cell} (hcell : T.heap[b]? = some cellB) (hobj : cellB.vm.isStatics = false) (hcls : s.vm.findClass C = some cellB.cls)
    {g : JFrame} (hg : g.method = m) (hsize : g.locals.size = c.maxLocals) {argsL rest : List Value} (hlen : ∀ sig, parseMethodDescriptor y.desc = some sig → argsL.length = sig.parameters.length)
    (hstack : g.stack = argsL.reverse ++ .ref b :: rest) (hW : 2 * g.monitorRoom + (rest.map fun v => v.category).sum ≤ W9) (hdg : decode c.code g.pc = .ok (.invokevirtual index, 3))
    (hpre : ∀ vm₁, s.WarmedH vm₁ → Pre ⟨T.setVm vm₁, locs, cells, slots⟩ (Value.ref b :: argsL).toArray) :
    ∃ (v : Option Value) (vm₁ : Vm) (B : Pt), s.WarmedH vm₁ ∧ Stand p l e R s m args below meth c B.U B.locs B.cells B.slots ∧ Post ⟨T.setVm vm₁, locs, cells, slots⟩ (Value.ref b :: argsL).toArray v B ∧
      ∀ target, Steps p.tables e below (B.U.setTop { g with pc := g.pc + 3, stack := v.toList ++ rest }) target → Steps p.tables e below (T.setTop g) target := by
  obtain ⟨mk, methM, hnamed, hmethM, hstM, habM⟩ := Cond.instanceMethod_spec hinst
  obtain ⟨m8, methM', cM, hn8, hmethM', -, -, -, -, -, -, hsigM⟩ := Cond.codeWith_spec hcode
  cases Option.some.inj (hn8.symm.trans hnamed)
  cases hmethM.symm.trans hmethM'
  obtain ⟨c2, r2, m2, q1, q2, q3, q4, kP, hkP, hkPi⟩ := Cond.selects_spec hsel
  cases hcls.symm.trans q1
  cases (State.methodFound?_of_named hnamed hy).symm.trans q2
  cases hnamed.symm.trans q3
  have hselP : selectMethod e.platform s.vm cellB.cls mk = .method mk := by rw [Launch.admits_selectMethod X.admits]; exact q4
  obtain ⟨vm₁, X₁, hstep₁⟩ := X.invokevirtual hexec hown hlink hnamed hmethM hstM hkP hkPi hy (a := b) (cell := cellB) hcell
    (fun z h => by rw [h] at hobj; cases hobj) hselP hmethM habM hkP hkPi (g := g) hg (argsL := argsL) (rest := rest) (hlen _ hsigM) hstack hdg
  obtain ⟨v, B, X', hpost, hsteps⟩ := hK m meth c ⟨T.setVm vm₁, locs, cells, slots⟩ { g with stack := rest } (.invokevirtual index) mk (Value.ref b :: argsL).toArray X₁ hg hsize hdg hW (X₁.named hnamed) (hpre vm₁ X₁.warmed)
  exact ⟨v, vm₁, B, X₁.warmed, X', hpost, fun target h => hstep₁ _ fun acts => by rw [doInvoke_state]; exact hsteps.trans h⟩
abbrev vx_CVW (R : Room) (s : State) (args : Array Value) (own C : String) (index : Nat) (y : MethodName) (bytes : ByteArray) (maxL : Nat) (ret : Option FieldType) (hh : List (Nat × Nat × Nat × Nat)) (ws : List Cond) (rm : Room) (mc ms n : Nat) : Prop :=
  (rm.cells = mc ∧ rm.slots = ms ∧ rm.frames + 1 ≤ R.frames ∧ 8 + (maxL + 11) + rm.locals ≤ R.locals ∧ (∀ w ∈ ws, ∀ (a' : Array Value) (U : State), s.WarmedH U.vm → w.before a' U = true) ∧ Cond.codeWith y bytes maxL ret hh ∈ ws) ∧
  (Cond.codeWith y bytes maxL ret hh).before args s = true ∧ (Cond.initialized y.cls).before args s = true ∧ (y.cls ≠ "java/lang/invoke/MethodHandle" ∧ y.cls ≠ "java/lang/invoke/VarHandle") ∧
  (∀ sig, parseMethodDescriptor y.desc = some sig → n = sig.parameters.length) ∧ (Cond.methodLink own index y).before args s = true ∧ (Cond.instanceMethod y).before args s = true ∧ (Cond.selects C y y).before args s = true
theorem vx_cwVW {own C : String} {index maxL mc ms : Nat} {y : MethodName} {bytes : ByteArray} {ret : Option FieldType} {hh : List (Nat × Nat × Nat × Nat)} {Ts ws ws' : List Cond} {rm : Room} (n : Nat) (ht : ∀ w ∈ Ts, w.before args s = true) (hT : GoodIn Ts (wsV own index C y ws)) (hw : ws = Cond.codeWith y bytes maxL ret hh :: ws') (hrc : rm.cells = mc) (hrs : rm.slots = ms)
    (hd : y.cls = C ∧ y.cls ≠ "java/lang/invoke/MethodHandle" ∧ y.cls ≠ "java/lang/invoke/VarHandle" ∧ (parseMethodDescriptor y.desc).map (fun d => d.parameters.length) = some n) (hR : rm.frames + 1 ≤ R.frames ∧ 8 + (maxL + 11) + rm.locals ≤ R.locals) :
    vx_CVW R s args own C index y bytes maxL ret hh ws rm mc ms n := by
  obtain ⟨hC, hd⟩ := hd
  subst hC
  have ok : ∀ w ∈ wsV own index y.cls y ws, w.before args s = true := fun w h => ht w (hT w h).1
  have hG : GoodIn Ts ws := fun w h => hT w (by unfold wsV; exact List.mem_append_right _ h)
  have hc : Cond.codeWith y bytes maxL ret hh ∈ ws := by rw [hw]; exact List.mem_cons_self
  refine ⟨⟨hrc, hrs, hR.1, hR.2, pay_in ht hG, hc⟩, ht _ (hG _ hc).1, ok _ (by simp [wsV]), ⟨hd.1, hd.2.1⟩, fun sig h => ?_, ok _ (by simp [wsV]), ok _ (by simp [wsV]), ok _ (by simp [wsV])⟩
  have h2 := hd.2.2
  rw [h] at h2
  exact (Option.some.inj h2).symm
theorem vx_runVW {y : MethodName} {bytes cc : ByteArray} {maxL nL mc ms n index : Nat} {ret : Option FieldType} {hh : List (Nat × Nat × Nat × Nat)} {ws : List Cond} {rm : Room} {Pc : Array Value → State → Prop} {Qc : Array Value → State → Outcome → State → Prop} {free : Addr → Prop} {Ts : List Cond} {own C : String} {b : Addr} {As rest : List Value} {g : JFrame}
    (S : CallFix p m c cc nL s args Ts own) (hM : Met l y ws rm Pc Qc mc ms free) (cw : vx_CVW R s args own C index y bytes maxL ret hh ws rm mc ms n) (hp : PreV s H C b Pc As)
    (hg : g.method = m) (hn : As.length = n) (hsize : g.locals.size = nL) (hstack : g.stack = As.reverse ++ .ref b :: rest) (hW : 2 * g.monitorRoom + (rest.map fun v => v.category).sum ≤ 8) (hdg : decode cc g.pc = .ok (.invokevirtual index, 3)) (hf : cells + mc ≤ R.cells ∧ slots + ms ≤ R.slots) :
    va_Run p l e R s m args below meth c H locs cells slots mc ms g rest (Qc (Value.ref b :: As).toArray) free := by
  obtain ⟨⟨hrc, hrs, hfr, hlo, hws, hcw⟩, hcode, hini, hy, hlen, hl, hin, hse⟩ := cw
  have hK : Back l R p e below s args y 3 8 (PreOf R mc ms Pc) (PostOf Qc mc ms free) := va_backW (hh := hh) (bytes := bytes) (maxL := maxL) (ret := ret) hM hp.1 hrc hrs hfr hlo hws hcw (fun a' U hW => word_at hW (Or.inl (by first | rfl | simp [Cond.onTables, Cond.keeps, Cond.steady])) hini)
  obtain ⟨hx, hb, hml, ho, -⟩ := S
  obtain ⟨-, ⟨cellB, hcB, hoB, hclB⟩, hPc⟩ := hp
  intro T hT X
  obtain ⟨v, vm₁, ⟨U', l2, c2, s2⟩, hW₁, X', ⟨g', mk, t, L, e1, e2, hq, h1, hL, h2, h3⟩, st⟩ := vx_callVW X hx (C := C) (hh := hh) (bytes := bytes) (maxL := maxL) (ret := ret) ho hl hin hse hcode hy hK (by rw [hT]; exact hcB) hoB hclB hg (hsize.trans hml.symm) (argsL := As) (rest := rest) (fun sig h => hn.trans (hlen sig h)) hstack hW (by rw [hb]; exact hdg)
    (fun vm₁ hW₁ => ⟨hf.1, hf.2, hPc (T.setVm vm₁) hT hW₁⟩)
  dsimp only [Pt.U, Pt.locs, Pt.cells, Pt.slots] at X' e1 e2 h1 h2 h3 st
  subst h1; subst h2; subst h3
  exact ⟨v, (T.setVm vm₁).calling g' mk (Value.ref b :: As).toArray, t, U', L, hT, X', hL, e1, e2, hq, st⟩
section
variable {y : MethodName} {bytes cc : ByteArray} {maxL nL mc ms n index : Nat} {ret : Option FieldType} {ws : List Cond} {rm : Room} {Pc : Array Value → State → Prop} {Qc : Array Value → State → Outcome → State → Prop} {XC : String → State → State → Prop} {free : Addr → Prop} {Ts : List Cond} {own C : String} {b : Addr} {As rest : List Value} {g : JFrame}
theorem vx_runVX {hh : List (Nat × Nat × Nat × Nat)} (S : CallFix p m c cc nL s args Ts own) (hM : vx_Met l y ws rm Pc Qc XC mc ms free) (cw : vx_CVW R s args own C index y bytes maxL ret hh ws rm mc ms n) (hp : PreV s H C b Pc As)
    (hg : g.method = m) (hn : As.length = n) (hsize : g.locals.size = nL) (hstack : g.stack = As.reverse ++ .ref b :: rest) (hW : 2 * g.monitorRoom + (rest.map fun v => v.category).sum ≤ 8) (hdg : decode cc g.pc = .ok (.invokevirtual index, 3)) (hf : cells + mc ≤ R.cells ∧ slots + ms ≤ R.slots) :
    vx_Run p l e R s m args below meth c H locs cells slots mc ms g rest (Qc (Value.ref b :: As).toArray) XC free := by
  obtain ⟨⟨hrc, hrs, hfr, hlo, hws, hcw⟩, hcode, hini, hy, hlen, hl, hin, hse⟩ := cw
  have hK : vx_Back l R p e below s args y 3 8 (PreOf R mc ms Pc) (PostOf Qc mc ms free) (vx_Post XC mc ms free) := vx_backW (hh := hh) (bytes := bytes) (maxL := maxL) (ret := ret) hM hp.1 hrc hrs hfr hlo hws hcw (fun a' U hW => word_at hW (Or.inl (by first | rfl | simp [Cond.onTables, Cond.keeps, Cond.steady])) hini)
  obtain ⟨hx, hb, hml, ho, -⟩ := S
  obtain ⟨-, ⟨cellB, hcB, hoB, hclB⟩, hPc⟩ := hp
  intro T hT X
  rcases vx_callVX X hx (C := C) (hh := hh) (bytes := bytes) (maxL := maxL) (ret := ret) ho hl hin hse hcode hy hK (by rw [hT]; exact hcB) hoB hclB hg (hsize.trans hml.symm) (argsL := As) (rest := rest) (fun sig h => hn.trans (hlen sig h)) hstack hW (by rw [hb]; exact hdg)
    (fun vm₁ hW₁ => ⟨hf.1, hf.2, hPc (T.setVm vm₁) hT hW₁⟩) with ⟨v, vm₁, ⟨U', l2, c2, s2⟩, hW₁, X', ⟨g', mk, t, L, e1, e2, hq, h1, hL, h2, h3⟩, st⟩ | ⟨q, vm₁, ⟨U', l2, c2, s2⟩, hW₁, X', ⟨g', mk, t, L, E, ce, e1, e2, hq, hce, hcv, hcl, h1, hL, h2, h3⟩, st⟩
  · dsimp only [Pt.U, Pt.locs, Pt.cells, Pt.slots] at X' e1 e2 h1 h2 h3 st
    subst h1; subst h2; subst h3
    exact Or.inl ⟨v, (T.setVm vm₁).calling g' mk (Value.ref b :: As).toArray, t, U', L, hT, X', hL, e1, e2, hq, st⟩
  · dsimp only [Pt.U, Pt.locs, Pt.cells, Pt.slots] at X' e1 e2 h1 h2 h3 st hcl
    subst h1; subst h2; subst h3
    exact Or.inr ⟨q, (T.setVm vm₁).calling g' mk (Value.ref b :: As).toArray, t, U', L, E, ce, hT, X', hL, e1, e2, hq, hce, hcv, vx_cls hW₁ hcl, st⟩
theorem vx_runSX {hh : List (Nat × Nat × Nat × Nat)} (S : CallFix p m c cc nL s args Ts own) (hM : vx_Met l y ws rm Pc Qc XC mc ms free) (cw : vx_CSW R s args own index y bytes maxL ret hh ws rm mc ms n) (hp : PreS s H Pc As)
    (hg : g.method = m) (hn : As.length = n) (hsize : g.locals.size = nL) (hstack : g.stack = As.reverse ++ rest) (hW : 2 * g.monitorRoom + (rest.map fun v => v.category).sum ≤ 8) (hdg : decode cc g.pc = .ok (.invokestatic index, 3)) (hf : cells + mc ≤ R.cells ∧ slots + ms ≤ R.slots) :
    vx_Run p l e R s m args below meth c H locs cells slots mc ms g rest (Qc As.toArray) XC free := by
  obtain ⟨⟨hrc, hrs, hfr, hlo, hws, hcw⟩, hcode, hini, hy, hlen, hl, hstt⟩ := cw
  have hK : vx_Back l R p e below s args y 3 8 (PreOf R mc ms Pc) (PostOf Qc mc ms free) (vx_Post XC mc ms free) := vx_backW (hh := hh) (bytes := bytes) (maxL := maxL) (ret := ret) hM hp.1 hrc hrs hfr hlo hws hcw (fun a' U hW => word_at hW (Or.inl (by first | rfl | simp [Cond.onTables, Cond.keeps, Cond.steady])) hini)
  obtain ⟨hx, hb, hml, ho, -⟩ := S
  intro T hT X
  rcases vx_callSX X hx (hh := hh) (bytes := bytes) (maxL := maxL) (ret := ret) ho hl hstt hini hcode hy hK hg (hsize.trans hml.symm) (argsL := As) (rest := rest) (fun sig h => hn.trans (hlen sig h)) hstack hW (by rw [hb]; exact hdg)
    (fun vm₁ hW₁ => ⟨hf.1, hf.2, hp.2 (T.setVm vm₁) hT hW₁⟩) with ⟨v, vm₁, ⟨U', l2, c2, s2⟩, hW₁, X', ⟨g', mk, t, L, e1, e2, hq, h1, hL, h2, h3⟩, st⟩ | ⟨q, vm₁, ⟨U', l2, c2, s2⟩, hW₁, X', ⟨g', mk, t, L, E, ce, e1, e2, hq, hce, hcv, hcl, h1, hL, h2, h3⟩, st⟩
  · dsimp only [Pt.U, Pt.locs, Pt.cells, Pt.slots] at X' e1 e2 h1 h2 h3 st
    subst h1; subst h2; subst h3
    exact Or.inl ⟨v, (T.setVm vm₁).calling g' mk As.toArray, t, U', L, hT, X', hL, e1, e2, hq, st⟩
  · dsimp only [Pt.U, Pt.locs, Pt.cells, Pt.slots] at X' e1 e2 h1 h2 h3 st hcl
    subst h1; subst h2; subst h3
    exact Or.inr ⟨q, (T.setVm vm₁).calling g' mk As.toArray, t, U', L, E, ce, hT, X', hL, e1, e2, hq, hce, hcv, vx_cls hW₁ hcl, st⟩
end
end VXH
theorem vx_ofWH {l : Launch} {y : MethodName} {ws ws' : List Cond} {rm : Room} {Pc : Array Value → State → Prop} {Qc : Array Value → State → Outcome → State → Prop} {XC : String → State → State → Prop} {mc ms : Nat} {free : Addr → Prop} {cc : ByteArray} {maxL : Nat} {ret : Option FieldType} {hh : List (Nat × Nat × Nat × Nat)}
    (hy : plainName y.cls = true) (hw : ws = Cond.codeWith y cc maxL ret hh :: ws')
    (body : ∀ p e s m args below meth c s₁, BodyLoose p l y (headSpec ws rm) cc maxL ret e s m args below meth c s₁ → c.maxLocals = maxL → Pc args s →
      W p l e (headSpec ws rm).room s m args below meth c s.heap [] 0 0 (vx_MQ below Qc XC args s mc ms free) (entryFrame m args maxL)) : vx_Met l y ws rm Pc Qc XC mc ms free := by
  refine MetFree.of_bodyS (code := cc) (maxLocals := maxL) (ret := ret) hy ?_ ?_
  · intro args s m h hn
    obtain ⟨m9, meth, c, hn9, h1, h2, h3, h4, -, h5, h6, -⟩ := Cond.codeWith_spec (atoms_spec (ws := ws) h _ (by rw [hw]; exact List.mem_cons_self))
    cases hn.symm.trans hn9
    exact ⟨meth, c, h1, h2, h3, h4, h5, h6⟩
  · intro p e s m args below meth c s₁ B hml hP _
    have hh0 : s₁.heap = s.heap := by rw [B.state]; rfl
    obtain ⟨t, a1, o, b1, b2, b3⟩ := body p e s m args below meth c s₁ B hml hP s₁ hh0 (Stand.of_body B)
    exact ⟨t, o, a1, b1, b2, b3⟩
/-! ===== END ===== -/
end
section
def RX0 : String := "DataMaker$Code"
def TX0 : u_T := fun k => match k with
  | 0 => ("DataMaker$Code", "numbers", "[I", true)
  | _ => ("DataMaker$Code", "kept", "I", false)
def tyX0 : Nat → FieldType := fun k => match k with
  | 0 => .array .int
  | _ => .int
theorem nmX0 : ∀ a, a < 2 → ∀ b, b < 2 → a ≠ b → (TX0 a).2.1 ≠ (TX0 b).2.1 := by decide +kernel
theorem tyX0_ok : ∀ k, k < 2 → parseFieldDescriptor (TX0 k).2.2.1 = some (tyX0 k) := by decide +kernel
abbrev cX0_init : ByteArray := prog_2_method_1_code
def yX0_init : MethodName := ⟨RX0, "<init>", "()V"⟩
abbrev cX0_at : ByteArray := prog_2_method_2_code
def yX0_at : MethodName := ⟨RX0, "at", "(I)I"⟩
abbrev cX0_write : ByteArray := prog_2_method_3_code
def yX0_write : MethodName := ⟨RX0, "write", "(LDataMaker$Value;)V"⟩
abbrev cX0_appendValue : ByteArray := prog_2_method_4_code
def yX0_appendValue : MethodName := ⟨RX0, "appendValue", "(LDataMaker$Value;I)V"⟩
abbrev cX0_append : ByteArray := prog_2_method_5_code
def yX0_append : MethodName := ⟨RX0, "append", "(I)V"⟩
def RX1 : String := "DataMaker$Grammar"
def TX1 : u_T := fun k => match k with
  | 0 => ("DataMaker$Grammar", "low", "I", false)
  | 1 => ("DataMaker$Grammar", "high", "I", false)
  | 2 => ("DataMaker$Grammar", "types", "I", false)
  | 3 => ("DataMaker$Grammar", "constructors", "I", false)
  | 4 => ("DataMaker$Grammar", "owners", "[I", true)
  | 5 => ("DataMaker$Grammar", "parameters", "[I", true)
  | 6 => ("DataMaker$Grammar", "typesAhead", "[I", true)
  | _ => ("DataMaker$Grammar", "conditions", "[I", true)
def tyX1 : Nat → FieldType := fun k => match k with
  | 0 => .int
  | 1 => .int
  | 2 => .int
  | 3 => .int
  | 4 => .array .int
  | 5 => .array .int
  | 6 => .array .int
  | _ => .array .int
theorem nmX1 : ∀ a, a < 8 → ∀ b, b < 8 → a ≠ b → (TX1 a).2.1 ≠ (TX1 b).2.1 := by decide +kernel
theorem tyX1_ok : ∀ k, k < 8 → parseFieldDescriptor (TX1 k).2.2.1 = some (tyX1 k) := by decide +kernel
abbrev cX1_init : ByteArray := prog_3_method_1_code
def yX1_init : MethodName := ⟨RX1, "<init>", "()V"⟩
abbrev cX1_hasType : ByteArray := prog_3_method_2_code
def yX1_hasType : MethodName := ⟨RX1, "hasType", "(I)Z"⟩
abbrev cX1_hasConstructor : ByteArray := prog_3_method_3_code
def yX1_hasConstructor : MethodName := ⟨RX1, "hasConstructor", "(I)Z"⟩
abbrev cX1_allowsParameters : ByteArray := prog_3_method_4_code
def yX1_allowsParameters : MethodName := ⟨RX1, "allowsParameters", "(III)Z"⟩
abbrev cX1_isParameter : ByteArray := prog_3_method_5_code
def yX1_isParameter : MethodName := ⟨RX1, "isParameter", "(I)Z"⟩
abbrev cX1_append : ByteArray := prog_3_method_6_code
def yX1_append : MethodName := ⟨RX1, "append", "(IIIII)V"⟩
abbrev cX1_typeOf : ByteArray := prog_3_method_7_code
def yX1_typeOf : MethodName := ⟨RX1, "typeOf", "(I)I"⟩
abbrev cX1_conditionOf : ByteArray := prog_3_method_8_code
def yX1_conditionOf : MethodName := ⟨RX1, "conditionOf", "(I)I"⟩
abbrev cX1_parameter : ByteArray := prog_3_method_9_code
def yX1_parameter : MethodName := ⟨RX1, "parameter", "(II)I"⟩
abbrev cX1_typesFrom : ByteArray := prog_3_method_10_code
def yX1_typesFrom : MethodName := ⟨RX1, "typesFrom", "(II)I"⟩
def RX2 : String := "DataMaker$Reductions"
def TX2 : u_T := fun k => match k with
  | 0 => ("DataMaker$Reductions", "values", "[LDataMaker$Value;", true)
  | _ => ("DataMaker$Reductions", "kept", "I", false)
def tyX2 : Nat → FieldType := fun k => match k with
  | 0 => .array (.object "DataMaker$Value")
  | _ => .int
theorem nmX2 : ∀ a, a < 2 → ∀ b, b < 2 → a ≠ b → (TX2 a).2.1 ≠ (TX2 b).2.1 := by decide +kernel
theorem tyX2_ok : ∀ k, k < 2 → parseFieldDescriptor (TX2 k).2.2.1 = some (tyX2 k) := by decide +kernel
abbrev cX2_init : ByteArray := prog_4_method_1_code
def yX2_init : MethodName := ⟨RX2, "<init>", "()V"⟩
abbrev cX2_at : ByteArray := prog_4_method_2_code
def yX2_at : MethodName := ⟨RX2, "at", "(I)LDataMaker$Value;"⟩
abbrev cX2_firstUnfit : ByteArray := prog_4_method_3_code
def yX2_firstUnfit : MethodName := ⟨RX2, "firstUnfit", "(I)LDataMaker$Value;"⟩
abbrev cX2_collect : ByteArray := prog_4_method_4_code
def yX2_collect : MethodName := ⟨RX2, "collect", "(LDataMaker$Value;LDataMaker$Stock;)V"⟩
abbrev cX2_addPartsOf : ByteArray := prog_4_method_5_code
def yX2_addPartsOf : MethodName := ⟨RX2, "addPartsOf", "(LDataMaker$Value;II)V"⟩
abbrev cX2_has : ByteArray := prog_4_method_6_code
def yX2_has : MethodName := ⟨RX2, "has", "(I)Z"⟩
abbrev cX2_append : ByteArray := prog_4_method_7_code
def yX2_append : MethodName := ⟨RX2, "append", "(LDataMaker$Value;)V"⟩
def RX3 : String := "DataMaker$Stock"
def TX3 : u_T := fun k => match k with
  | 0 => ("DataMaker$Stock", "grammar", "LDataMaker$Grammar;", true)
  | 1 => ("DataMaker$Stock", "pool", "[LDataMaker$Value;", true)
  | 2 => ("DataMaker$Stock", "ordered", "[LDataMaker$Value;", true)
  | 3 => ("DataMaker$Stock", "kept", "[I", true)
  | 4 => ("DataMaker$Stock", "ends", "[I", true)
  | 5 => ("DataMaker$Stock", "beginnings", "[LDataMaker$Value;", true)
  | 6 => ("DataMaker$Stock", "used", "I", false)
  | 7 => ("DataMaker$Stock", "overfull", "Z", false)
  | 8 => ("DataMaker$Stock", "reach", "I", false)
  | _ => ("DataMaker$Stock", "fresh", "Z", false)
def tyX3 : Nat → FieldType := fun k => match k with
  | 0 => .object "DataMaker$Grammar"
  | 1 => .array (.object "DataMaker$Value")
  | 2 => .array (.object "DataMaker$Value")
  | 3 => .array .int
  | 4 => .array .int
  | 5 => .array (.object "DataMaker$Value")
  | 6 => .int
  | 7 => .boolean
  | 8 => .int
  | _ => .boolean
theorem nmX3 : ∀ a, a < 10 → ∀ b, b < 10 → a ≠ b → (TX3 a).2.1 ≠ (TX3 b).2.1 := by decide +kernel
theorem tyX3_ok : ∀ k, k < 10 → parseFieldDescriptor (TX3 k).2.2.1 = some (tyX3 k) := by decide +kernel
abbrev cX3_init : ByteArray := prog_5_method_1_code
def yX3_init : MethodName := ⟨RX3, "<init>", "(LDataMaker$Grammar;)V"⟩
abbrev cX3_upTo : ByteArray := prog_5_method_2_code
def yX3_upTo : MethodName := ⟨RX3, "upTo", "(II)I"⟩
abbrev cX3_valueAt : ByteArray := prog_5_method_3_code
def yX3_valueAt : MethodName := ⟨RX3, "valueAt", "(II)LDataMaker$Value;"⟩
abbrev cX3_find : ByteArray := prog_5_method_4_code
def yX3_find : MethodName := ⟨RX3, "find", "(LDataMaker$Value;)LDataMaker$Value;"⟩
abbrev cX3_refresh : ByteArray := prog_5_method_5_code
def yX3_refresh : MethodName := ⟨RX3, "refresh", "()V"⟩
abbrev cX3_makeSize : ByteArray := prog_5_method_6_code
def yX3_makeSize : MethodName := ⟨RX3, "makeSize", "(I)V"⟩
abbrev cX3_closeSize : ByteArray := prog_5_method_7_code
def yX3_closeSize : MethodName := ⟨RX3, "closeSize", "(I)V"⟩
abbrev cX3_extend : ByteArray := prog_5_method_8_code
def yX3_extend : MethodName := ⟨RX3, "extend", "(LDataMaker$Value;I)V"⟩
abbrev cX3_isHopeless : ByteArray := prog_5_method_9_code
def yX3_isHopeless : MethodName := ⟨RX3, "isHopeless", "(LDataMaker$Value;Z)Z"⟩
abbrev cX3_extendByNumbers : ByteArray := prog_5_method_10_code
def yX3_extendByNumbers : MethodName := ⟨RX3, "extendByNumbers", "(LDataMaker$Value;I)V"⟩
abbrev cX3_extendByParts : ByteArray := prog_5_method_11_code
def yX3_extendByParts : MethodName := ⟨RX3, "extendByParts", "(LDataMaker$Value;III)V"⟩
abbrev cX3_copyToExtend : ByteArray := prog_5_method_12_code
def yX3_copyToExtend : MethodName := ⟨RX3, "copyToExtend", "(LDataMaker$Value;)LDataMaker$Value;"⟩
abbrev cX3_keep : ByteArray := prog_5_method_13_code
def yX3_keep : MethodName := ⟨RX3, "keep", "(LDataMaker$Value;)V"⟩
def RX4 : String := "DataMaker$Told"
def TX4 : u_T := fun k => match k with
  | 0 => ("DataMaker$Told", "grammar", "LDataMaker$Grammar;", true)
  | 1 => ("DataMaker$Told", "numbers", "[I", true)
  | 2 => ("DataMaker$Told", "drafts", "[LDataMaker$Value;", true)
  | 3 => ("DataMaker$Told", "opened", "I", false)
  | 4 => ("DataMaker$Told", "position", "I", false)
  | _ => ("DataMaker$Told", "kept", "I", false)
def tyX4 : Nat → FieldType := fun k => match k with
  | 0 => .object "DataMaker$Grammar"
  | 1 => .array .int
  | 2 => .array (.object "DataMaker$Value")
  | 3 => .int
  | 4 => .int
  | _ => .int
theorem nmX4 : ∀ a, a < 6 → ∀ b, b < 6 → a ≠ b → (TX4 a).2.1 ≠ (TX4 b).2.1 := by decide +kernel
theorem tyX4_ok : ∀ k, k < 6 → parseFieldDescriptor (TX4 k).2.2.1 = some (tyX4 k) := by decide +kernel
abbrev cX4_init : ByteArray := prog_6_method_1_code
def yX4_init : MethodName := ⟨RX4, "<init>", "(LDataMaker$Grammar;)V"⟩
abbrev cX4_append : ByteArray := prog_6_method_2_code
def yX4_append : MethodName := ⟨RX4, "append", "(I)V"⟩
abbrev cX4_parse : ByteArray := prog_6_method_3_code
def yX4_parse : MethodName := ⟨RX4, "parse", "(I)LDataMaker$Value;"⟩
abbrev cX4_parseValue : ByteArray := prog_6_method_4_code
def yX4_parseValue : MethodName := ⟨RX4, "parseValue", "(I)LDataMaker$Value;"⟩
abbrev cX4_parseArgument : ByteArray := prog_6_method_5_code
def yX4_parseArgument : MethodName := ⟨RX4, "parseArgument", "(LDataMaker$Value;I)Z"⟩
abbrev cX4_next : ByteArray := prog_6_method_6_code
def yX4_next : MethodName := ⟨RX4, "next", "()I"⟩
def RX5 : String := "DataMaker$Value"
def TX5 : u_T := fun k => match k with
  | 0 => ("DataMaker$Value", "type", "I", false)
  | 1 => ("DataMaker$Value", "rank", "I", false)
  | 2 => ("DataMaker$Value", "constructor", "I", false)
  | 3 => ("DataMaker$Value", "arguments", "I", false)
  | 4 => ("DataMaker$Value", "numbers", "[I", true)
  | 5 => ("DataMaker$Value", "parts", "[LDataMaker$Value;", true)
  | 6 => ("DataMaker$Value", "size", "I", false)
  | 7 => ("DataMaker$Value", "height", "I", false)
  | 8 => ("DataMaker$Value", "lowestPart", "I", false)
  | 9 => ("DataMaker$Value", "firstNumber", "I", false)
  | 10 => ("DataMaker$Value", "intCount", "I", false)
  | 11 => ("DataMaker$Value", "intSum", "I", false)
  | 12 => ("DataMaker$Value", "leastInt", "I", false)
  | 13 => ("DataMaker$Value", "lastInt", "I", false)
  | 14 => ("DataMaker$Value", "firstInt", "I", false)
  | _ => ("DataMaker$Value", "ascending", "Z", false)
def tyX5 : Nat → FieldType := fun k => match k with
  | 0 => .int
  | 1 => .int
  | 2 => .int
  | 3 => .int
  | 4 => .array .int
  | 5 => .array (.object "DataMaker$Value")
  | 6 => .int
  | 7 => .int
  | 8 => .int
  | 9 => .int
  | 10 => .int
  | 11 => .int
  | 12 => .int
  | 13 => .int
  | 14 => .int
  | _ => .boolean
theorem nmX5 : ∀ a, a < 16 → ∀ b, b < 16 → a ≠ b → (TX5 a).2.1 ≠ (TX5 b).2.1 := by decide +kernel
theorem tyX5_ok : ∀ k, k < 16 → parseFieldDescriptor (TX5 k).2.2.1 = some (tyX5 k) := by decide +kernel
abbrev cX5_init : ByteArray := prog_7_method_1_code
def yX5_init : MethodName := ⟨RX5, "<init>", "()V"⟩
abbrev cX5_begin : ByteArray := prog_7_method_2_code
def yX5_begin : MethodName := ⟨RX5, "begin", "(II)V"⟩
abbrev cX5_copyFrom : ByteArray := prog_7_method_3_code
def yX5_copyFrom : MethodName := ⟨RX5, "copyFrom", "(LDataMaker$Value;)V"⟩
abbrev cX5_addNumber : ByteArray := prog_7_method_4_code
def yX5_addNumber : MethodName := ⟨RX5, "addNumber", "(I)V"⟩
abbrev cX5_addPart : ByteArray := prog_7_method_5_code
def yX5_addPart : MethodName := ⟨RX5, "addPart", "(LDataMaker$Value;)V"⟩
abbrev cX5_joinInts : ByteArray := prog_7_method_6_code
def yX5_joinInts : MethodName := ⟨RX5, "joinInts", "(III)V"⟩
abbrev cX5_fits : ByteArray := prog_7_method_7_code
def yX5_fits : MethodName := ⟨RX5, "fits", "(I)Z"⟩
abbrev cX5_clashesWith : ByteArray := prog_7_method_8_code
def yX5_clashesWith : MethodName := ⟨RX5, "clashesWith", "(LDataMaker$Value;I)Z"⟩
abbrev cX5_partsDiffer : ByteArray := prog_7_method_9_code
def yX5_partsDiffer : MethodName := ⟨RX5, "partsDiffer", "()I"⟩
abbrev cX5_codeLength : ByteArray := prog_7_method_10_code
def yX5_codeLength : MethodName := ⟨RX5, "codeLength", "()I"⟩
abbrev cX5_partAt : ByteArray := prog_7_method_11_code
def yX5_partAt : MethodName := ⟨RX5, "partAt", "(I)LDataMaker$Value;"⟩
abbrev cX5_differsFrom : ByteArray := prog_7_method_12_code
def yX5_differsFrom : MethodName := ⟨RX5, "differsFrom", "(LDataMaker$Value;)I"⟩
abbrev cX5_distance : ByteArray := prog_7_method_13_code
def yX5_distance : MethodName := ⟨RX5, "distance", "(LDataMaker$Value;LDataMaker$Value;I)I"⟩
def RX6 : String := "DataMaker"
def TX6 : u_T := fun k => match k with
  | 0 => ("DataMaker", "grammar", "LDataMaker$Grammar;", true)
  | 1 => ("DataMaker", "stock", "LDataMaker$Stock;", true)
  | 2 => ("DataMaker", "told", "LDataMaker$Told;", true)
  | 3 => ("DataMaker", "selectedCode", "LDataMaker$Code;", true)
  | 4 => ("DataMaker", "reductions", "LDataMaker$Reductions;", true)
  | _ => ("DataMaker", "selected", "LDataMaker$Value;", false)
def tyX6 : Nat → FieldType := fun k => match k with
  | 0 => .object "DataMaker$Grammar"
  | 1 => .object "DataMaker$Stock"
  | 2 => .object "DataMaker$Told"
  | 3 => .object "DataMaker$Code"
  | 4 => .object "DataMaker$Reductions"
  | _ => .object "DataMaker$Value"
theorem nmX6 : ∀ a, a < 6 → ∀ b, b < 6 → a ≠ b → (TX6 a).2.1 ≠ (TX6 b).2.1 := by decide +kernel
theorem tyX6_ok : ∀ k, k < 6 → parseFieldDescriptor (TX6 k).2.2.1 = some (tyX6 k) := by decide +kernel
abbrev cX6_init : ByteArray := prog_1_method_1_code
def yX6_init : MethodName := ⟨RX6, "<init>", "()V"⟩
abbrev cX6_setRange : ByteArray := prog_1_method_2_code
def yX6_setRange : MethodName := ⟨RX6, "setRange", "(II)Z"⟩
abbrev cX6_addType : ByteArray := prog_1_method_3_code
def yX6_addType : MethodName := ⟨RX6, "addType", "()I"⟩
abbrev cX6_addConstructor : ByteArray := prog_1_method_4_code
def yX6_addConstructor : MethodName := ⟨RX6, "addConstructor", "(IIIII)I"⟩
abbrev cX6_typeCount : ByteArray := prog_1_method_5_code
def yX6_typeCount : MethodName := ⟨RX6, "typeCount", "()I"⟩
abbrev cX6_horizon : ByteArray := prog_1_method_6_code
def yX6_horizon : MethodName := ⟨RX6, "horizon", "()I"⟩
abbrev cX6_count : ByteArray := prog_1_method_7_code
def yX6_count : MethodName := ⟨RX6, "count", "(II)I"⟩
abbrev cX6_total : ByteArray := prog_1_method_8_code
def yX6_total : MethodName := ⟨RX6, "total", "(II)I"⟩
abbrev cX6_firstAgainst : ByteArray := prog_1_method_9_code
def yX6_firstAgainst : MethodName := ⟨RX6, "firstAgainst", "(III)I"⟩
abbrev cX6_select : ByteArray := prog_1_method_10_code
def yX6_select : MethodName := ⟨RX6, "select", "(II)I"⟩
abbrev cX6_draw : ByteArray := prog_1_method_11_code
def yX6_draw : MethodName := ⟨RX6, "draw", "(IIJ)I"⟩
abbrev cX6_tell : ByteArray := prog_1_method_12_code
def yX6_tell : MethodName := ⟨RX6, "tell", "(I)I"⟩
abbrev cX6_read : ByteArray := prog_1_method_13_code
def yX6_read : MethodName := ⟨RX6, "read", "(I)I"⟩
abbrev cX6_length : ByteArray := prog_1_method_14_code
def yX6_length : MethodName := ⟨RX6, "length", "()I"⟩
abbrev cX6_code : ByteArray := prog_1_method_15_code
def yX6_code : MethodName := ⟨RX6, "code", "(I)I"⟩
abbrev cX6_number : ByteArray := prog_1_method_16_code
def yX6_number : MethodName := ⟨RX6, "number", "()I"⟩
abbrev cX6_height : ByteArray := prog_1_method_17_code
def yX6_height : MethodName := ⟨RX6, "height", "()I"⟩
abbrev cX6_mean : ByteArray := prog_1_method_18_code
def yX6_mean : MethodName := ⟨RX6, "mean", "()D"⟩
abbrev cX6_holds : ByteArray := prog_1_method_19_code
def yX6_holds : MethodName := ⟨RX6, "holds", "(I)Z"⟩
abbrev cX6_reductionCount : ByteArray := prog_1_method_20_code
def yX6_reductionCount : MethodName := ⟨RX6, "reductionCount", "()I"⟩
abbrev cX6_reduction : ByteArray := prog_1_method_21_code
def yX6_reduction : MethodName := ⟨RX6, "reduction", "(I)I"⟩
abbrev cX6_reduce : ByteArray := prog_1_method_22_code
def yX6_reduce : MethodName := ⟨RX6, "reduce", "(I)I"⟩
abbrev cX6_digest : ByteArray := prog_1_method_23_code
def yX6_digest : MethodName := ⟨RX6, "digest", "()J"⟩
abbrev cX6_forgetValues : ByteArray := prog_1_method_24_code
def yX6_forgetValues : MethodName := ⟨RX6, "forgetValues", "()V"⟩
abbrev cX6_chosen : ByteArray := prog_1_method_25_code
def yX6_chosen : MethodName := ⟨RX6, "chosen", "()LDataMaker$Value;"⟩
abbrev cX6_requireType : ByteArray := prog_1_method_26_code
def yX6_requireType : MethodName := ⟨RX6, "requireType", "(I)V"⟩
abbrev cX6_requireProperty : ByteArray := prog_1_method_27_code
def yX6_requireProperty : MethodName := ⟨RX6, "requireProperty", "(I)V"⟩
abbrev cX6_requireSize : ByteArray := prog_1_method_28_code
def yX6_requireSize : MethodName := ⟨RX6, "requireSize", "(I)V"⟩
abbrev cX6_requireKnown : ByteArray := prog_1_method_29_code
def yX6_requireKnown : MethodName := ⟨RX6, "requireKnown", "(I)V"⟩
def RX7 : String := "DataMakerModel"
def TX7 : u_T := fun k => match k with
  | 0 => ("DataMakerModel", "thrown", "I", false)
  | 1 => ("DataMakerModel", "low", "I", false)
  | 2 => ("DataMakerModel", "high", "I", false)
  | 3 => ("DataMakerModel", "types", "I", false)
  | 4 => ("DataMakerModel", "constructors", "I", false)
  | 5 => ("DataMakerModel", "owners", "[I", true)
  | 6 => ("DataMakerModel", "parameters", "[I", true)
  | 7 => ("DataMakerModel", "conditions", "[I", true)
  | 8 => ("DataMakerModel", "told", "I", false)
  | 9 => ("DataMakerModel", "tape", "[I", true)
  | 10 => ("DataMakerModel", "selectedType", "I", false)
  | 11 => ("DataMakerModel", "selected", "I", false)
  | 12 => ("DataMakerModel", "isMade", "Z", false)
  | 13 => ("DataMakerModel", "horizon", "I", false)
  | 14 => ("DataMakerModel", "values", "I", false)
  | 15 => ("DataMakerModel", "codes", "[[I", true)
  | 16 => ("DataMakerModel", "sizes", "[I", true)
  | 17 => ("DataMakerModel", "heights", "[I", true)
  | 18 => ("DataMakerModel", "counts", "[I", true)
  | 19 => ("DataMakerModel", "rows", "[I", true)
  | 20 => ("DataMakerModel", "lookedSize", "I", false)
  | 21 => ("DataMakerModel", "lookedHeight", "I", false)
  | 22 => ("DataMakerModel", "scratch", "[I", true)
  | 23 => ("DataMakerModel", "reductions", "I", false)
  | _ => ("DataMakerModel", "reduced", "[I", true)
def tyX7 : Nat → FieldType := fun k => match k with
  | 0 => .int
  | 1 => .int
  | 2 => .int
  | 3 => .int
  | 4 => .int
  | 5 => .array .int
  | 6 => .array .int
  | 7 => .array .int
  | 8 => .int
  | 9 => .array .int
  | 10 => .int
  | 11 => .int
  | 12 => .boolean
  | 13 => .int
  | 14 => .int
  | 15 => .array (.array .int)
  | 16 => .array .int
  | 17 => .array .int
  | 18 => .array .int
  | 19 => .array .int
  | 20 => .int
  | 21 => .int
  | 22 => .array .int
  | 23 => .int
  | _ => .array .int
theorem nmX7 : ∀ a, a < 25 → ∀ b, b < 25 → a ≠ b → (TX7 a).2.1 ≠ (TX7 b).2.1 := by decide +kernel
theorem tyX7_ok : ∀ k, k < 25 → parseFieldDescriptor (TX7 k).2.2.1 = some (tyX7 k) := by decide +kernel
abbrev cX7_init : ByteArray := prog_9_method_1_code
def yX7_init : MethodName := ⟨RX7, "<init>", "()V"⟩
abbrev cX7_thrown : ByteArray := prog_9_method_2_code
def yX7_thrown : MethodName := ⟨RX7, "thrown", "()I"⟩
abbrev cX7_fail : ByteArray := prog_9_method_3_code
def yX7_fail : MethodName := ⟨RX7, "fail", "(I)I"⟩
abbrev cX7_isIn : ByteArray := prog_9_method_4_code
def yX7_isIn : MethodName := ⟨RX7, "isIn", "(III)Z"⟩
abbrev cX7_isType : ByteArray := prog_9_method_5_code
def yX7_isType : MethodName := ⟨RX7, "isType", "(I)Z"⟩
abbrev cX7_change : ByteArray := prog_9_method_6_code
def yX7_change : MethodName := ⟨RX7, "change", "()V"⟩
abbrev cX7_setRange : ByteArray := prog_9_method_7_code
def yX7_setRange : MethodName := ⟨RX7, "setRange", "(II)Z"⟩
abbrev cX7_addType : ByteArray := prog_9_method_8_code
def yX7_addType : MethodName := ⟨RX7, "addType", "()I"⟩
abbrev cX7_addConstructor : ByteArray := prog_9_method_9_code
def yX7_addConstructor : MethodName := ⟨RX7, "addConstructor", "(IIIII)I"⟩
abbrev cX7_typeCount : ByteArray := prog_9_method_10_code
def yX7_typeCount : MethodName := ⟨RX7, "typeCount", "()I"⟩
abbrev cX7_look : ByteArray := prog_9_method_11_code
def yX7_look : MethodName := ⟨RX7, "look", "([IIII)I"⟩
abbrev cX7_isTrue : ByteArray := prog_9_method_12_code
def yX7_isTrue : MethodName := ⟨RX7, "isTrue", "(I[IIIII)Z"⟩
abbrev cX7_end : ByteArray := prog_9_method_13_code
def yX7_end : MethodName := ⟨RX7, "end", "([II)I"⟩
abbrev cX7_value : ByteArray := prog_9_method_14_code
def yX7_value : MethodName := ⟨RX7, "value", "(II)I"⟩
abbrev cX7_choices : ByteArray := prog_9_method_15_code
def yX7_choices : MethodName := ⟨RX7, "choices", "(II)[[I"⟩
abbrev cX7_constructorsIn : ByteArray := prog_9_method_16_code
def yX7_constructorsIn : MethodName := ⟨RX7, "constructorsIn", "([I)I"⟩
abbrev cX7_write : ByteArray := prog_9_method_17_code
def yX7_write : MethodName := ⟨RX7, "write", "(II)Z"⟩
abbrev cX7_make : ByteArray := prog_9_method_18_code
def yX7_make : MethodName := ⟨RX7, "make", "()V"⟩
abbrev cX7_horizon : ByteArray := prog_9_method_19_code
def yX7_horizon : MethodName := ⟨RX7, "horizon", "()I"⟩
abbrev cX7_asks : ByteArray := prog_9_method_20_code
def yX7_asks : MethodName := ⟨RX7, "asks", "(II)Z"⟩
abbrev cX7_upTo : ByteArray := prog_9_method_21_code
def yX7_upTo : MethodName := ⟨RX7, "upTo", "(II)I"⟩
abbrev cX7_count : ByteArray := prog_9_method_22_code
def yX7_count : MethodName := ⟨RX7, "count", "(II)I"⟩
abbrev cX7_total : ByteArray := prog_9_method_23_code
def yX7_total : MethodName := ⟨RX7, "total", "(II)I"⟩
abbrev cX7_isTrueOf : ByteArray := prog_9_method_24_code
def yX7_isTrueOf : MethodName := ⟨RX7, "isTrueOf", "(II)Z"⟩
abbrev cX7_firstAgainst : ByteArray := prog_9_method_25_code
def yX7_firstAgainst : MethodName := ⟨RX7, "firstAgainst", "(III)I"⟩
abbrev cX7_choose : ByteArray := prog_9_method_26_code
def yX7_choose : MethodName := ⟨RX7, "choose", "(II)V"⟩
abbrev cX7_select : ByteArray := prog_9_method_27_code
def yX7_select : MethodName := ⟨RX7, "select", "(II)I"⟩
abbrev cX7_draw : ByteArray := prog_9_method_28_code
def yX7_draw : MethodName := ⟨RX7, "draw", "(IIJ)I"⟩
abbrev cX7_tell : ByteArray := prog_9_method_29_code
def yX7_tell : MethodName := ⟨RX7, "tell", "(I)I"⟩
abbrev cX7_find : ByteArray := prog_9_method_30_code
def yX7_find : MethodName := ⟨RX7, "find", "(I[II)I"⟩
abbrev cX7_read : ByteArray := prog_9_method_31_code
def yX7_read : MethodName := ⟨RX7, "read", "(I)I"⟩
abbrev cX7_has : ByteArray := prog_9_method_32_code
def yX7_has : MethodName := ⟨RX7, "has", "()Z"⟩
abbrev cX7_current : ByteArray := prog_9_method_33_code
def yX7_current : MethodName := ⟨RX7, "current", "()I"⟩
abbrev cX7_length : ByteArray := prog_9_method_34_code
def yX7_length : MethodName := ⟨RX7, "length", "()I"⟩
abbrev cX7_code : ByteArray := prog_9_method_35_code
def yX7_code : MethodName := ⟨RX7, "code", "(I)I"⟩
abbrev cX7_number : ByteArray := prog_9_method_36_code
def yX7_number : MethodName := ⟨RX7, "number", "()I"⟩
abbrev cX7_height : ByteArray := prog_9_method_37_code
def yX7_height : MethodName := ⟨RX7, "height", "()I"⟩
abbrev cX7_mean : ByteArray := prog_9_method_38_code
def yX7_mean : MethodName := ⟨RX7, "mean", "()D"⟩
abbrev cX7_holds : ByteArray := prog_9_method_39_code
def yX7_holds : MethodName := ⟨RX7, "holds", "(I)Z"⟩
abbrev cX7_add : ByteArray := prog_9_method_40_code
def yX7_add : MethodName := ⟨RX7, "add", "(I)V"⟩
abbrev cX7_findReductions : ByteArray := prog_9_method_41_code
def yX7_findReductions : MethodName := ⟨RX7, "findReductions", "()V"⟩
abbrev cX7_reductionCount : ByteArray := prog_9_method_42_code
def yX7_reductionCount : MethodName := ⟨RX7, "reductionCount", "()I"⟩
abbrev cX7_reduction : ByteArray := prog_9_method_43_code
def yX7_reduction : MethodName := ⟨RX7, "reduction", "(I)I"⟩
abbrev cX7_reduce : ByteArray := prog_9_method_44_code
def yX7_reduce : MethodName := ⟨RX7, "reduce", "(I)I"⟩
abbrev cX7_digest : ByteArray := prog_9_method_45_code
def yX7_digest : MethodName := ⟨RX7, "digest", "()J"⟩
def RJx145de : String := "java/io/Serializable"
def TJx145de : u_T := fun k => match k with
  | _ => ("", "", "", false)
def tyJx145de : Nat → FieldType := fun k => match k with
  | _ => .int
theorem nmJx145de : ∀ a, a < 0 → ∀ b, b < 0 → a ≠ b → (TJx145de a).2.1 ≠ (TJx145de b).2.1 := by decide +kernel
theorem tyJx145de_ok : ∀ k, k < 0 → parseFieldDescriptor (TJx145de k).2.2.1 = some (tyJx145de k) := by decide +kernel
def RJ9 : String := "java/lang/Math"
def TJ9 : u_T := fun k => match k with
  | _ => ("", "", "", false)
def tyJ9 : Nat → FieldType := fun k => match k with
  | _ => .int
theorem nmJ9 : ∀ a, a < 0 → ∀ b, b < 0 → a ≠ b → (TJ9 a).2.1 ≠ (TJ9 b).2.1 := by decide +kernel
theorem tyJ9_ok : ∀ k, k < 0 → parseFieldDescriptor (TJ9 k).2.2.1 = some (tyJ9 k) := by decide +kernel
abbrev cJ9_abs_0f7a4 : ByteArray := prog_15_method_59_code
def yJ9_abs_0f7a4 : MethodName := ⟨RJ9, "abs", "(I)I"⟩
abbrev cJ9_max_7cf53 : ByteArray := prog_15_method_65_code
def yJ9_max_7cf53 : MethodName := ⟨RJ9, "max", "(II)I"⟩
abbrev cJ9_min_7cf53 : ByteArray := prog_15_method_69_code
def yJ9_min_7cf53 : MethodName := ⟨RJ9, "min", "(II)I"⟩
def RJ0 : String := "java/lang/String"
def TJ0 : u_T := fun k => match k with
  | _ => ("", "", "", false)
def tyJ0 : Nat → FieldType := fun k => match k with
  | _ => .int
theorem nmJ0 : ∀ a, a < 0 → ∀ b, b < 0 → a ≠ b → (TJ0 a).2.1 ≠ (TJ0 b).2.1 := by decide +kernel
theorem tyJ0_ok : ∀ k, k < 0 → parseFieldDescriptor (TJ0 k).2.2.1 = some (tyJ0 k) := by decide +kernel
def RJ10 : String := "java/lang/System"
def TJ10 : u_T := fun k => match k with
  | _ => ("", "", "", false)
def tyJ10 : Nat → FieldType := fun k => match k with
  | _ => .int
theorem nmJ10 : ∀ a, a < 0 → ∀ b, b < 0 → a ≠ b → (TJ10 a).2.1 ≠ (TJ10 b).2.1 := by decide +kernel
theorem tyJ10_ok : ∀ k, k < 0 → parseFieldDescriptor (TJ10 k).2.2.1 = some (tyJ10 k) := by decide +kernel
def RL : String := "DataMakerLaw"
abbrev cL_setRange : ByteArray := method_3_code
def yL_setRange : MethodName := ⟨RL, "setRange", "(LDataMaker;II[J)I"⟩
abbrev cL_addType : ByteArray := method_4_code
def yL_addType : MethodName := ⟨RL, "addType", "(LDataMaker;[J)I"⟩
abbrev cL_addConstructor : ByteArray := method_5_code
def yL_addConstructor : MethodName := ⟨RL, "addConstructor", "(LDataMaker;IIIII[J)I"⟩
abbrev cL_count : ByteArray := method_6_code
def yL_count : MethodName := ⟨RL, "count", "(LDataMaker;II[J)I"⟩
abbrev cL_total : ByteArray := method_7_code
def yL_total : MethodName := ⟨RL, "total", "(LDataMaker;II[J)I"⟩
abbrev cL_firstAgainst : ByteArray := method_8_code
def yL_firstAgainst : MethodName := ⟨RL, "firstAgainst", "(LDataMaker;III[J)I"⟩
abbrev cL_select : ByteArray := method_9_code
def yL_select : MethodName := ⟨RL, "select", "(LDataMaker;II[J)I"⟩
abbrev cL_draw : ByteArray := method_10_code
def yL_draw : MethodName := ⟨RL, "draw", "(LDataMaker;IIJ[J)I"⟩
abbrev cL_tell : ByteArray := method_11_code
def yL_tell : MethodName := ⟨RL, "tell", "(LDataMaker;I[J)I"⟩
abbrev cL_read : ByteArray := method_12_code
def yL_read : MethodName := ⟨RL, "read", "(LDataMaker;I[J)I"⟩
abbrev cL_length : ByteArray := method_13_code
def yL_length : MethodName := ⟨RL, "length", "(LDataMaker;[J)I"⟩
abbrev cL_code : ByteArray := method_14_code
def yL_code : MethodName := ⟨RL, "code", "(LDataMaker;I[J)I"⟩
abbrev cL_number : ByteArray := method_15_code
def yL_number : MethodName := ⟨RL, "number", "(LDataMaker;[J)I"⟩
abbrev cL_height : ByteArray := method_16_code
def yL_height : MethodName := ⟨RL, "height", "(LDataMaker;[J)I"⟩
abbrev cL_mean : ByteArray := method_17_code
def yL_mean : MethodName := ⟨RL, "mean", "(LDataMaker;[D)I"⟩
abbrev cL_holds : ByteArray := method_18_code
def yL_holds : MethodName := ⟨RL, "holds", "(LDataMaker;I[J)I"⟩
abbrev cL_reductionCount : ByteArray := method_19_code
def yL_reductionCount : MethodName := ⟨RL, "reductionCount", "(LDataMaker;[J)I"⟩
abbrev cL_reduction : ByteArray := method_20_code
def yL_reduction : MethodName := ⟨RL, "reduction", "(LDataMaker;I[J)I"⟩
abbrev cL_reduce : ByteArray := method_21_code
def yL_reduce : MethodName := ⟨RL, "reduce", "(LDataMaker;I[J)I"⟩
abbrev cL_law : ByteArray := code
def yL_law : MethodName := ⟨RL, "law", "([I)Z"⟩
abbrev vwCl : List vw_C := [(RX0, TX0, 2), (RX1, TX1, 8), (RX2, TX2, 2), (RX3, TX3, 10), (RX4, TX4, 6), (RX5, TX5, 16), (RX6, TX6, 6), (RX7, TX7, 25)]
end
section
/-- the texts of what is thrown -/
def ax_strs : List (String × Nat × String) := [(RX6, 52, "no range within 0 to 5"), (RX6, 72, "there are 4 types"), (RX6, 83, "no such parameters"), (RX6, 85, "no such condition"), (RX6, 90, "there are 6 constructors"), (RX6, 127, "no value has this number"), (RX6, 130, "no value up to the horizon has this number"), (RX6, 137, "no value of the type has this size"), (RX6, 144, "no number of a code"), (RX6, 149, "there are 40 numbers"), (RX6, 157, "the value is greater than the horizon"), (RX6, 174, "no such index in the code"), (RX6, 200, "no such reduction"), (RX6, 223, "no value is selected"), (RX6, 228, "no such type"), (RX6, 230, "no such property"), (RX6, 232, "no size from 1 to 8"), (RX6, 234, "the size is greater than the horizon")]
/-! ===== a method's run said without the machine: the heap as a function, the locals as a list; each rule stands on a row of the kit ===== -/
abbrev ax_E : Type := (Nat × vp_A) ⊕ (Nat × List Value)
abbrev ax_H : Type := Nat → Option ax_E
abbrev ax_L : Type := List (Nat × Value)
abbrev ax_P : Type := (Option Value ⊕ String) → ax_H → Prop
/-- a method: its name, its bytes, its locals, what it returns, its handlers, how many parameters -/
abbrev ax_M : Type := MethodName × ByteArray × Nat × Option FieldType × List (Nat × Nat × Nat × Nat) × Nat
/-- the launch, the tables' numbers, the array classes, where the law began, the script's cell, its length, its ints -/
abbrev ax_G : Type := Launch × va_G × (Nat → ClassId) × Nat × Nat × Nat × (Nat → Int32)
def ax_tys (kc : Nat → ClassId) : List (ClassId × FieldType) := [(kc 0, .int), (kc 1, .long), (kc 2, .double), (kc 3, .object "DataMaker$Value"), (kc 4, .array .int)]
def ax_cv (kc : Nat → ClassId) (x : ax_E) : va_E := match x with
  | .inl a => .inl (kc a.1, a.2)
  | .inr o => .inr o
def ax_f (kc : Nat → ClassId) (h : ax_H) (a : Nat) : va_E := ax_cv kc ((h a).getD (.inr (0, [])))
def ax_A (G : ax_G) : Nat → Prop := fun q => G.2.2.2.1 ≤ q
def ax_holds (G : ax_G) (h : ax_H) (H : Heap) : Prop := ∃ L : List Nat, (∀ a, a ∈ L ↔ (h a).isSome = true) ∧ va_P G.2.1 vwCl (va_pl L (ax_f G.2.2.1 h)) H ∧ va_D (ax_A G) (va_pl L (ax_f G.2.2.1 h))
def ax_all : List Cond := lw_tbl.filter goodWord
def ax_ncs : List (String × String) := [("java/lang/IllegalArgumentException", "java/lang/IndexOutOfBoundsException"), ("java/lang/IllegalStateException", "java/lang/IndexOutOfBoundsException"), ("java/lang/IllegalStateException", "java/lang/IllegalArgumentException"), ("java/lang/IndexOutOfBoundsException", "java/lang/IllegalStateException"), ("java/lang/IllegalArgumentException", "java/lang/IllegalStateException"), ("java/util/NoSuchElementException", "java/lang/IndexOutOfBoundsException"), ("java/util/NoSuchElementException", "java/lang/IllegalArgumentException"), ("java/util/NoSuchElementException", "java/lang/IllegalStateException")]
def ax_exs : List String := ["java/lang/IllegalArgumentException", "java/lang/IllegalStateException", "java/lang/IndexOutOfBoundsException", "java/util/NoSuchElementException"]
def ax_bad : List Cond := [.castable "java/lang/IllegalArgumentException" "java/lang/IllegalArgumentException", .castable "java/lang/IllegalStateException" "java/lang/IllegalStateException", .castable "java/lang/IndexOutOfBoundsException" "java/lang/IndexOutOfBoundsException", .castable "java/util/NoSuchElementException" "java/util/NoSuchElementException", .declares (Bundle.initS "java/lang/RuntimeException"), .declares (Bundle.initS "java/lang/Exception"), .declares (Bundle.initS "java/lang/Throwable")]
theorem ax_bad_on : ∀ w ∈ ax_bad, w.onTables = true := by decide +kernel
theorem ax_bad_warm {s U : State} (hW : s.WarmedH U.vm) (h : ∀ w ∈ ax_bad, va_Nw w s) : ∀ w ∈ ax_bad, va_Nw w U := by
  intro w hw
  have h1 := h w hw
  simp only [ax_bad, List.mem_cons, List.not_mem_nil, or_false] at hw
  rcases hw with rfl | rfl | rfl | rfl | rfl | rfl | rfl
  · exact va_Nw.warmC hW h1
  · exact va_Nw.warmC hW h1
  · exact va_Nw.warmC hW h1
  · exact va_Nw.warmC hW h1
  · exact va_Nw.warmD hW h1
  · exact va_Nw.warmD hW h1
  · exact va_Nw.warmD hW h1
def ax_AO (U : State) : Prop := (Cond.arrayOver (.array .int)).before #[] U = true
theorem ax_AO_moved {u U : State} (hvm : u.vm.Alike U.vm) (h : ax_AO u) : ax_AO U := by
  obtain ⟨comp, c, k, h1, h2, h3, h4, h5⟩ := arrayOverA_spec h
  obtain ⟨k', hk', he⟩ := hvm.2.2 _ _ h3
  have hi : (U.vm.classes.findIdx? fun (x : Class) => match x.kind with | .array component _ => component == comp | _ => false) = some c := by
    have e1 := va_idx_bare U.vm comp
    have e2 := va_idx_bare u.vm comp
    have e3 : U.vm.bare = u.vm.bare := by first | exact hvm.bare_eq | exact hvm.bare_eq.symm
    rw [e3] at e1
    exact e1.symm.trans (e2.trans h2)
  have hkind : k'.kind = .array comp (.array .int) := by rw [he]; exact h4
  have f1 : U.vm.findClass (FieldType.array .int).toString = some comp := by rw [hvm.findClass]; exact h1
  have f2 : U.vm.findClass ("[" ++ (FieldType.array .int).toString) = some c := by rw [hvm.findClass]; exact h5
  unfold ax_AO Cond.before Cond.holds
  simp only [Cond.value]
  rw [f1, Option.bind_some]
  refine (congrArg (fun o : Option Nat => (o.bind (fun c => (U.vm.classes[c]?).map fun (k : Class) => match k.kind with | .array _ ty => decide (ty = FieldType.array .int) && decide (U.vm.findClass ("[" ++ (FieldType.array .int).toString) = some c) | _ => false) == some true)) hi).trans ?_
  simp [hk', hkind, f2]
def ax_fix (G : ax_G) (s : State) (H : Heap) : Prop :=
  va_K G.2.1 vwCl (ax_tys G.2.2.1) s ∧ (∃ k : Class, s.vm.classes[G.2.2.1 4]? = some k ∧ k.kind = .array (G.2.2.1 0) (.array .int)) ∧ G.2.2.2.1 ≤ H.size ∧ G.1.stackTraces = false ∧
  G.2.2.2.2.1 < G.2.2.2.1 ∧ va_X G.2.2.2.2.1 G.2.2.2.2.2.1 G.2.2.2.2.2.2 s H ∧ vx_Zq Bundle.tN "UNASSIGNED_STACK" Bundle.steD (ax_A G) s H ∧ vx_Zq Bundle.tN "SUPPRESSED_SENTINEL" Bundle.listD (ax_A G) s H ∧
  (∀ q ∈ ax_strs, ∃ sa, vk_R q.1 q.2.1 q.2.2 sa s) ∧ (∀ q ∈ ax_ncs, va_Nc q.1 q.2 s) ∧ (∀ w ∈ ax_bad, va_Nw w s) ∧ va_AO "DataMaker$Value" s ∧ ax_AO s
def ax_env (G : ax_G) (M : ax_M) (p : Program) (s : State) (m : MethodId) (args : Array Value) (meth : Method) (c : Code) : Prop :=
  p.tables.exec = Jvm.exec ∧ c.code = M.2.1 ∧ meth.sig.returnType = M.2.2.2.1 ∧ c.maxLocals = M.2.2.1 ∧ s.vm.findClass M.1.cls = some m.cls ∧ (∀ w ∈ ax_all, w.before args s = true) ∧ meth.locks = false ∧ c.exceptionTable.toList = tableOf M.2.2.2.2.1 ∧ meth.name = M.1.name
def ax_rm (R : Room) (d mc ms : Nat) : Prop := R.cells = mc ∧ R.slots = ms ∧ d + 8 ≤ R.frames ∧ 40 * d + 120 ≤ R.locals
def ax_Qc (G : ax_G) (Q : ax_P) : Array Value → State → Outcome → State → Prop := fun _ st oc t => ∃ (v : Option Value) (h : ax_H), oc = .returned v ∧ Q (.inl v) h ∧ ax_holds G h t.heap ∧ va_F (ax_A G) st t
def ax_XC (G : ax_G) (Q : ax_P) : String → State → State → Prop := fun E st t => ∃ h : ax_H, Q (.inr E) h ∧ ax_holds G h t.heap ∧ va_F (ax_A G) st t
def AW (G : ax_G) (M : ax_M) (d mc ms : Nat) (Q : ax_P) (pc : Nat) (lv : ax_L) (st : List Value) (h : ax_H) (cn sn : Nat) : Prop :=
  ∀ (p : Program) (e : Env) (s : State) (m : MethodId) (args : Array Value) (below : List Frame) (meth : Method) (c : Code) (R : Room) (H : Heap) (locs : List Loc) (ls : Array Slot),
    ax_env G M p s m args meth c → ax_rm R d mc ms → ax_fix G s s.heap → ax_holds G h H → va_S (ax_A G) s.heap H locs → lv_has ls M.2.2.1 lv → cn ≤ mc → sn ≤ ms →
    W p G.1 e R s m args below meth c H locs cn sn (vx_MQ below (ax_Qc G Q) (ax_XC G Q) args s mc ms (ax_A G)) (F0 m pc ls st)
theorem ax_get0 {kc : Nat → ClassId} {h : ax_H} {L : List Nat} (hL : ∀ a, a ∈ L ↔ (h a).isSome = true) {a : Nat} {o : ax_E} (ha : h a = some o) : ∃ k : Nat, (va_pl L (ax_f kc h))[k]? = some (a, ax_cv kc o) := by
  obtain ⟨k, hk⟩ := va_pl_get (X := []) (f := ax_f kc h) ((hL a).mpr (by rw [ha]; rfl))
  refine ⟨k, hk.trans ?_⟩
  simp [ax_f, ha]
theorem ax_set0 {A : Nat → Prop} {kc : Nat → ClassId} {h : ax_H} {L : List Nat} (hL : ∀ a, a ∈ L ↔ (h a).isSome = true) (hD : va_D A (va_pl L (ax_f kc h))) {a k : Nat} {o : ax_E} (o' : ax_E) (ha : h a = some o) (hk : (va_pl L (ax_f kc h))[k]? = some (a, ax_cv kc o)) :
    (va_pl L (ax_f kc h)).set k (a, ax_cv kc o') = va_pl L (ax_f kc (va_up h a (some o'))) := by
  have h1 := va_pl_set (X := []) (e := ax_cv kc o') hD ((hL a).mpr (by rw [ha]; rfl)) (k := k) (hk.trans (by simp [ax_f, ha]))
  refine h1.trans (va_pl_congr fun b => ?_)
  by_cases hb : b = a
  · subst hb; simp [va_up, ax_f]
  · simp [va_up, ax_f, hb]
theorem ax_dom {h : ax_H} {L : List Nat} (hL : ∀ a, a ∈ L ↔ (h a).isSome = true) {a : Nat} {o o' : ax_E} (ha : h a = some o) : ∀ b, b ∈ L ↔ ((va_up h a (some o')) b).isSome = true := by
  intro b
  by_cases hb : b = a
  · subst hb; simp [va_up, hL, ha]
  · simp [va_up, hb, hL]
theorem ax_put0 {G : ax_G} {h : ax_H} {L : List Nat} {H1 : Heap} (hL : ∀ a, a ∈ L ↔ (h a).isSome = true) (hD : va_D (ax_A G) (va_pl L (ax_f G.2.2.1 h))) {a k : Nat} {o : ax_E} (o' : ax_E) (ha : h a = some o) (hk : (va_pl L (ax_f G.2.2.1 h))[k]? = some (a, ax_cv G.2.2.1 o))
    (hP1 : va_P G.2.1 vwCl ((va_pl L (ax_f G.2.2.1 h)).set k (a, ax_cv G.2.2.1 o')) H1) (hD1 : va_D (ax_A G) ((va_pl L (ax_f G.2.2.1 h)).set k (a, ax_cv G.2.2.1 o'))) : ax_holds G (va_up h a (some o')) H1 := by
  rw [ax_set0 hL hD o' ha hk] at hP1 hD1
  exact ⟨L, ax_dom hL ha, hP1, hD1⟩
theorem ax_new0 {G : ax_G} {h : ax_H} {L : List Nat} {H1 : Heap} (hL : ∀ a, a ∈ L ↔ (h a).isSome = true) {q : Nat} {o : ax_E} (hP1 : va_P G.2.1 vwCl (va_pl L (ax_f G.2.2.1 h) ++ [(q, ax_cv G.2.2.1 o)]) H1) (hD1 : va_D (ax_A G) (va_pl L (ax_f G.2.2.1 h) ++ [(q, ax_cv G.2.2.1 o)])) :
    h q = none ∧ ax_holds G (va_up h q (some o)) H1 := by
  have hq : q ∉ L := va_pl_fresh2 (X := []) (e := ax_cv G.2.2.1 o) hD1
  have hn : h q = none := by
    cases hh : h q with
    | none => rfl
    | some x => exact absurd ((hL q).mpr (by rw [hh]; rfl)) hq
  have he : va_pl L (ax_f G.2.2.1 h) ++ [(q, ax_cv G.2.2.1 o)] = va_pl (L ++ [q]) (ax_f G.2.2.1 (va_up h q (some o))) := by
    rw [va_pl_push hq]
    refine va_pl_congr fun b => ?_
    by_cases hb : b = q
    · subst hb; simp [va_up, ax_f]
    · simp [va_up, ax_f, hb]
  rw [he] at hP1 hD1
  refine ⟨hn, L ++ [q], fun b => ?_, hP1, hD1⟩
  by_cases hb : b = q
  · subst hb; simp [va_up]
  · simp [va_up, hb, hL]
/-- a local read: the first of its number -/
def ax_ld (lv : ax_L) (i : Nat) : Option Value := (lv.find? (fun q => q.1 == i)).map (fun q => q.2)
theorem ax_ld_at {ls : Array Slot} {n i : Nat} {lv : ax_L} {v : Value} (hl : lv_has ls n lv) (h : ax_ld lv i = some v) : ls[i]? = some (.val v) := by
  unfold ax_ld at h
  obtain ⟨q, hq, rfl⟩ := Option.map_eq_some_iff.mp h
  have h1 := List.mem_of_find?_eq_some hq
  have h2 := List.find?_some hq
  have h3 : q.1 = i := by simpa using h2
  rw [← h3]
  exact hl.2.2 q h1
/-- a local written, in its place -/
def ax_pt (i : Nat) (v : Value) (lv : ax_L) : ax_L := if lv.any (fun q => q.1 == i) then lv.map (fun q => if q.1 == i then (i, v) else q) else lv ++ [(i, v)]
def ax_s1 (i : Nat) (v : Value) (lv : ax_L) : ax_L := ax_pt i v (lv.filter (fun q => !(q.1 + 1 == i && q.2.category == 2)))
def ax_s2 (i : Nat) (v : Value) (lv : ax_L) : ax_L := ax_pt i v (lv.filter (fun q => !(q.1 == i + 1) && !(q.1 + 1 == i && q.2.category == 2)))
theorem ax_pt_in {i : Nat} {v : Value} {lv : ax_L} {q : Nat × Value} (h : q ∈ ax_pt i v lv) : q = (i, v) ∨ (q ∈ lv ∧ ¬ q.1 = i) := by
  unfold ax_pt at h
  split at h
  · obtain ⟨z, hz, rfl⟩ := List.mem_map.mp h
    by_cases hi : z.1 = i
    · left; simp [hi]
    · right
      have : (z.1 == i) = false := by simpa using hi
      simp [this, hz, hi]
  · rename_i hn
    rcases List.mem_append.mp h with h1 | h1
    · right
      refine ⟨h1, fun e => hn (List.any_eq_true.mpr ⟨q, h1, by simpa using e⟩)⟩
    · left; simpa using h1
theorem ax_s1_has {ls : Array Slot} {n i : Nat} {v : Value} {lv : ax_L} (h : lv_has ls n ((i, v) :: lv.filter (fun q => !(q.1 == i) && !(q.1 + 1 == i && q.2.category == 2)))) : lv_has ls n (ax_s1 i v lv) := by
  refine ⟨h.1, h.2.1, fun q hq => h.2.2 q ?_⟩
  rcases ax_pt_in hq with rfl | ⟨h1, h2⟩
  · exact List.mem_cons_self
  · obtain ⟨h3, h4⟩ := List.mem_filter.mp h1
    refine List.mem_cons_of_mem _ (List.mem_filter.mpr ⟨h3, ?_⟩)
    have : (q.1 == i) = false := by simpa using h2
    rw [this]
    simpa using h4
theorem ax_s2_has {ls : Array Slot} {n i : Nat} {v : Value} {lv : ax_L} (h : lv_has ls n ((i, v) :: lv.filter (fun q => !(q.1 == i) && (!(q.1 == i + 1) && !(q.1 + 1 == i && q.2.category == 2))))) : lv_has ls n (ax_s2 i v lv) := by
  refine ⟨h.1, h.2.1, fun q hq => h.2.2 q ?_⟩
  rcases ax_pt_in hq with rfl | ⟨h1, h2⟩
  · exact List.mem_cons_self
  · obtain ⟨h3, h4⟩ := List.mem_filter.mp h1
    refine List.mem_cons_of_mem _ (List.mem_filter.mpr ⟨h3, ?_⟩)
    have : (q.1 == i) = false := by simpa using h2
    rw [this]
    simpa using h4
theorem ax_iconst {G : ax_G} {M : ax_M} {d mc ms : Nat} {Q : ax_P} {pc : Nat} {lv : ax_L} {st : List Value} {h : ax_H} {cn sn : Nat} {n : Int} {v : Int32} (hd : decode M.2.1 pc = .ok (.iconst n, 1)) (hv : Int32.ofInt n = v) (k : AW G M d mc ms Q (pc + 1) lv (.int v :: st) h cn sn) : AW G M d mc ms Q (pc) lv st h cn sn := by
  intro p e s m args below meth c R H locs ls E Rm Fx Hp hS hl hc hs
  exact lv_iconst E.1 E.2.1 hd hv (k p e s m args below meth c R H locs ls E Rm Fx Hp hS hl hc hs)
theorem ax_bipush {G : ax_G} {M : ax_M} {d mc ms : Nat} {Q : ax_P} {pc : Nat} {lv : ax_L} {st : List Value} {h : ax_H} {cn sn : Nat} {n : Int} {v : Int32} (hd : decode M.2.1 pc = .ok (.bipush n, 2)) (hv : (Int8.ofInt n).toInt32 = v) (k : AW G M d mc ms Q (pc + 2) lv (.int v :: st) h cn sn) : AW G M d mc ms Q (pc) lv st h cn sn := by
  intro p e s m args below meth c R H locs ls E Rm Fx Hp hS hl hc hs
  exact lv_bipush E.1 E.2.1 hd hv (k p e s m args below meth c R H locs ls E Rm Fx Hp hS hl hc hs)
theorem ax_sipush {G : ax_G} {M : ax_M} {d mc ms : Nat} {Q : ax_P} {pc : Nat} {lv : ax_L} {st : List Value} {h : ax_H} {cn sn : Nat} {n : Int} {v : Int32} (hd : decode M.2.1 pc = .ok (.sipush n, 3)) (hv : (Int16.ofInt n).toInt32 = v) (k : AW G M d mc ms Q (pc + 3) lv (.int v :: st) h cn sn) : AW G M d mc ms Q (pc) lv st h cn sn := by
  intro p e s m args below meth c R H locs ls E Rm Fx Hp hS hl hc hs
  exact lv_sipush E.1 E.2.1 hd hv (k p e s m args below meth c R H locs ls E Rm Fx Hp hS hl hc hs)
theorem ax_lconst {G : ax_G} {M : ax_M} {d mc ms : Nat} {Q : ax_P} {pc : Nat} {lv : ax_L} {st : List Value} {h : ax_H} {cn sn : Nat} {n : Fin 2} {v : Int64} (hd : decode M.2.1 pc = .ok (.lconst n, 1)) (hv : Int64.ofNat (n : Nat) = v) (k : AW G M d mc ms Q (pc + 1) lv (.long v :: st) h cn sn) : AW G M d mc ms Q (pc) lv st h cn sn := by
  intro p e s m args below meth c R H locs ls E Rm Fx Hp hS hl hc hs
  exact lv_lconst E.1 E.2.1 hd hv (k p e s m args below meth c R H locs ls E Rm Fx Hp hS hl hc hs)
theorem ax_dconst0 {G : ax_G} {M : ax_M} {d mc ms : Nat} {Q : ax_P} {pc : Nat} {lv : ax_L} {st : List Value} {h : ax_H} {cn sn : Nat}  (hd : decode M.2.1 pc = .ok (.dconst 0, 1)) (k : AW G M d mc ms Q (pc + 1) lv (.double FP.dconst0 :: st) h cn sn) : AW G M d mc ms Q (pc) lv st h cn sn := by
  intro p e s m args below meth c R H locs ls E Rm Fx Hp hS hl hc hs
  exact lv_dconst0 E.1 E.2.1 hd (k p e s m args below meth c R H locs ls E Rm Fx Hp hS hl hc hs)
theorem ax_null {G : ax_G} {M : ax_M} {d mc ms : Nat} {Q : ax_P} {pc : Nat} {lv : ax_L} {st : List Value} {h : ax_H} {cn sn : Nat}  (hd : decode M.2.1 pc = .ok (.aconst_null, 1)) (k : AW G M d mc ms Q (pc + 1) lv (.null :: st) h cn sn) : AW G M d mc ms Q (pc) lv st h cn sn := by
  intro p e s m args below meth c R H locs ls E Rm Fx Hp hS hl hc hs
  exact lv_null E.1 E.2.1 hd (k p e s m args below meth c R H locs ls E Rm Fx Hp hS hl hc hs)
theorem ax_ldc2 {G : ax_G} {M : ax_M} {d mc ms : Nat} {Q : ax_P} {pc : Nat} {lv : ax_L} {st : List Value} {h : ax_H} {cn sn : Nat} {i : Nat} {v : Int64} (hd : decode M.2.1 pc = .ok (.ldc2_w i, 3)) (hw : Jvm.Cond.constantLong M.1.cls i v ∈ ax_all) (k : AW G M d mc ms Q (pc + 3) lv (.long v :: st) h cn sn) : AW G M d mc ms Q (pc) lv st h cn sn := by
  intro p e s m args below meth c R H locs ls E Rm Fx Hp hS hl hc hs
  exact lv_ldc2 E.1 E.2.1 E.2.2.2.2.1 (E.2.2.2.2.2.1 _ hw) hd (k p e s m args below meth c R H locs ls E Rm Fx Hp hS hl hc hs)
theorem ax_iload_n {G : ax_G} {M : ax_M} {d mc ms : Nat} {Q : ax_P} {pc : Nat} {lv : ax_L} {st : List Value} {h : ax_H} {cn sn : Nat} {k' : Fin 4} {x : Int32} (hd : decode M.2.1 pc = .ok (.iload_n k', 1)) (hv : ax_ld lv k' = some (.int x)) (k : AW G M d mc ms Q (pc + 1) lv (.int x :: st) h cn sn) : AW G M d mc ms Q (pc) lv st h cn sn := by
  intro p e s m args below meth c R H locs ls E Rm Fx Hp hS hl hc hs
  exact lv_iload_n E.1 E.2.1 hd rfl (ax_ld_at hl hv) (k p e s m args below meth c R H locs ls E Rm Fx Hp hS hl hc hs)
theorem ax_iload {G : ax_G} {M : ax_M} {d mc ms : Nat} {Q : ax_P} {pc : Nat} {lv : ax_L} {st : List Value} {h : ax_H} {cn sn : Nat} {i : Nat} {x : Int32} (hd : decode M.2.1 pc = .ok (.iload i, 2)) (hv : ax_ld lv i = some (.int x)) (k : AW G M d mc ms Q (pc + 2) lv (.int x :: st) h cn sn) : AW G M d mc ms Q (pc) lv st h cn sn := by
  intro p e s m args below meth c R H locs ls E Rm Fx Hp hS hl hc hs
  exact lv_iload E.1 E.2.1 hd (ax_ld_at hl hv) (k p e s m args below meth c R H locs ls E Rm Fx Hp hS hl hc hs)
theorem ax_lload_n {G : ax_G} {M : ax_M} {d mc ms : Nat} {Q : ax_P} {pc : Nat} {lv : ax_L} {st : List Value} {h : ax_H} {cn sn : Nat} {k' : Fin 4} {x : Int64} (hd : decode M.2.1 pc = .ok (.lload_n k', 1)) (hv : ax_ld lv k' = some (.long x)) (k : AW G M d mc ms Q (pc + 1) lv (.long x :: st) h cn sn) : AW G M d mc ms Q (pc) lv st h cn sn := by
  intro p e s m args below meth c R H locs ls E Rm Fx Hp hS hl hc hs
  exact lv_lload_n E.1 E.2.1 hd rfl (ax_ld_at hl hv) (k p e s m args below meth c R H locs ls E Rm Fx Hp hS hl hc hs)
theorem ax_lload {G : ax_G} {M : ax_M} {d mc ms : Nat} {Q : ax_P} {pc : Nat} {lv : ax_L} {st : List Value} {h : ax_H} {cn sn : Nat} {i : Nat} {x : Int64} (hd : decode M.2.1 pc = .ok (.lload i, 2)) (hv : ax_ld lv i = some (.long x)) (k : AW G M d mc ms Q (pc + 2) lv (.long x :: st) h cn sn) : AW G M d mc ms Q (pc) lv st h cn sn := by
  intro p e s m args below meth c R H locs ls E Rm Fx Hp hS hl hc hs
  exact lv_lload E.1 E.2.1 hd (ax_ld_at hl hv) (k p e s m args below meth c R H locs ls E Rm Fx Hp hS hl hc hs)
theorem ax_dload_n {G : ax_G} {M : ax_M} {d mc ms : Nat} {Q : ax_P} {pc : Nat} {lv : ax_L} {st : List Value} {h : ax_H} {cn sn : Nat} {k' : Fin 4} {x : UInt64} (hd : decode M.2.1 pc = .ok (.dload_n k', 1)) (hv : ax_ld lv k' = some (.double x)) (k : AW G M d mc ms Q (pc + 1) lv (.double x :: st) h cn sn) : AW G M d mc ms Q (pc) lv st h cn sn := by
  intro p e s m args below meth c R H locs ls E Rm Fx Hp hS hl hc hs
  exact lv_dload_n E.1 E.2.1 hd rfl (ax_ld_at hl hv) (k p e s m args below meth c R H locs ls E Rm Fx Hp hS hl hc hs)
theorem ax_dload {G : ax_G} {M : ax_M} {d mc ms : Nat} {Q : ax_P} {pc : Nat} {lv : ax_L} {st : List Value} {h : ax_H} {cn sn : Nat} {i : Nat} {x : UInt64} (hd : decode M.2.1 pc = .ok (.dload i, 2)) (hv : ax_ld lv i = some (.double x)) (k : AW G M d mc ms Q (pc + 2) lv (.double x :: st) h cn sn) : AW G M d mc ms Q (pc) lv st h cn sn := by
  intro p e s m args below meth c R H locs ls E Rm Fx Hp hS hl hc hs
  exact lv_dload E.1 E.2.1 hd (ax_ld_at hl hv) (k p e s m args below meth c R H locs ls E Rm Fx Hp hS hl hc hs)
theorem ax_aload_n {G : ax_G} {M : ax_M} {d mc ms : Nat} {Q : ax_P} {pc : Nat} {lv : ax_L} {st : List Value} {h : ax_H} {cn sn : Nat} {k' : Fin 4} {x : Nat} (hd : decode M.2.1 pc = .ok (.aload_n k', 1)) (hv : ax_ld lv k' = some (.ref x)) (k : AW G M d mc ms Q (pc + 1) lv (.ref x :: st) h cn sn) : AW G M d mc ms Q (pc) lv st h cn sn := by
  intro p e s m args below meth c R H locs ls E Rm Fx Hp hS hl hc hs
  exact lv_aload_n E.1 E.2.1 hd rfl (ax_ld_at hl hv) (k p e s m args below meth c R H locs ls E Rm Fx Hp hS hl hc hs)
theorem ax_aload {G : ax_G} {M : ax_M} {d mc ms : Nat} {Q : ax_P} {pc : Nat} {lv : ax_L} {st : List Value} {h : ax_H} {cn sn : Nat} {i : Nat} {x : Nat} (hd : decode M.2.1 pc = .ok (.aload i, 2)) (hv : ax_ld lv i = some (.ref x)) (k : AW G M d mc ms Q (pc + 2) lv (.ref x :: st) h cn sn) : AW G M d mc ms Q (pc) lv st h cn sn := by
  intro p e s m args below meth c R H locs ls E Rm Fx Hp hS hl hc hs
  exact lv_aload E.1 E.2.1 hd (ax_ld_at hl hv) (k p e s m args below meth c R H locs ls E Rm Fx Hp hS hl hc hs)
theorem ax_aload_nN {G : ax_G} {M : ax_M} {d mc ms : Nat} {Q : ax_P} {pc : Nat} {lv : ax_L} {st : List Value} {h : ax_H} {cn sn : Nat} {k' : Fin 4} (hd : decode M.2.1 pc = .ok (.aload_n k', 1)) (hv : ax_ld lv k' = some .null) (k : AW G M d mc ms Q (pc + 1) lv (.null :: st) h cn sn) : AW G M d mc ms Q (pc) lv st h cn sn := by
  intro p e s m args below meth c R H locs ls E Rm Fx Hp hS hl hc hs
  exact lv_aload_nN E.1 E.2.1 hd rfl (ax_ld_at hl hv) (k p e s m args below meth c R H locs ls E Rm Fx Hp hS hl hc hs)
theorem ax_aloadN {G : ax_G} {M : ax_M} {d mc ms : Nat} {Q : ax_P} {pc : Nat} {lv : ax_L} {st : List Value} {h : ax_H} {cn sn : Nat} {i : Nat} (hd : decode M.2.1 pc = .ok (.aload i, 2)) (hv : ax_ld lv i = some .null) (k : AW G M d mc ms Q (pc + 2) lv (.null :: st) h cn sn) : AW G M d mc ms Q (pc) lv st h cn sn := by
  intro p e s m args below meth c R H locs ls E Rm Fx Hp hS hl hc hs
  exact lv_aloadN E.1 E.2.1 hd (ax_ld_at hl hv) (k p e s m args below meth c R H locs ls E Rm Fx Hp hS hl hc hs)
theorem ax_istore_n {G : ax_G} {M : ax_M} {d mc ms : Nat} {Q : ax_P} {pc : Nat} {lv : ax_L} {st : List Value} {h : ax_H} {cn sn : Nat} {k' : Fin 4} {x : Int32} (hd : decode M.2.1 pc = .ok (.istore_n k', 1)) (hi : (k' : Nat) < M.2.2.1) (k : AW G M d mc ms Q (pc + 1) (ax_s1 k' (.int x) lv) st h cn sn) : AW G M d mc ms Q (pc) lv (.int x :: st) h cn sn := by
  intro p e s m args below meth c R H locs ls E Rm Fx Hp hS hl hc hs
  exact lv_istore_n E.1 E.2.1 hd rfl hl hi rfl (fun ls9 hl9 => k p e s m args below meth c R H locs ls9 E Rm Fx Hp hS (ax_s1_has hl9) hc hs)
theorem ax_istore {G : ax_G} {M : ax_M} {d mc ms : Nat} {Q : ax_P} {pc : Nat} {lv : ax_L} {st : List Value} {h : ax_H} {cn sn : Nat} {i : Nat} {x : Int32} (hd : decode M.2.1 pc = .ok (.istore i, 2)) (hi : i < M.2.2.1) (k : AW G M d mc ms Q (pc + 2) (ax_s1 i (.int x) lv) st h cn sn) : AW G M d mc ms Q (pc) lv (.int x :: st) h cn sn := by
  intro p e s m args below meth c R H locs ls E Rm Fx Hp hS hl hc hs
  exact lv_istore E.1 E.2.1 hd hl hi rfl (fun ls9 hl9 => k p e s m args below meth c R H locs ls9 E Rm Fx Hp hS (ax_s1_has hl9) hc hs)
theorem ax_lstore_n {G : ax_G} {M : ax_M} {d mc ms : Nat} {Q : ax_P} {pc : Nat} {lv : ax_L} {st : List Value} {h : ax_H} {cn sn : Nat} {k' : Fin 4} {x : Int64} (hd : decode M.2.1 pc = .ok (.lstore_n k', 1)) (hi : (k' : Nat) + 1 < M.2.2.1) (k : AW G M d mc ms Q (pc + 1) (ax_s2 k' (.long x) lv) st h cn sn) : AW G M d mc ms Q (pc) lv (.long x :: st) h cn sn := by
  intro p e s m args below meth c R H locs ls E Rm Fx Hp hS hl hc hs
  exact lv_lstore_n E.1 E.2.1 hd rfl hl hi rfl (fun ls9 hl9 => k p e s m args below meth c R H locs ls9 E Rm Fx Hp hS (ax_s2_has hl9) hc hs)
theorem ax_lstore {G : ax_G} {M : ax_M} {d mc ms : Nat} {Q : ax_P} {pc : Nat} {lv : ax_L} {st : List Value} {h : ax_H} {cn sn : Nat} {i : Nat} {x : Int64} (hd : decode M.2.1 pc = .ok (.lstore i, 2)) (hi : i + 1 < M.2.2.1) (k : AW G M d mc ms Q (pc + 2) (ax_s2 i (.long x) lv) st h cn sn) : AW G M d mc ms Q (pc) lv (.long x :: st) h cn sn := by
  intro p e s m args below meth c R H locs ls E Rm Fx Hp hS hl hc hs
  exact lv_lstore E.1 E.2.1 hd hl hi rfl (fun ls9 hl9 => k p e s m args below meth c R H locs ls9 E Rm Fx Hp hS (ax_s2_has hl9) hc hs)
theorem ax_dstore_n {G : ax_G} {M : ax_M} {d mc ms : Nat} {Q : ax_P} {pc : Nat} {lv : ax_L} {st : List Value} {h : ax_H} {cn sn : Nat} {k' : Fin 4} {x : UInt64} (hd : decode M.2.1 pc = .ok (.dstore_n k', 1)) (hi : (k' : Nat) + 1 < M.2.2.1) (k : AW G M d mc ms Q (pc + 1) (ax_s2 k' (.double x) lv) st h cn sn) : AW G M d mc ms Q (pc) lv (.double x :: st) h cn sn := by
  intro p e s m args below meth c R H locs ls E Rm Fx Hp hS hl hc hs
  exact lv_dstore_n E.1 E.2.1 hd rfl hl hi rfl (fun ls9 hl9 => k p e s m args below meth c R H locs ls9 E Rm Fx Hp hS (ax_s2_has hl9) hc hs)
theorem ax_dstore {G : ax_G} {M : ax_M} {d mc ms : Nat} {Q : ax_P} {pc : Nat} {lv : ax_L} {st : List Value} {h : ax_H} {cn sn : Nat} {i : Nat} {x : UInt64} (hd : decode M.2.1 pc = .ok (.dstore i, 2)) (hi : i + 1 < M.2.2.1) (k : AW G M d mc ms Q (pc + 2) (ax_s2 i (.double x) lv) st h cn sn) : AW G M d mc ms Q (pc) lv (.double x :: st) h cn sn := by
  intro p e s m args below meth c R H locs ls E Rm Fx Hp hS hl hc hs
  exact lv_dstore E.1 E.2.1 hd hl hi rfl (fun ls9 hl9 => k p e s m args below meth c R H locs ls9 E Rm Fx Hp hS (ax_s2_has hl9) hc hs)
theorem ax_astore_n {G : ax_G} {M : ax_M} {d mc ms : Nat} {Q : ax_P} {pc : Nat} {lv : ax_L} {st : List Value} {h : ax_H} {cn sn : Nat} {k' : Fin 4} {x : Nat} (hd : decode M.2.1 pc = .ok (.astore_n k', 1)) (hi : (k' : Nat) < M.2.2.1) (k : AW G M d mc ms Q (pc + 1) (ax_s1 k' (.ref x) lv) st h cn sn) : AW G M d mc ms Q (pc) lv (.ref x :: st) h cn sn := by
  intro p e s m args below meth c R H locs ls E Rm Fx Hp hS hl hc hs
  exact lv_astore_n E.1 E.2.1 hd rfl hl hi rfl (fun ls9 hl9 => k p e s m args below meth c R H locs ls9 E Rm Fx Hp hS (ax_s1_has hl9) hc hs)
theorem ax_astore {G : ax_G} {M : ax_M} {d mc ms : Nat} {Q : ax_P} {pc : Nat} {lv : ax_L} {st : List Value} {h : ax_H} {cn sn : Nat} {i : Nat} {x : Nat} (hd : decode M.2.1 pc = .ok (.astore i, 2)) (hi : i < M.2.2.1) (k : AW G M d mc ms Q (pc + 2) (ax_s1 i (.ref x) lv) st h cn sn) : AW G M d mc ms Q (pc) lv (.ref x :: st) h cn sn := by
  intro p e s m args below meth c R H locs ls E Rm Fx Hp hS hl hc hs
  exact lv_astore E.1 E.2.1 hd hl hi rfl (fun ls9 hl9 => k p e s m args below meth c R H locs ls9 E Rm Fx Hp hS (ax_s1_has hl9) hc hs)
theorem ax_astore_nN {G : ax_G} {M : ax_M} {d mc ms : Nat} {Q : ax_P} {pc : Nat} {lv : ax_L} {st : List Value} {h : ax_H} {cn sn : Nat} {k' : Fin 4} (hd : decode M.2.1 pc = .ok (.astore_n k', 1)) (hi : (k' : Nat) < M.2.2.1) (k : AW G M d mc ms Q (pc + 1) (ax_s1 k' .null lv) st h cn sn) : AW G M d mc ms Q (pc) lv (.null :: st) h cn sn := by
  intro p e s m args below meth c R H locs ls E Rm Fx Hp hS hl hc hs
  exact lv_astore_nN E.1 E.2.1 hd rfl hl hi rfl (fun ls9 hl9 => k p e s m args below meth c R H locs ls9 E Rm Fx Hp hS (ax_s1_has hl9) hc hs)
theorem ax_astoreN {G : ax_G} {M : ax_M} {d mc ms : Nat} {Q : ax_P} {pc : Nat} {lv : ax_L} {st : List Value} {h : ax_H} {cn sn : Nat} {i : Nat} (hd : decode M.2.1 pc = .ok (.astore i, 2)) (hi : i < M.2.2.1) (k : AW G M d mc ms Q (pc + 2) (ax_s1 i .null lv) st h cn sn) : AW G M d mc ms Q (pc) lv (.null :: st) h cn sn := by
  intro p e s m args below meth c R H locs ls E Rm Fx Hp hS hl hc hs
  exact lv_astoreN E.1 E.2.1 hd hl hi rfl (fun ls9 hl9 => k p e s m args below meth c R H locs ls9 E Rm Fx Hp hS (ax_s1_has hl9) hc hs)
theorem ax_iinc {G : ax_G} {M : ax_M} {d mc ms : Nat} {Q : ax_P} {pc : Nat} {lv : ax_L} {st : List Value} {h : ax_H} {cn sn : Nat} {i : Nat} {n : Int} {x v : Int32} (hd : decode M.2.1 pc = .ok (.iinc i n, 3)) (hx : ax_ld lv i = some (.int x)) (hv : x + Int32.ofInt n = v) (hi : i < M.2.2.1) (k : AW G M d mc ms Q (pc + 3) (ax_s1 i (.int v) lv) st h cn sn) : AW G M d mc ms Q (pc) lv st h cn sn := by
  intro p e s m args below meth c R H locs ls E Rm Fx Hp hS hl hc hs
  unfold ax_ld at hx
  obtain ⟨q, hq, hq2⟩ := Option.map_eq_some_iff.mp hx
  obtain ⟨kk, hkk⟩ := List.getElem?_of_mem (List.mem_of_find?_eq_some hq)
  have h2 : q.1 = i := by simpa using List.find?_some hq
  have h3 : q = (i, Value.int x) := by rw [← h2, ← hq2]
  rw [h3] at hkk
  exact lv_iinc E.1 E.2.1 hd hl hkk hv hi rfl (fun ls9 hl9 => k p e s m args below meth c R H locs ls9 E Rm Fx Hp hS (ax_s1_has hl9) hc hs)
theorem ax_iadd {G : ax_G} {M : ax_M} {d mc ms : Nat} {Q : ax_P} {pc : Nat} {lv : ax_L} {st : List Value} {h : ax_H} {cn sn : Nat} {x y : Int32} (hd : decode M.2.1 pc = .ok (.iadd, 1)) (k : AW G M d mc ms Q (pc + 1) lv (.int (x + y) :: st) h cn sn) : AW G M d mc ms Q (pc) lv (.int y :: .int x :: st) h cn sn := by
  intro p e s m args below meth c R H locs ls E Rm Fx Hp hS hl hc hs
  exact lv_iadd E.1 E.2.1 hd (k p e s m args below meth c R H locs ls E Rm Fx Hp hS hl hc hs)
theorem ax_isub {G : ax_G} {M : ax_M} {d mc ms : Nat} {Q : ax_P} {pc : Nat} {lv : ax_L} {st : List Value} {h : ax_H} {cn sn : Nat} {x y : Int32} (hd : decode M.2.1 pc = .ok (.isub, 1)) (k : AW G M d mc ms Q (pc + 1) lv (.int (x - y) :: st) h cn sn) : AW G M d mc ms Q (pc) lv (.int y :: .int x :: st) h cn sn := by
  intro p e s m args below meth c R H locs ls E Rm Fx Hp hS hl hc hs
  exact lv_isub E.1 E.2.1 hd (k p e s m args below meth c R H locs ls E Rm Fx Hp hS hl hc hs)
theorem ax_imul {G : ax_G} {M : ax_M} {d mc ms : Nat} {Q : ax_P} {pc : Nat} {lv : ax_L} {st : List Value} {h : ax_H} {cn sn : Nat} {x y : Int32} (hd : decode M.2.1 pc = .ok (.imul, 1)) (k : AW G M d mc ms Q (pc + 1) lv (.int (x * y) :: st) h cn sn) : AW G M d mc ms Q (pc) lv (.int y :: .int x :: st) h cn sn := by
  intro p e s m args below meth c R H locs ls E Rm Fx Hp hS hl hc hs
  exact lv_imul E.1 E.2.1 hd (k p e s m args below meth c R H locs ls E Rm Fx Hp hS hl hc hs)
theorem ax_iand {G : ax_G} {M : ax_M} {d mc ms : Nat} {Q : ax_P} {pc : Nat} {lv : ax_L} {st : List Value} {h : ax_H} {cn sn : Nat} {x y : Int32} (hd : decode M.2.1 pc = .ok (.iand, 1)) (k : AW G M d mc ms Q (pc + 1) lv (.int (x &&& y) :: st) h cn sn) : AW G M d mc ms Q (pc) lv (.int y :: .int x :: st) h cn sn := by
  intro p e s m args below meth c R H locs ls E Rm Fx Hp hS hl hc hs
  exact lv_iand E.1 E.2.1 hd (k p e s m args below meth c R H locs ls E Rm Fx Hp hS hl hc hs)
theorem ax_irem {G : ax_G} {M : ax_M} {d mc ms : Nat} {Q : ax_P} {pc : Nat} {lv : ax_L} {st : List Value} {h : ax_H} {cn sn : Nat} {x y : Int32} (hd : decode M.2.1 pc = .ok (.irem, 1)) (hne : ¬ y = 0) (k : AW G M d mc ms Q (pc + 1) lv (.int (x - x / y * y) :: st) h cn sn) : AW G M d mc ms Q (pc) lv (.int y :: .int x :: st) h cn sn := by
  intro p e s m args below meth c R H locs ls E Rm Fx Hp hS hl hc hs
  exact lv_irem E.1 E.2.1 hd hne (k p e s m args below meth c R H locs ls E Rm Fx Hp hS hl hc hs)
theorem ax_ladd {G : ax_G} {M : ax_M} {d mc ms : Nat} {Q : ax_P} {pc : Nat} {lv : ax_L} {st : List Value} {h : ax_H} {cn sn : Nat} {x y : Int64} (hd : decode M.2.1 pc = .ok (.ladd, 1)) (k : AW G M d mc ms Q (pc + 1) lv (.long (x + y) :: st) h cn sn) : AW G M d mc ms Q (pc) lv (.long y :: .long x :: st) h cn sn := by
  intro p e s m args below meth c R H locs ls E Rm Fx Hp hS hl hc hs
  exact lv_ladd E.1 E.2.1 hd (k p e s m args below meth c R H locs ls E Rm Fx Hp hS hl hc hs)
theorem ax_lmul {G : ax_G} {M : ax_M} {d mc ms : Nat} {Q : ax_P} {pc : Nat} {lv : ax_L} {st : List Value} {h : ax_H} {cn sn : Nat} {x y : Int64} (hd : decode M.2.1 pc = .ok (.lmul, 1)) (k : AW G M d mc ms Q (pc + 1) lv (.long (x * y) :: st) h cn sn) : AW G M d mc ms Q (pc) lv (.long y :: .long x :: st) h cn sn := by
  intro p e s m args below meth c R H locs ls E Rm Fx Hp hS hl hc hs
  exact lv_lmul E.1 E.2.1 hd (k p e s m args below meth c R H locs ls E Rm Fx Hp hS hl hc hs)
theorem ax_land {G : ax_G} {M : ax_M} {d mc ms : Nat} {Q : ax_P} {pc : Nat} {lv : ax_L} {st : List Value} {h : ax_H} {cn sn : Nat} {x y : Int64} (hd : decode M.2.1 pc = .ok (.land, 1)) (k : AW G M d mc ms Q (pc + 1) lv (.long (x &&& y) :: st) h cn sn) : AW G M d mc ms Q (pc) lv (.long y :: .long x :: st) h cn sn := by
  intro p e s m args below meth c R H locs ls E Rm Fx Hp hS hl hc hs
  exact lv_land E.1 E.2.1 hd (k p e s m args below meth c R H locs ls E Rm Fx Hp hS hl hc hs)
theorem ax_lor {G : ax_G} {M : ax_M} {d mc ms : Nat} {Q : ax_P} {pc : Nat} {lv : ax_L} {st : List Value} {h : ax_H} {cn sn : Nat} {x y : Int64} (hd : decode M.2.1 pc = .ok (.lor, 1)) (k : AW G M d mc ms Q (pc + 1) lv (.long (x ||| y) :: st) h cn sn) : AW G M d mc ms Q (pc) lv (.long y :: .long x :: st) h cn sn := by
  intro p e s m args below meth c R H locs ls E Rm Fx Hp hS hl hc hs
  exact lv_lor E.1 E.2.1 hd (k p e s m args below meth c R H locs ls E Rm Fx Hp hS hl hc hs)
theorem ax_lrem {G : ax_G} {M : ax_M} {d mc ms : Nat} {Q : ax_P} {pc : Nat} {lv : ax_L} {st : List Value} {h : ax_H} {cn sn : Nat} {x y : Int64} (hd : decode M.2.1 pc = .ok (.lrem, 1)) (hne : ¬ y = 0) (k : AW G M d mc ms Q (pc + 1) lv (.long (x - x / y * y) :: st) h cn sn) : AW G M d mc ms Q (pc) lv (.long y :: .long x :: st) h cn sn := by
  intro p e s m args below meth c R H locs ls E Rm Fx Hp hS hl hc hs
  exact lv_lrem E.1 E.2.1 hd hne (k p e s m args below meth c R H locs ls E Rm Fx Hp hS hl hc hs)
theorem ax_lcmp {G : ax_G} {M : ax_M} {d mc ms : Nat} {Q : ax_P} {pc : Nat} {lv : ax_L} {st : List Value} {h : ax_H} {cn sn : Nat} {x y : Int64} (hd : decode M.2.1 pc = .ok (.lcmp, 1)) (k : AW G M d mc ms Q (pc + 1) lv (.int (lg_cmp x y) :: st) h cn sn) : AW G M d mc ms Q (pc) lv (.long y :: .long x :: st) h cn sn := by
  intro p e s m args below meth c R H locs ls E Rm Fx Hp hS hl hc hs
  exact W.lcmp E.1 E.2.1 hd (k p e s m args below meth c R H locs ls E Rm Fx Hp hS hl hc hs)
theorem ax_i2l {G : ax_G} {M : ax_M} {d mc ms : Nat} {Q : ax_P} {pc : Nat} {lv : ax_L} {st : List Value} {h : ax_H} {cn sn : Nat} {x : Int32} (hd : decode M.2.1 pc = .ok (.i2l, 1)) (k : AW G M d mc ms Q (pc + 1) lv (.long x.toInt64 :: st) h cn sn) : AW G M d mc ms Q (pc) lv (.int x :: st) h cn sn := by
  intro p e s m args below meth c R H locs ls E Rm Fx Hp hS hl hc hs
  exact lv_i2l E.1 E.2.1 hd rfl (k p e s m args below meth c R H locs ls E Rm Fx Hp hS hl hc hs)
theorem ax_l2i {G : ax_G} {M : ax_M} {d mc ms : Nat} {Q : ax_P} {pc : Nat} {lv : ax_L} {st : List Value} {h : ax_H} {cn sn : Nat} {x : Int64} (hd : decode M.2.1 pc = .ok (.l2i, 1)) (k : AW G M d mc ms Q (pc + 1) lv (.int x.toInt32 :: st) h cn sn) : AW G M d mc ms Q (pc) lv (.long x :: st) h cn sn := by
  intro p e s m args below meth c R H locs ls E Rm Fx Hp hS hl hc hs
  exact lv_l2i E.1 E.2.1 hd rfl (k p e s m args below meth c R H locs ls E Rm Fx Hp hS hl hc hs)
theorem ax_lushr {G : ax_G} {M : ax_M} {d mc ms : Nat} {Q : ax_P} {pc : Nat} {lv : ax_L} {st : List Value} {h : ax_H} {cn sn : Nat} {x : Int64} {y : Int32} (hd : decode M.2.1 pc = .ok (.lushr, 1)) (k : AW G M d mc ms Q (pc + 1) lv (.long (x.toUInt64 >>> (y.toInt64.toUInt64 &&& Int64.toUInt64 63)).toInt64 :: st) h cn sn) : AW G M d mc ms Q (pc) lv (.int y :: .long x :: st) h cn sn := by
  intro p e s m args below meth c R H locs ls E Rm Fx Hp hS hl hc hs
  exact lv_lushr E.1 E.2.1 hd rfl (k p e s m args below meth c R H locs ls E Rm Fx Hp hS hl hc hs)
theorem ax_lshl {G : ax_G} {M : ax_M} {d mc ms : Nat} {Q : ax_P} {pc : Nat} {lv : ax_L} {st : List Value} {h : ax_H} {cn sn : Nat} {x : Int64} {y : Int32} (hd : decode M.2.1 pc = .ok (.lshl, 1)) (k : AW G M d mc ms Q (pc + 1) lv (.long (x <<< (y.toInt64 &&& 63)) :: st) h cn sn) : AW G M d mc ms Q (pc) lv (.int y :: .long x :: st) h cn sn := by
  intro p e s m args below meth c R H locs ls E Rm Fx Hp hS hl hc hs
  exact lv_lshl E.1 E.2.1 hd rfl (k p e s m args below meth c R H locs ls E Rm Fx Hp hS hl hc hs)
theorem ax_i2d {G : ax_G} {M : ax_M} {d mc ms : Nat} {Q : ax_P} {pc : Nat} {lv : ax_L} {st : List Value} {h : ax_H} {cn sn : Nat} {x : Int32} (hd : decode M.2.1 pc = .ok (.i2d, 1)) (k : AW G M d mc ms Q (pc + 1) lv (.double (FP.i2d x) :: st) h cn sn) : AW G M d mc ms Q (pc) lv (.int x :: st) h cn sn := by
  intro p e s m args below meth c R H locs ls E Rm Fx Hp hS hl hc hs
  exact lv_i2d E.1 E.2.1 hd (k p e s m args below meth c R H locs ls E Rm Fx Hp hS hl hc hs)
theorem ax_ddiv {G : ax_G} {M : ax_M} {d mc ms : Nat} {Q : ax_P} {pc : Nat} {lv : ax_L} {st : List Value} {h : ax_H} {cn sn : Nat} {x y : UInt64} (hd : decode M.2.1 pc = .ok (.ddiv, 1)) (hne : vf_n64 (FP.ddiv x y)) (k : AW G M d mc ms Q (pc + 1) lv (.double (FP.ddiv x y) :: st) h cn sn) : AW G M d mc ms Q (pc) lv (.double y :: .double x :: st) h cn sn := by
  intro p e s m args below meth c R H locs ls E Rm Fx Hp hS hl hc hs
  exact lv_ddiv E.1 E.2.1 hd hne (k p e s m args below meth c R H locs ls E Rm Fx Hp hS hl hc hs)
theorem ax_dcmp {G : ax_G} {M : ax_M} {d mc ms : Nat} {Q : ax_P} {pc : Nat} {lv : ax_L} {st : List Value} {h : ax_H} {cn sn : Nat} {x y : UInt64} {op : CmpOp} (hd : decode M.2.1 pc = .ok (.dcmp op, 1)) (k : AW G M d mc ms Q (pc + 1) lv (.int (Op.cmpValue (FP.dcmp x y) op) :: st) h cn sn) : AW G M d mc ms Q (pc) lv (.double y :: .double x :: st) h cn sn := by
  intro p e s m args below meth c R H locs ls E Rm Fx Hp hS hl hc hs
  exact lv_dcmp E.1 E.2.1 hd (k p e s m args below meth c R H locs ls E Rm Fx Hp hS hl hc hs)
theorem ax_dup {G : ax_G} {M : ax_M} {d mc ms : Nat} {Q : ax_P} {pc : Nat} {lv : ax_L} {st : List Value} {h : ax_H} {cn sn : Nat} {v : Value} (hd : decode M.2.1 pc = .ok (.dup, 1)) (hv : v.category = 1) (k : AW G M d mc ms Q (pc + 1) lv (v :: v :: st) h cn sn) : AW G M d mc ms Q (pc) lv (v :: st) h cn sn := by
  intro p e s m args below meth c R H locs ls E Rm Fx Hp hS hl hc hs
  exact lv_dup E.1 E.2.1 hd hv (k p e s m args below meth c R H locs ls E Rm Fx Hp hS hl hc hs)
theorem ax_dup2 {G : ax_G} {M : ax_M} {d mc ms : Nat} {Q : ax_P} {pc : Nat} {lv : ax_L} {st : List Value} {h : ax_H} {cn sn : Nat} {v w : Value} (hd : decode M.2.1 pc = .ok (.dup2, 1)) (hv : v.category = 1) (hw : w.category = 1) (k : AW G M d mc ms Q (pc + 1) lv (v :: w :: v :: w :: st) h cn sn) : AW G M d mc ms Q (pc) lv (v :: w :: st) h cn sn := by
  intro p e s m args below meth c R H locs ls E Rm Fx Hp hS hl hc hs
  exact lv_dup2_11 E.1 E.2.1 hd hv hw (k p e s m args below meth c R H locs ls E Rm Fx Hp hS hl hc hs)
theorem ax_goto {G : ax_G} {M : ax_M} {d mc ms : Nat} {Q : ax_P} {pc : Nat} {lv : ax_L} {st : List Value} {h : ax_H} {cn sn : Nat} {off : Int} {tgt : Nat} (hd : decode M.2.1 pc = .ok (.goto off, 3)) (ht : (pc : Int) + off = (tgt : Int)) (k : AW G M d mc ms Q (tgt) lv st h cn sn) : AW G M d mc ms Q (pc) lv st h cn sn := by
  intro p e s m args below meth c R H locs ls E Rm Fx Hp hS hl hc hs
  exact lv_goto E.1 E.2.1 hd ht (k p e s m args below meth c R H locs ls E Rm Fx Hp hS hl hc hs)
theorem ax_if_eq {G : ax_G} {M : ax_M} {d mc ms : Nat} {Q : ax_P} {pc : Nat} {lv : ax_L} {st : List Value} {h : ax_H} {cn sn : Nat} {x : Int32} {off : Int} {tgt : Nat} (hd : decode M.2.1 pc = .ok (.ifCond .eq off, 3)) (ht : (pc : Int) + off = (tgt : Int)) (kt : x = 0 → AW G M d mc ms Q (tgt) lv st h cn sn) (kf : ¬ (x = 0) → AW G M d mc ms Q (pc + 3) lv st h cn sn) : AW G M d mc ms Q (pc) lv (.int x :: st) h cn sn := by
  intro p e s m args below meth c R H locs ls E Rm Fx Hp hS hl hc hs
  exact lv_if_eq E.1 E.2.1 hd ht (fun z => kt z p e s m args below meth c R H locs ls E Rm Fx Hp hS hl hc hs) (fun z => kf z p e s m args below meth c R H locs ls E Rm Fx Hp hS hl hc hs)
theorem ax_if_ne {G : ax_G} {M : ax_M} {d mc ms : Nat} {Q : ax_P} {pc : Nat} {lv : ax_L} {st : List Value} {h : ax_H} {cn sn : Nat} {x : Int32} {off : Int} {tgt : Nat} (hd : decode M.2.1 pc = .ok (.ifCond .ne off, 3)) (ht : (pc : Int) + off = (tgt : Int)) (kt : ¬ x = 0 → AW G M d mc ms Q (tgt) lv st h cn sn) (kf : x = 0 → AW G M d mc ms Q (pc + 3) lv st h cn sn) : AW G M d mc ms Q (pc) lv (.int x :: st) h cn sn := by
  intro p e s m args below meth c R H locs ls E Rm Fx Hp hS hl hc hs
  exact lv_if_ne E.1 E.2.1 hd ht (fun z => kt z p e s m args below meth c R H locs ls E Rm Fx Hp hS hl hc hs) (fun z => kf z p e s m args below meth c R H locs ls E Rm Fx Hp hS hl hc hs)
theorem ax_if_lt {G : ax_G} {M : ax_M} {d mc ms : Nat} {Q : ax_P} {pc : Nat} {lv : ax_L} {st : List Value} {h : ax_H} {cn sn : Nat} {x : Int32} {off : Int} {tgt : Nat} (hd : decode M.2.1 pc = .ok (.ifCond .lt off, 3)) (ht : (pc : Int) + off = (tgt : Int)) (kt : x < 0 → AW G M d mc ms Q (tgt) lv st h cn sn) (kf : ¬ (x < 0) → AW G M d mc ms Q (pc + 3) lv st h cn sn) : AW G M d mc ms Q (pc) lv (.int x :: st) h cn sn := by
  intro p e s m args below meth c R H locs ls E Rm Fx Hp hS hl hc hs
  exact lv_if_lt E.1 E.2.1 hd ht (fun z => kt z p e s m args below meth c R H locs ls E Rm Fx Hp hS hl hc hs) (fun z => kf z p e s m args below meth c R H locs ls E Rm Fx Hp hS hl hc hs)
theorem ax_if_ge {G : ax_G} {M : ax_M} {d mc ms : Nat} {Q : ax_P} {pc : Nat} {lv : ax_L} {st : List Value} {h : ax_H} {cn sn : Nat} {x : Int32} {off : Int} {tgt : Nat} (hd : decode M.2.1 pc = .ok (.ifCond .ge off, 3)) (ht : (pc : Int) + off = (tgt : Int)) (kt : 0 ≤ x → AW G M d mc ms Q (tgt) lv st h cn sn) (kf : ¬ (0 ≤ x) → AW G M d mc ms Q (pc + 3) lv st h cn sn) : AW G M d mc ms Q (pc) lv (.int x :: st) h cn sn := by
  intro p e s m args below meth c R H locs ls E Rm Fx Hp hS hl hc hs
  exact lv_if_ge E.1 E.2.1 hd ht (fun z => kt z p e s m args below meth c R H locs ls E Rm Fx Hp hS hl hc hs) (fun z => kf z p e s m args below meth c R H locs ls E Rm Fx Hp hS hl hc hs)
theorem ax_if_gt {G : ax_G} {M : ax_M} {d mc ms : Nat} {Q : ax_P} {pc : Nat} {lv : ax_L} {st : List Value} {h : ax_H} {cn sn : Nat} {x : Int32} {off : Int} {tgt : Nat} (hd : decode M.2.1 pc = .ok (.ifCond .gt off, 3)) (ht : (pc : Int) + off = (tgt : Int)) (kt : 0 < x → AW G M d mc ms Q (tgt) lv st h cn sn) (kf : ¬ (0 < x) → AW G M d mc ms Q (pc + 3) lv st h cn sn) : AW G M d mc ms Q (pc) lv (.int x :: st) h cn sn := by
  intro p e s m args below meth c R H locs ls E Rm Fx Hp hS hl hc hs
  exact lv_if_gt E.1 E.2.1 hd ht (fun z => kt z p e s m args below meth c R H locs ls E Rm Fx Hp hS hl hc hs) (fun z => kf z p e s m args below meth c R H locs ls E Rm Fx Hp hS hl hc hs)
theorem ax_if_le {G : ax_G} {M : ax_M} {d mc ms : Nat} {Q : ax_P} {pc : Nat} {lv : ax_L} {st : List Value} {h : ax_H} {cn sn : Nat} {x : Int32} {off : Int} {tgt : Nat} (hd : decode M.2.1 pc = .ok (.ifCond .le off, 3)) (ht : (pc : Int) + off = (tgt : Int)) (kt : x ≤ 0 → AW G M d mc ms Q (tgt) lv st h cn sn) (kf : ¬ (x ≤ 0) → AW G M d mc ms Q (pc + 3) lv st h cn sn) : AW G M d mc ms Q (pc) lv (.int x :: st) h cn sn := by
  intro p e s m args below meth c R H locs ls E Rm Fx Hp hS hl hc hs
  exact lv_if_le E.1 E.2.1 hd ht (fun z => kt z p e s m args below meth c R H locs ls E Rm Fx Hp hS hl hc hs) (fun z => kf z p e s m args below meth c R H locs ls E Rm Fx Hp hS hl hc hs)
theorem ax_icmp_eq {G : ax_G} {M : ax_M} {d mc ms : Nat} {Q : ax_P} {pc : Nat} {lv : ax_L} {st : List Value} {h : ax_H} {cn sn : Nat} {x y : Int32} {off : Int} {tgt : Nat} (hd : decode M.2.1 pc = .ok (.if_icmp .eq off, 3)) (ht : (pc : Int) + off = (tgt : Int)) (kt : x = y → AW G M d mc ms Q (tgt) lv st h cn sn) (kf : ¬ (x = y) → AW G M d mc ms Q (pc + 3) lv st h cn sn) : AW G M d mc ms Q (pc) lv (.int y :: .int x :: st) h cn sn := by
  intro p e s m args below meth c R H locs ls E Rm Fx Hp hS hl hc hs
  exact lv_icmp_eq E.1 E.2.1 hd ht (fun z => kt z p e s m args below meth c R H locs ls E Rm Fx Hp hS hl hc hs) (fun z => kf z p e s m args below meth c R H locs ls E Rm Fx Hp hS hl hc hs)
theorem ax_icmp_ne {G : ax_G} {M : ax_M} {d mc ms : Nat} {Q : ax_P} {pc : Nat} {lv : ax_L} {st : List Value} {h : ax_H} {cn sn : Nat} {x y : Int32} {off : Int} {tgt : Nat} (hd : decode M.2.1 pc = .ok (.if_icmp .ne off, 3)) (ht : (pc : Int) + off = (tgt : Int)) (kt : ¬ x = y → AW G M d mc ms Q (tgt) lv st h cn sn) (kf : x = y → AW G M d mc ms Q (pc + 3) lv st h cn sn) : AW G M d mc ms Q (pc) lv (.int y :: .int x :: st) h cn sn := by
  intro p e s m args below meth c R H locs ls E Rm Fx Hp hS hl hc hs
  exact lv_icmp_ne E.1 E.2.1 hd ht (fun z => kt z p e s m args below meth c R H locs ls E Rm Fx Hp hS hl hc hs) (fun z => kf z p e s m args below meth c R H locs ls E Rm Fx Hp hS hl hc hs)
theorem ax_icmp_lt {G : ax_G} {M : ax_M} {d mc ms : Nat} {Q : ax_P} {pc : Nat} {lv : ax_L} {st : List Value} {h : ax_H} {cn sn : Nat} {x y : Int32} {off : Int} {tgt : Nat} (hd : decode M.2.1 pc = .ok (.if_icmp .lt off, 3)) (ht : (pc : Int) + off = (tgt : Int)) (kt : x < y → AW G M d mc ms Q (tgt) lv st h cn sn) (kf : ¬ (x < y) → AW G M d mc ms Q (pc + 3) lv st h cn sn) : AW G M d mc ms Q (pc) lv (.int y :: .int x :: st) h cn sn := by
  intro p e s m args below meth c R H locs ls E Rm Fx Hp hS hl hc hs
  exact lv_icmp_lt E.1 E.2.1 hd ht (fun z => kt z p e s m args below meth c R H locs ls E Rm Fx Hp hS hl hc hs) (fun z => kf z p e s m args below meth c R H locs ls E Rm Fx Hp hS hl hc hs)
theorem ax_icmp_ge {G : ax_G} {M : ax_M} {d mc ms : Nat} {Q : ax_P} {pc : Nat} {lv : ax_L} {st : List Value} {h : ax_H} {cn sn : Nat} {x y : Int32} {off : Int} {tgt : Nat} (hd : decode M.2.1 pc = .ok (.if_icmp .ge off, 3)) (ht : (pc : Int) + off = (tgt : Int)) (kt : y ≤ x → AW G M d mc ms Q (tgt) lv st h cn sn) (kf : ¬ (y ≤ x) → AW G M d mc ms Q (pc + 3) lv st h cn sn) : AW G M d mc ms Q (pc) lv (.int y :: .int x :: st) h cn sn := by
  intro p e s m args below meth c R H locs ls E Rm Fx Hp hS hl hc hs
  exact lv_icmp_ge E.1 E.2.1 hd ht (fun z => kt z p e s m args below meth c R H locs ls E Rm Fx Hp hS hl hc hs) (fun z => kf z p e s m args below meth c R H locs ls E Rm Fx Hp hS hl hc hs)
theorem ax_icmp_gt {G : ax_G} {M : ax_M} {d mc ms : Nat} {Q : ax_P} {pc : Nat} {lv : ax_L} {st : List Value} {h : ax_H} {cn sn : Nat} {x y : Int32} {off : Int} {tgt : Nat} (hd : decode M.2.1 pc = .ok (.if_icmp .gt off, 3)) (ht : (pc : Int) + off = (tgt : Int)) (kt : y < x → AW G M d mc ms Q (tgt) lv st h cn sn) (kf : ¬ (y < x) → AW G M d mc ms Q (pc + 3) lv st h cn sn) : AW G M d mc ms Q (pc) lv (.int y :: .int x :: st) h cn sn := by
  intro p e s m args below meth c R H locs ls E Rm Fx Hp hS hl hc hs
  exact lv_icmp_gt E.1 E.2.1 hd ht (fun z => kt z p e s m args below meth c R H locs ls E Rm Fx Hp hS hl hc hs) (fun z => kf z p e s m args below meth c R H locs ls E Rm Fx Hp hS hl hc hs)
theorem ax_icmp_le {G : ax_G} {M : ax_M} {d mc ms : Nat} {Q : ax_P} {pc : Nat} {lv : ax_L} {st : List Value} {h : ax_H} {cn sn : Nat} {x y : Int32} {off : Int} {tgt : Nat} (hd : decode M.2.1 pc = .ok (.if_icmp .le off, 3)) (ht : (pc : Int) + off = (tgt : Int)) (kt : x ≤ y → AW G M d mc ms Q (tgt) lv st h cn sn) (kf : ¬ (x ≤ y) → AW G M d mc ms Q (pc + 3) lv st h cn sn) : AW G M d mc ms Q (pc) lv (.int y :: .int x :: st) h cn sn := by
  intro p e s m args below meth c R H locs ls E Rm Fx Hp hS hl hc hs
  exact lv_icmp_le E.1 E.2.1 hd ht (fun z => kt z p e s m args below meth c R H locs ls E Rm Fx Hp hS hl hc hs) (fun z => kf z p e s m args below meth c R H locs ls E Rm Fx Hp hS hl hc hs)
theorem ax_ifnonnull {G : ax_G} {M : ax_M} {d mc ms : Nat} {Q : ax_P} {pc : Nat} {lv : ax_L} {st : List Value} {h : ax_H} {cn sn : Nat} {x : Nat} {off : Int} {tgt : Nat} (hd : decode M.2.1 pc = .ok (.ifnonnull off, 3)) (ht : (pc : Int) + off = (tgt : Int)) (k : AW G M d mc ms Q (tgt) lv st h cn sn) : AW G M d mc ms Q (pc) lv (.ref x :: st) h cn sn := by
  intro p e s m args below meth c R H locs ls E Rm Fx Hp hS hl hc hs
  exact lv_ifnonnull E.1 E.2.1 hd ht (k p e s m args below meth c R H locs ls E Rm Fx Hp hS hl hc hs)
theorem ax_ifnull {G : ax_G} {M : ax_M} {d mc ms : Nat} {Q : ax_P} {pc : Nat} {lv : ax_L} {st : List Value} {h : ax_H} {cn sn : Nat} {x : Nat} {off : Int} (hd : decode M.2.1 pc = .ok (.ifnull off, 3)) (k : AW G M d mc ms Q (pc + 3) lv st h cn sn) : AW G M d mc ms Q (pc) lv (.ref x :: st) h cn sn := by
  intro p e s m args below meth c R H locs ls E Rm Fx Hp hS hl hc hs
  exact lv_ifnull E.1 E.2.1 hd (k p e s m args below meth c R H locs ls E Rm Fx Hp hS hl hc hs)
theorem ax_ifnullN {G : ax_G} {M : ax_M} {d mc ms : Nat} {Q : ax_P} {pc : Nat} {lv : ax_L} {st : List Value} {h : ax_H} {cn sn : Nat} {off : Int} {tgt : Nat} (hd : decode M.2.1 pc = .ok (.ifnull off, 3)) (ht : (pc : Int) + off = (tgt : Int)) (k : AW G M d mc ms Q (tgt) lv st h cn sn) : AW G M d mc ms Q (pc) lv (.null :: st) h cn sn := by
  intro p e s m args below meth c R H locs ls E Rm Fx Hp hS hl hc hs
  exact lv_ifnullN E.1 E.2.1 hd ht (k p e s m args below meth c R H locs ls E Rm Fx Hp hS hl hc hs)
theorem ax_ifnonnullN {G : ax_G} {M : ax_M} {d mc ms : Nat} {Q : ax_P} {pc : Nat} {lv : ax_L} {st : List Value} {h : ax_H} {cn sn : Nat} {off : Int} (hd : decode M.2.1 pc = .ok (.ifnonnull off, 3)) (k : AW G M d mc ms Q (pc + 3) lv st h cn sn) : AW G M d mc ms Q (pc) lv (.null :: st) h cn sn := by
  intro p e s m args below meth c R H locs ls E Rm Fx Hp hS hl hc hs
  exact lv_ifnonnullN E.1 E.2.1 hd (k p e s m args below meth c R H locs ls E Rm Fx Hp hS hl hc hs)
theorem ax_tabOut {G : ax_G} {M : ax_M} {d mc ms : Nat} {Q : ax_P} {pc : Nat} {lv : ax_L} {st : List Value} {h : ax_H} {cn sn : Nat} {dflt lo hi : Int} {offs : Array Int} {len : Nat} {x : Int32} {tgt : Nat} (hd : decode M.2.1 pc = .ok (.tableswitch dflt lo hi offs, len)) (hx : x.toInt < lo ∨ hi < x.toInt) (ht : (pc : Int) + dflt = (tgt : Int)) (k : AW G M d mc ms Q (tgt) lv st h cn sn) : AW G M d mc ms Q (pc) lv (.int x :: st) h cn sn := by
  intro p e s m args below meth c R H locs ls E Rm Fx Hp hS hl hc hs
  exact lv_tableOut E.1 E.2.1 hd hx ht (k p e s m args below meth c R H locs ls E Rm Fx Hp hS hl hc hs)
theorem ax_tabIn {G : ax_G} {M : ax_M} {d mc ms : Nat} {Q : ax_P} {pc : Nat} {lv : ax_L} {st : List Value} {h : ax_H} {cn sn : Nat} {dflt lo hi : Int} {offs : Array Int} {len : Nat} {x : Int32} {off : Int} {tgt : Nat} (hd : decode M.2.1 pc = .ok (.tableswitch dflt lo hi offs, len)) (h1 : ¬ x.toInt < lo) (h2 : ¬ hi < x.toInt) (ho : offs[(x.toInt - lo).toNat]? = some off) (ht : (pc : Int) + off = (tgt : Int)) (k : AW G M d mc ms Q (tgt) lv st h cn sn) : AW G M d mc ms Q (pc) lv (.int x :: st) h cn sn := by
  intro p e s m args below meth c R H locs ls E Rm Fx Hp hS hl hc hs
  exact lv_tableIn E.1 E.2.1 hd h1 h2 ho ht (k p e s m args below meth c R H locs ls E Rm Fx Hp hS hl hc hs)
theorem ax_sub {G : ax_G} {M : ax_M} {d mc ms : Nat} {Q : ax_P} {pc : Nat} {lv : ax_L} {st : List Value} {h : ax_H} {cn sn : Nat} {lv' : ax_L} (hsub : ∀ q ∈ lv', q ∈ lv) (k : AW G M d mc ms Q (pc) lv' st h cn sn) : AW G M d mc ms Q (pc) lv st h cn sn := by
  intro p e s m args below meth c R H locs ls E Rm Fx Hp hS hl hc hs
  exact k p e s m args below meth c R H locs ls E Rm Fx Hp hS ⟨hl.1, hl.2.1, fun q hq => hl.2.2 q (hsub q hq)⟩ hc hs
theorem ax_iret {G : ax_G} {M : ax_M} {d mc ms : Nat} {Q : ax_P} {pc : Nat} {lv : ax_L} {st : List Value} {h : ax_H} {cn sn : Nat} {v : Int32} {ty : FieldType} (hd : decode M.2.1 pc = .ok (.ireturn, 1)) (hr : M.2.2.2.1 = some ty) (hn : narrow ty (.int v) = .int v) (hq : Q (.inl (some (.int v))) h) : AW G M d mc ms Q (pc) lv [.int v] h cn sn := by
  intro p e s m args below meth c R H locs ls E Rm Fx Hp hS hl hc hs
  exact vx_ret (W.widen (k := mc) (n := ms) hc hs (W.zret E.1 E.2.1 (E.2.2.1.trans hr) hn (fun t ht _ => ⟨_, h, rfl, hq, by rw [ht]; exact Hp, hS.F ht⟩) hS.2.2 hd (hlocks := E.2.2.2.2.2.2.1)))
theorem ax_lret {G : ax_G} {M : ax_M} {d mc ms : Nat} {Q : ax_P} {pc : Nat} {lv : ax_L} {st : List Value} {h : ax_H} {cn sn : Nat} {v : Int64} (hd : decode M.2.1 pc = .ok (.lreturn, 1)) (hr : M.2.2.2.1 = some .long) (hq : Q (.inl (some (.long v))) h) : AW G M d mc ms Q (pc) lv [.long v] h cn sn := by
  intro p e s m args below meth c R H locs ls E Rm Fx Hp hS hl hc hs
  exact vx_ret (W.widen (k := mc) (n := ms) hc hs (W.lret E.1 E.2.1 (E.2.2.1.trans hr) (fun t ht _ => ⟨_, h, rfl, hq, by rw [ht]; exact Hp, hS.F ht⟩) hS.2.2 hd (hlocks := E.2.2.2.2.2.2.1)))
theorem ax_dret {G : ax_G} {M : ax_M} {d mc ms : Nat} {Q : ax_P} {pc : Nat} {lv : ax_L} {st : List Value} {h : ax_H} {cn sn : Nat} {v : UInt64} (hd : decode M.2.1 pc = .ok (.dreturn, 1)) (hr : M.2.2.2.1 = some .double) (hq : Q (.inl (some (.double v))) h) : AW G M d mc ms Q (pc) lv [.double v] h cn sn := by
  intro p e s m args below meth c R H locs ls E Rm Fx Hp hS hl hc hs
  exact vx_ret (W.widen (k := mc) (n := ms) hc hs (W.dret E.1 E.2.1 (E.2.2.1.trans hr) (fun t ht _ => ⟨_, h, rfl, hq, by rw [ht]; exact Hp, hS.F ht⟩) hS.2.2 hd (hlocks := E.2.2.2.2.2.2.1)))
theorem ax_vret {G : ax_G} {M : ax_M} {d mc ms : Nat} {Q : ax_P} {pc : Nat} {lv : ax_L} {st : List Value} {h : ax_H} {cn sn : Nat} (hd : decode M.2.1 pc = .ok (.return_, 1)) (hr : M.2.2.2.1 = none) (hq : Q (.inl none) h) : AW G M d mc ms Q (pc) lv [] h cn sn := by
  intro p e s m args below meth c R H locs ls E Rm Fx Hp hS hl hc hs
  exact vx_ret (W.widen (k := mc) (n := ms) hc hs (W.vret E.1 E.2.1 (E.2.2.1.trans hr) (fun t ht _ => ⟨_, h, rfl, hq, by rw [ht]; exact Hp, hS.F ht⟩) hS.2.2 hd (hlocks := E.2.2.2.2.2.2.1)))
theorem ax_aret {G : ax_G} {M : ax_M} {d mc ms : Nat} {Q : ax_P} {pc : Nat} {lv : ax_L} {st : List Value} {h : ax_H} {cn sn : Nat} {v : Value} {rt : FieldType} (hd : decode M.2.1 pc = .ok (.areturn, 1)) (hr : M.2.2.2.1 = some rt) (hrt : (∃ n, rt = .object n) ∨ ∃ t, rt = .array t) (hv : v = .null ∨ ∃ a, v = .ref a) (hq : Q (.inl (some v)) h) : AW G M d mc ms Q (pc) lv [v] h cn sn := by
  intro p e s m args below meth c R H locs ls E Rm Fx Hp hS hl hc hs
  exact vx_ret (W.widen (k := mc) (n := ms) hc hs (W.aret E.1 E.2.1 (E.2.2.1.trans hr) hrt hv (fun t ht _ => ⟨_, h, rfl, hq, by rw [ht]; exact Hp, hS.F ht⟩) hS.2.2 hd (hlocks := E.2.2.2.2.2.2.1)))
end
section
/-! ===== the rules of the heap ===== -/
/-- the field that an entry names: its class's number, its place -/
def ax_fk (own : String) (i ci k : Nat) : Prop := ∃ (C : String) (T : u_T) (N : Nat), vwCl[ci]? = some (C, T, N) ∧ k < N ∧ Cond.fieldLink own i (T k).1 (T k).2.1 (T k).2.2.1 ∈ ax_all ∧ (∀ w ∈ u_ws C T N, w ∈ ax_all)
def ax_fp (own : String) (i ci k : Nat) (ty : FieldType) : Prop := ∃ (C : String) (T : u_T) (N : Nat) (ty0 : Nat → FieldType), vwCl[ci]? = some (C, T, N) ∧ k < N ∧ Cond.fieldLink own i (T k).1 (T k).2.1 (T k).2.2.1 ∈ ax_all ∧ (∀ w ∈ u_ws C T N, w ∈ ax_all) ∧
  (∀ k, k < N → parseFieldDescriptor (T k).2.2.1 = some (ty0 k)) ∧ (∀ a, a < N → ∀ b, b < N → a ≠ b → (T a).2.1 ≠ (T b).2.1) ∧ parseFieldDescriptor (T k).2.2.1 = some ty ∧ (T k).2.2.2 = false
def ax_fF (own : String) (i ci k : Nat) (ty : FieldType) : Prop := ∃ (C : String) (T : u_T) (N : Nat) (ty0 : Nat → FieldType), vwCl[ci]? = some (C, T, N) ∧ k < N ∧ Cond.fieldLink own i (T k).1 (T k).2.1 (T k).2.2.1 ∈ ax_all ∧ (∀ w ∈ u_ws C T N, w ∈ ax_all) ∧
  (∀ k, k < N → parseFieldDescriptor (T k).2.2.1 = some (ty0 k)) ∧ (∀ a, a < N → ∀ b, b < N → a ≠ b → (T a).2.1 ≠ (T b).2.1) ∧ parseFieldDescriptor (T k).2.2.1 = some ty ∧ (T k).2.2.2 = true ∧ (T k).1 = own
theorem ax_asg (vm : Vm) (c : ClassId) : vm.assignable c c = true := by
  unfold Vm.assignable
  show vm.assignableAux (255 + 1) c c = true
  rw [Vm.assignableAux]
  simp only [beq_self_eq_true, Bool.true_or]
theorem ax_get {G : ax_G} {M : ax_M} {d mc ms : Nat} {Q : ax_P} {pc : Nat} {lv : ax_L} {st : List Value} {h : ax_H} {cn sn : Nat} {i a ci j : Nat} {fs : List Value} {v : Value} (hd : decode M.2.1 pc = .ok (.getfield i, 3)) (hf : ax_fk M.1.cls i ci j) (ha : h a = some (.inr (ci, fs))) (hv : fs[j]? = some v) (k : AW G M d mc ms Q (pc + 3) lv (v :: st) h cn sn) : AW G M d mc ms Q pc lv (.ref a :: st) h cn sn := by
  intro p e s m args below meth c R H locs ls E Rm Fx Hp hS hl hc hs
  obtain ⟨C, T, N, f1, f2, f3, f4⟩ := hf
  obtain ⟨L, hL, hP, hD⟩ := id Hp
  obtain ⟨q0, hq⟩ := ax_get0 (kc := G.2.2.1) hL ha
  exact va_get (ci := ci) (fs := fs) E.1 E.2.1 E.2.2.2.2.2.1 f4 E.2.2.2.2.1 Fx.1 hP q0 hq f1 j f2 (E.2.2.2.2.2.1 _ f3) (fun _ h9 => h9) hv hd (k p e s m args below meth c R H locs ls E Rm Fx Hp hS hl hc hs)
theorem ax_put {G : ax_G} {M : ax_M} {d mc ms : Nat} {Q : ax_P} {pc : Nat} {lv : ax_L} {st : List Value} {h : ax_H} {cn sn : Nat} {i a ci j : Nat} {fs : List Value} {v : Value} {ty : FieldType} (hd : decode M.2.1 pc = .ok (.putfield i, 3)) (hf : ax_fp M.1.cls i ci j ty) (ha : h a = some (.inr (ci, fs))) (hn : narrow ty v = v) (hfit : fits ty v = true) (hj : j < fs.length) (k : AW G M d mc ms Q (pc + 3) lv st (va_up h a (some (.inr (ci, fs.set j v)))) cn sn) : AW G M d mc ms Q pc lv (v :: .ref a :: st) h cn sn := by
  intro p e s m args below meth c R H locs ls E Rm Fx Hp hS hl hc hs
  obtain ⟨C, T, N, ty0, f1, f2, f3, f4, f5, f6, f7, f8⟩ := hf
  obtain ⟨L, hL, hP, hD⟩ := id Hp
  obtain ⟨q0, hq⟩ := ax_get0 (kc := G.2.2.1) hL ha
  exact va_put (ci := ci) (fs := fs) E.1 E.2.1 E.2.2.2.2.2.1 f4 ty0 f5 f6 E.2.2.2.2.1 Fx.1 hP hD hS q0 hq f1 j f2 (E.2.2.2.2.2.1 _ f3) (fun _ h9 => h9) f8 f7 hn hfit hj hd (fun H1 locs1 hP1 hD1 hS1 => k p e s m args below meth c R H1 locs1 ls E Rm Fx (ax_put0 hL hD (.inr (ci, fs.set j v)) ha hq hP1 hD1) hS1 hl hc hs)
theorem ax_putF {G : ax_G} {M : ax_M} {d mc ms : Nat} {Q : ax_P} {pc : Nat} {lv : ax_L} {st : List Value} {h : ax_H} {cn sn : Nat} {i a ci j : Nat} {fs : List Value} {v : Value} {ty : FieldType} (hd : decode M.2.1 pc = .ok (.putfield i, 3)) (hf : ax_fF M.1.cls i ci j ty) (hM : M.1.name = "<init>") (ha : h a = some (.inr (ci, fs))) (hn : narrow ty v = v) (hfit : fits ty v = true) (hj : j < fs.length) (k : AW G M d mc ms Q (pc + 3) lv st (va_up h a (some (.inr (ci, fs.set j v)))) cn sn) : AW G M d mc ms Q pc lv (v :: .ref a :: st) h cn sn := by
  intro p e s m args below meth c R H locs ls E Rm Fx Hp hS hl hc hs
  obtain ⟨C, T, N, ty0, f1, f2, f3, f4, f5, f6, f7, f8, f9⟩ := hf
  obtain ⟨L, hL, hP, hD⟩ := id Hp
  obtain ⟨q0, hq⟩ := ax_get0 (kc := G.2.2.1) hL ha
  exact va_putF (ci := ci) (fs := fs) E.1 E.2.1 E.2.2.2.2.2.1 f4 ty0 f5 f6 E.2.2.2.2.1 Fx.1 hP hD hS q0 hq f1 j f2 (E.2.2.2.2.2.1 _ f3) (fun _ h9 => h9) f8 (E.2.2.2.2.2.2.2.2.trans hM) f9 f7 hn hfit hj hd (fun H1 locs1 hP1 hD1 hS1 => k p e s m args below meth c R H1 locs1 ls E Rm Fx (ax_put0 hL hD (.inr (ci, fs.set j v)) ha hq hP1 hD1) hS1 hl hc hs)
theorem ax_iald {G : ax_G} {M : ax_M} {d mc ms : Nat} {Q : ax_P} {pc : Nat} {lv : ax_L} {st : List Value} {h : ax_H} {cn sn : Nat} {a n : Nat} {f : Nat → Int32} {i : Int32} (hd : decode M.2.1 pc = .ok (.iaload, 1)) (ha : h a = some (.inl (0, n, .inl f))) (hi : vp_in i n) (k : AW G M d mc ms Q (pc + 1) lv (.int (f i.toNatClampNeg) :: st) h cn sn) : AW G M d mc ms Q pc lv (.int i :: .ref a :: st) h cn sn := by
  intro p e s m args below meth c R H locs ls E Rm Fx Hp hS hl hc hs
  obtain ⟨L, hL, hP, hD⟩ := id Hp
  obtain ⟨q0, hq⟩ := ax_get0 (kc := G.2.2.1) hL ha
  exact va_iald (cA := G.2.2.1 0) E.1 E.2.1 Fx.1 hP q0 0 hq rfl hi hd (k p e s m args below meth c R H locs ls E Rm Fx Hp hS hl hc hs)
theorem ax_iast {G : ax_G} {M : ax_M} {d mc ms : Nat} {Q : ax_P} {pc : Nat} {lv : ax_L} {st : List Value} {h : ax_H} {cn sn : Nat} {a n : Nat} {f : Nat → Int32} {i x : Int32} (hd : decode M.2.1 pc = .ok (.iastore, 1)) (ha : h a = some (.inl (0, n, .inl f))) (hi : vp_in i n) (k : AW G M d mc ms Q (pc + 1) lv st (va_up h a (some (.inl (0, n, .inl (upd f i.toNatClampNeg x))))) cn sn) : AW G M d mc ms Q pc lv (.int x :: .int i :: .ref a :: st) h cn sn := by
  intro p e s m args below meth c R H locs ls E Rm Fx Hp hS hl hc hs
  obtain ⟨L, hL, hP, hD⟩ := id Hp
  obtain ⟨q0, hq⟩ := ax_get0 (kc := G.2.2.1) hL ha
  exact va_iast (cA := G.2.2.1 0) E.1 E.2.1 Fx.1 hP hD hS q0 0 hq rfl hi hd (fun H1 locs1 hP1 hD1 hS1 => k p e s m args below meth c R H1 locs1 ls E Rm Fx (ax_put0 hL hD (.inl (0, n, .inl (upd f i.toNatClampNeg x))) ha hq hP1 hD1) hS1 hl hc hs)
theorem ax_lald {G : ax_G} {M : ax_M} {d mc ms : Nat} {Q : ax_P} {pc : Nat} {lv : ax_L} {st : List Value} {h : ax_H} {cn sn : Nat} {a n : Nat} {f : Nat → Int64} {i : Int32} (hd : decode M.2.1 pc = .ok (.laload, 1)) (ha : h a = some (.inl (1, n, .inr (.inl f)))) (hi : vp_in i n) (k : AW G M d mc ms Q (pc + 1) lv (.long (f i.toNatClampNeg) :: st) h cn sn) : AW G M d mc ms Q pc lv (.int i :: .ref a :: st) h cn sn := by
  intro p e s m args below meth c R H locs ls E Rm Fx Hp hS hl hc hs
  obtain ⟨L, hL, hP, hD⟩ := id Hp
  obtain ⟨q0, hq⟩ := ax_get0 (kc := G.2.2.1) hL ha
  exact va_lald (cA := G.2.2.1 1) E.1 E.2.1 Fx.1 hP q0 1 hq rfl hi hd (k p e s m args below meth c R H locs ls E Rm Fx Hp hS hl hc hs)
theorem ax_last {G : ax_G} {M : ax_M} {d mc ms : Nat} {Q : ax_P} {pc : Nat} {lv : ax_L} {st : List Value} {h : ax_H} {cn sn : Nat} {a n : Nat} {f : Nat → Int64} {i : Int32} {x : Int64} (hd : decode M.2.1 pc = .ok (.lastore, 1)) (ha : h a = some (.inl (1, n, .inr (.inl f)))) (hi : vp_in i n) (k : AW G M d mc ms Q (pc + 1) lv st (va_up h a (some (.inl (1, n, .inr (.inl (vp_updL f i.toNatClampNeg x)))))) cn sn) : AW G M d mc ms Q pc lv (.long x :: .int i :: .ref a :: st) h cn sn := by
  intro p e s m args below meth c R H locs ls E Rm Fx Hp hS hl hc hs
  obtain ⟨L, hL, hP, hD⟩ := id Hp
  obtain ⟨q0, hq⟩ := ax_get0 (kc := G.2.2.1) hL ha
  exact va_last (cA := G.2.2.1 1) E.1 E.2.1 Fx.1 hP hD hS q0 1 hq rfl hi hd (fun H1 locs1 hP1 hD1 hS1 => k p e s m args below meth c R H1 locs1 ls E Rm Fx (ax_put0 hL hD (.inl (1, n, .inr (.inl (vp_updL f i.toNatClampNeg x)))) ha hq hP1 hD1) hS1 hl hc hs)
theorem ax_dald {G : ax_G} {M : ax_M} {d mc ms : Nat} {Q : ax_P} {pc : Nat} {lv : ax_L} {st : List Value} {h : ax_H} {cn sn : Nat} {a n : Nat} {f : Nat → UInt64} {i : Int32} (hd : decode M.2.1 pc = .ok (.daload, 1)) (ha : h a = some (.inl (2, n, .inr (.inr (.inr (.inl f)))))) (hi : vp_in i n) (k : AW G M d mc ms Q (pc + 1) lv (.double (f i.toNatClampNeg) :: st) h cn sn) : AW G M d mc ms Q pc lv (.int i :: .ref a :: st) h cn sn := by
  intro p e s m args below meth c R H locs ls E Rm Fx Hp hS hl hc hs
  obtain ⟨L, hL, hP, hD⟩ := id Hp
  obtain ⟨q0, hq⟩ := ax_get0 (kc := G.2.2.1) hL ha
  exact va_dald (cA := G.2.2.1 2) E.1 E.2.1 Fx.1 hP q0 2 hq rfl hi hd (k p e s m args below meth c R H locs ls E Rm Fx Hp hS hl hc hs)
theorem ax_aald3 {G : ax_G} {M : ax_M} {d mc ms : Nat} {Q : ax_P} {pc : Nat} {lv : ax_L} {st : List Value} {h : ax_H} {cn sn : Nat} {a n : Nat} {f : Nat → Option Nat} {i : Int32} (hd : decode M.2.1 pc = .ok (.aaload, 1)) (ha : h a = some (.inl (3, n, .inr (.inr (.inr (.inr f)))))) (hi : vp_in i n) (k : AW G M d mc ms Q (pc + 1) lv (va_rf (f i.toNatClampNeg) :: st) h cn sn) : AW G M d mc ms Q pc lv (.int i :: .ref a :: st) h cn sn := by
  intro p e s m args below meth c R H locs ls E Rm Fx Hp hS hl hc hs
  obtain ⟨L, hL, hP, hD⟩ := id Hp
  obtain ⟨q0, hq⟩ := ax_get0 (kc := G.2.2.1) hL ha
  exact va_aldq (cA := G.2.2.1 3) E.1 E.2.1 Fx.1 hP q0 3 hq rfl hi hd (k p e s m args below meth c R H locs ls E Rm Fx Hp hS hl hc hs)
theorem ax_aald4 {G : ax_G} {M : ax_M} {d mc ms : Nat} {Q : ax_P} {pc : Nat} {lv : ax_L} {st : List Value} {h : ax_H} {cn sn : Nat} {a n : Nat} {f : Nat → Option Nat} {i : Int32} (hd : decode M.2.1 pc = .ok (.aaload, 1)) (ha : h a = some (.inl (4, n, .inr (.inr (.inr (.inr f)))))) (hi : vp_in i n) (k : AW G M d mc ms Q (pc + 1) lv (va_rf (f i.toNatClampNeg) :: st) h cn sn) : AW G M d mc ms Q pc lv (.int i :: .ref a :: st) h cn sn := by
  intro p e s m args below meth c R H locs ls E Rm Fx Hp hS hl hc hs
  obtain ⟨L, hL, hP, hD⟩ := id Hp
  obtain ⟨q0, hq⟩ := ax_get0 (kc := G.2.2.1) hL ha
  have hlt : i.toNatClampNeg < n := Nat.not_le.mp fun q => hi (Or.inr q)
  exact W.aald (v := va_rf (f i.toNatClampNeg)) (ty := .array .int) E.1 E.2.1 (hP q0 _ hq) ((Fx.1.2 4 (G.2.2.1 4, .array .int) rfl).1 n (fun j => va_rf (f j))) rfl (fun q => by cases q) (by show ¬ (i < 0 ∨ (arrV _ _ _).slots.size ≤ _); rw [arrV_size]; exact hi) (by show (arrV _ _ _).slots[_]? = _; rw [arrV_read _ _ hlt]) rfl rfl hd (k p e s m args below meth c R H locs ls E Rm Fx Hp hS hl hc hs)
theorem ax_aast3 {G : ax_G} {M : ax_M} {d mc ms : Nat} {Q : ax_P} {pc : Nat} {lv : ax_L} {st : List Value} {h : ax_H} {cn sn : Nat} {a n v : Nat} {vs : List Value} {f : Nat → Option Nat} {i : Int32} (hd : decode M.2.1 pc = .ok (.aastore, 1)) (ha : h a = some (.inl (3, n, .inr (.inr (.inr (.inr f)))))) (hv : h v = some (.inr (5, vs))) (hi : vp_in i n) (k : AW G M d mc ms Q (pc + 1) lv st (va_up h a (some (.inl (3, n, .inr (.inr (.inr (.inr (va_up f i.toNatClampNeg (some v))))))))) cn sn) : AW G M d mc ms Q pc lv (.ref v :: .int i :: .ref a :: st) h cn sn := by
  intro p e s m args below meth c R H locs ls E Rm Fx Hp hS hl hc hs
  obtain ⟨L, hL, hP, hD⟩ := id Hp
  obtain ⟨q0, hq⟩ := ax_get0 (kc := G.2.2.1) hL ha
  obtain ⟨q1, hq1⟩ := ax_get0 (kc := G.2.2.1) hL hv
  exact va_astq (cA := G.2.2.1 3) (r := (RX5, TX5, 16)) (ci := 5) (vs := vs) E.1 E.2.1 Fx.1 hP hD hS q0 3 q1 hq rfl hq1 rfl hi hd (fun H1 locs1 hP1 hD1 hS1 => k p e s m args below meth c R H1 locs1 ls E Rm Fx (ax_put0 hL hD (.inl (3, n, .inr (.inr (.inr (.inr (va_up f i.toNatClampNeg (some v))))))) ha hq hP1 hD1) hS1 hl hc hs)
theorem ax_aast3N {G : ax_G} {M : ax_M} {d mc ms : Nat} {Q : ax_P} {pc : Nat} {lv : ax_L} {st : List Value} {h : ax_H} {cn sn : Nat} {a n : Nat} {f : Nat → Option Nat} {i : Int32} (hd : decode M.2.1 pc = .ok (.aastore, 1)) (ha : h a = some (.inl (3, n, .inr (.inr (.inr (.inr f)))))) (hi : vp_in i n) (k : AW G M d mc ms Q (pc + 1) lv st (va_up h a (some (.inl (3, n, .inr (.inr (.inr (.inr (va_up f i.toNatClampNeg none)))))))) cn sn) : AW G M d mc ms Q pc lv (.null :: .int i :: .ref a :: st) h cn sn := by
  intro p e s m args below meth c R H locs ls E Rm Fx Hp hS hl hc hs
  obtain ⟨L, hL, hP, hD⟩ := id Hp
  obtain ⟨q0, hq⟩ := ax_get0 (kc := G.2.2.1) hL ha
  exact va_astqN (cA := G.2.2.1 3) E.1 E.2.1 Fx.1 hP hD hS q0 3 hq rfl hi hd (fun H1 locs1 hP1 hD1 hS1 => k p e s m args below meth c R H1 locs1 ls E Rm Fx (ax_put0 hL hD (.inl (3, n, .inr (.inr (.inr (.inr (va_up f i.toNatClampNeg none)))))) ha hq hP1 hD1) hS1 hl hc hs)
theorem ax_aast4 {G : ax_G} {M : ax_M} {d mc ms : Nat} {Q : ax_P} {pc : Nat} {lv : ax_L} {st : List Value} {h : ax_H} {cn sn : Nat} {a n v : Nat} {x : vp_A} {f : Nat → Option Nat} {i : Int32} (hd : decode M.2.1 pc = .ok (.aastore, 1)) (ha : h a = some (.inl (4, n, .inr (.inr (.inr (.inr f)))))) (hv : h v = some (.inl (0, x))) (hi : vp_in i n) (k : AW G M d mc ms Q (pc + 1) lv st (va_up h a (some (.inl (4, n, .inr (.inr (.inr (.inr (va_up f i.toNatClampNeg (some v))))))))) cn sn) : AW G M d mc ms Q pc lv (.ref v :: .int i :: .ref a :: st) h cn sn := by
  intro p e s m args below meth c R H locs ls E Rm Fx Hp hS hl hc hs
  obtain ⟨L, hL, hP, hD⟩ := id Hp
  obtain ⟨q0, hq⟩ := ax_get0 (kc := G.2.2.1) hL ha
  obtain ⟨q1, hq1⟩ := ax_get0 (kc := G.2.2.1) hL hv
  have hlt : i.toNatClampNeg < n := Nat.not_le.mp fun q => hi (Or.inr q)
  have h0 : ¬ i < 0 := fun q => hi (Or.inl q)
  have g1 := hP q1 _ hq1
  obtain ⟨kA, hkA, hkind⟩ := Fx.2.1
  obtain ⟨kI, hkI, -⟩ := Vm.findClass_spec (va_nm_int (Fx.1.2 0 (G.2.2.1 0, .int) rfl).2)
  have hcl : (vp_cell (G.2.2.1 0) x).cls = G.2.2.1 0 := by rcases x with ⟨n9, x⟩; rcases x with x | x | x | x | x <;> rfl
  have hvm : (vp_cell (G.2.2.1 0) x).vm = .none := by rcases x with ⟨n9, x⟩; rcases x with x | x | x | x | x <;> rfl
  refine W.aast E.1 E.2.1 (hP q0 _ hq) (fun q h => by cases h) (fun h => by cases h) hkA hkind rfl hkI ⟨h0, by show _ < (arrV _ _ _).slots.size; rw [arrV_size]; exact hlt⟩ g1 (fun q h => by rw [hvm] at h; cases h) (by rw [hcl]; exact hkI) (by rw [hcl]; exact ax_asg _ _) rfl rfl hd fun H1 e1 z oq => ?_
  refine k p e s m args below meth c R H1 _ ls E Rm Fx (ax_put0 hL hD (.inl (4, n, .inr (.inr (.inr (.inr (va_up f i.toNatClampNeg (some v))))))) ha hq (hP.set hD hq ?_ oq) (hD.set hq)) (hS.put z oq (hD.2 q0 _ hq)) hl hc hs
  show H1[a]? = some (vp_cell _ _)
  rw [e1]
  rw [vp_cell_q, vp_cell_q, arrV_store]
  congr 2
  funext q
  by_cases hq : q = i.toNatClampNeg
  · subst hq
    simp [updV, va_up, va_rf]
  · simp [updV, va_up, hq]
theorem ax_ty_at (kc : Nat → ClassId) {kd : Nat} (h : kd < 5) : ∃ ty, (ax_tys kc)[kd]? = some (kc kd, ty) := by
  match kd, h with
  | 0, _ => exact ⟨_, rfl⟩
  | 1, _ => exact ⟨_, rfl⟩
  | 2, _ => exact ⟨_, rfl⟩
  | 3, _ => exact ⟨_, rfl⟩
  | 4, _ => exact ⟨_, rfl⟩
theorem ax_alen {G : ax_G} {M : ax_M} {d mc ms : Nat} {Q : ax_P} {pc : Nat} {lv : ax_L} {st : List Value} {h : ax_H} {cn sn : Nat} {a kd n : Nat} {x : (Nat → Int32) ⊕ (Nat → Int64) ⊕ (Nat → UInt32) ⊕ (Nat → UInt64) ⊕ (Nat → Option Nat)} (hd : decode M.2.1 pc = .ok (.arraylength, 1)) (ha : h a = some (.inl (kd, n, x))) (hk : kd < 5) (k : AW G M d mc ms Q (pc + 1) lv (.int (nI n) :: st) h cn sn) : AW G M d mc ms Q pc lv (.ref a :: st) h cn sn := by
  intro p e s m args below meth c R H locs ls E Rm Fx Hp hS hl hc hs
  obtain ⟨L, hL, hP, hD⟩ := id Hp
  obtain ⟨q0, hq⟩ := ax_get0 (kc := G.2.2.1) hL ha
  obtain ⟨ty, hty⟩ := ax_ty_at G.2.2.1 hk
  exact va_alen (cA := G.2.2.1 kd) (x := (n, x)) E.1 E.2.1 Fx.1 hP q0 kd hq hty rfl hd (k p e s m args below meth c R H locs ls E Rm Fx Hp hS hl hc hs)
theorem ax_sld {G : ax_G} {M : ax_M} {d mc ms : Nat} {Q : ax_P} {pc : Nat} {lv : ax_L} {st : List Value} {h : ax_H} {cn sn : Nat} {i : Int32} (hd : decode M.2.1 pc = .ok (.iaload, 1)) (hi : vp_in i G.2.2.2.2.2.1) (k : AW G M d mc ms Q (pc + 1) lv (.int (G.2.2.2.2.2.2 i.toNatClampNeg) :: st) h cn sn) : AW G M d mc ms Q pc lv (.int i :: .ref G.2.2.2.2.1 :: st) h cn sn := by
  intro p e s m args below meth c R H locs ls E Rm Fx Hp hS hl hc hs
  exact va_sld E.1 E.2.1 Fx.2.2.2.2.2.1 (Nat.lt_of_lt_of_le Fx.2.2.2.2.1 Fx.2.2.1) (Nat.not_le.mpr Fx.2.2.2.2.1) hS hi hd (k p e s m args below meth c R H locs ls E Rm Fx Hp hS hl hc hs)
theorem ax_slen {G : ax_G} {M : ax_M} {d mc ms : Nat} {Q : ax_P} {pc : Nat} {lv : ax_L} {st : List Value} {h : ax_H} {cn sn : Nat} (hd : decode M.2.1 pc = .ok (.arraylength, 1)) (k : AW G M d mc ms Q (pc + 1) lv (.int (nI G.2.2.2.2.2.1) :: st) h cn sn) : AW G M d mc ms Q pc lv (.ref G.2.2.2.2.1 :: st) h cn sn := by
  intro p e s m args below meth c R H locs ls E Rm Fx Hp hS hl hc hs
  exact va_slen E.1 E.2.1 Fx.2.2.2.2.2.1 (Nat.lt_of_lt_of_le Fx.2.2.2.2.1 Fx.2.2.1) (Nat.not_le.mpr Fx.2.2.2.2.1) hS hd (k p e s m args below meth c R H locs ls E Rm Fx Hp hS hl hc hs)
end
section
/-! ===== what is made, what the library does, what is thrown, calls ===== -/
theorem ax_newa_int {G : ax_G} {M : ax_M} {d mc ms : Nat} {Q : ax_P} {pc : Nat} {lv : ax_L} {st : List Value} {h : ax_H} {cn sn : Nat} {n : Int32} {N : Nat} (hd : decode M.2.1 pc = .ok (.newarray .int, 2)) (hw : Cond.arrayClass .int ∈ ax_all) (hn : ¬ n < 0) (hN : n.toNatClampNeg = N) (hb : N ≤ 100000) (h1 : cn + 1 ≤ mc) (h2 : sn + N ≤ ms) (k : ∀ q : Nat, h q = none → AW G M d mc ms Q (pc + 2) lv (.ref q :: st) (va_up h q (some (.inl (0, N, .inl (fun _ => 0))))) (cn + 1) (sn + N)) : AW G M d mc ms Q pc lv (.int n :: st) h cn sn := by
  intro p e s m args below meth c R H locs ls E Rm Fx Hp hS hl hc hs
  obtain ⟨L, hL, hP, hD⟩ := id Hp
  refine va_newa (atype := .int) (ty := .int) (a0 := (N, .inl (fun _ => 0))) E.1 E.2.1 (E.2.2.2.2.2.1 _ hw) rfl Fx.1 hP hD hS (fun q hq => Nat.le_trans Fx.2.2.1 hq) (fun _ => rfl) hn hN (show N * 4 ≤ 536870912 by omega) (by rw [Rm.1]; exact h1) (by rw [Rm.2.1]; exact h2) hd (fun q cA H1 hK1 hP1 hD1 hS1 => ?_)
  have e1 : cA = G.2.2.1 0 := by
    have h3 : s.vm.findClass ("[" ++ (.int : FieldType).toString) = some cA := (hK1.2 5 (cA, .int) rfl).2
    have h4 : s.vm.findClass ("[" ++ (.int : FieldType).toString) = some (G.2.2.1 0) := (Fx.1.2 0 (G.2.2.1 0, .int) rfl).2
    exact Option.some.inj (h3.symm.trans h4)
  subst e1
  obtain ⟨hq, Hp1⟩ := ax_new0 (o := .inl (0, N, .inl (fun _ => 0))) hL hP1 hD1
  exact k q hq p e s m args below meth c R H1 locs ls E Rm Fx Hp1 hS1 hl h1 h2
theorem ax_newa_long {G : ax_G} {M : ax_M} {d mc ms : Nat} {Q : ax_P} {pc : Nat} {lv : ax_L} {st : List Value} {h : ax_H} {cn sn : Nat} {n : Int32} {N : Nat} (hd : decode M.2.1 pc = .ok (.newarray .long, 2)) (hw : Cond.arrayClass .long ∈ ax_all) (hn : ¬ n < 0) (hN : n.toNatClampNeg = N) (hb : N ≤ 100000) (h1 : cn + 1 ≤ mc) (h2 : sn + N ≤ ms) (k : ∀ q : Nat, h q = none → AW G M d mc ms Q (pc + 2) lv (.ref q :: st) (va_up h q (some (.inl (1, N, .inr (.inl (fun _ => 0)))))) (cn + 1) (sn + N)) : AW G M d mc ms Q pc lv (.int n :: st) h cn sn := by
  intro p e s m args below meth c R H locs ls E Rm Fx Hp hS hl hc hs
  obtain ⟨L, hL, hP, hD⟩ := id Hp
  refine va_newa (atype := .long) (ty := .long) (a0 := (N, .inr (.inl (fun _ => 0)))) E.1 E.2.1 (E.2.2.2.2.2.1 _ hw) rfl Fx.1 hP hD hS (fun q hq => Nat.le_trans Fx.2.2.1 hq) (fun _ => rfl) hn hN (show N * 8 ≤ 536870912 by omega) (by rw [Rm.1]; exact h1) (by rw [Rm.2.1]; exact h2) hd (fun q cA H1 hK1 hP1 hD1 hS1 => ?_)
  have e1 : cA = G.2.2.1 1 := by
    have h3 : s.vm.findClass ("[" ++ (.long : FieldType).toString) = some cA := (hK1.2 5 (cA, .long) rfl).2
    have h4 : s.vm.findClass ("[" ++ (.long : FieldType).toString) = some (G.2.2.1 1) := (Fx.1.2 1 (G.2.2.1 1, .long) rfl).2
    exact Option.some.inj (h3.symm.trans h4)
  subst e1
  obtain ⟨hq, Hp1⟩ := ax_new0 (o := .inl (1, N, .inr (.inl (fun _ => 0)))) hL hP1 hD1
  exact k q hq p e s m args below meth c R H1 locs ls E Rm Fx Hp1 hS1 hl h1 h2
theorem ax_newa_double {G : ax_G} {M : ax_M} {d mc ms : Nat} {Q : ax_P} {pc : Nat} {lv : ax_L} {st : List Value} {h : ax_H} {cn sn : Nat} {n : Int32} {N : Nat} (hd : decode M.2.1 pc = .ok (.newarray .double, 2)) (hw : Cond.arrayClass .double ∈ ax_all) (hn : ¬ n < 0) (hN : n.toNatClampNeg = N) (hb : N ≤ 100000) (h1 : cn + 1 ≤ mc) (h2 : sn + N ≤ ms) (k : ∀ q : Nat, h q = none → AW G M d mc ms Q (pc + 2) lv (.ref q :: st) (va_up h q (some (.inl (2, N, .inr (.inr (.inr (.inl (fun _ => 0)))))))) (cn + 1) (sn + N)) : AW G M d mc ms Q pc lv (.int n :: st) h cn sn := by
  intro p e s m args below meth c R H locs ls E Rm Fx Hp hS hl hc hs
  obtain ⟨L, hL, hP, hD⟩ := id Hp
  refine va_newa (atype := .double) (ty := .double) (a0 := (N, .inr (.inr (.inr (.inl (fun _ => 0)))))) E.1 E.2.1 (E.2.2.2.2.2.1 _ hw) rfl Fx.1 hP hD hS (fun q hq => Nat.le_trans Fx.2.2.1 hq) (fun _ => rfl) hn hN (show N * 8 ≤ 536870912 by omega) (by rw [Rm.1]; exact h1) (by rw [Rm.2.1]; exact h2) hd (fun q cA H1 hK1 hP1 hD1 hS1 => ?_)
  have e1 : cA = G.2.2.1 2 := by
    have h3 : s.vm.findClass ("[" ++ (.double : FieldType).toString) = some cA := (hK1.2 5 (cA, .double) rfl).2
    have h4 : s.vm.findClass ("[" ++ (.double : FieldType).toString) = some (G.2.2.1 2) := (Fx.1.2 2 (G.2.2.1 2, .double) rfl).2
    exact Option.some.inj (h3.symm.trans h4)
  subst e1
  obtain ⟨hq, Hp1⟩ := ax_new0 (o := .inl (2, N, .inr (.inr (.inr (.inl (fun _ => 0)))))) hL hP1 hD1
  exact k q hq p e s m args below meth c R H1 locs ls E Rm Fx Hp1 hS1 hl h1 h2
theorem ax_newq3 {G : ax_G} {M : ax_M} {d mc ms : Nat} {Q : ax_P} {pc : Nat} {lv : ax_L} {st : List Value} {h : ax_H} {cn sn : Nat} {n : Int32} {N i : Nat} (hd : decode M.2.1 pc = .ok (.anewarray i, 3)) (hw : Cond.classLink M.1.cls i "DataMaker$Value" ∈ ax_all) (hn : ¬ n < 0) (hN : n.toNatClampNeg = N) (hb : N ≤ 100000) (h1 : cn + 1 ≤ mc) (h2 : sn + N ≤ ms) (k : ∀ q : Nat, h q = none → AW G M d mc ms Q (pc + 3) lv (.ref q :: st) (va_up h q (some (.inl (3, N, .inr (.inr (.inr (.inr (fun _ => none)))))))) (cn + 1) (sn + N)) : AW G M d mc ms Q pc lv (.int n :: st) h cn sn := by
  intro p e s m args below meth c R H locs ls E Rm Fx Hp hS hl hc hs
  obtain ⟨L, hL, hP, hD⟩ := id Hp
  refine va_newq (C := "DataMaker$Value") E.1 E.2.1 E.2.2.2.2.1 (E.2.2.2.2.2.1 _ hw) Fx.2.2.2.2.2.2.2.2.2.2.2.1 Fx.1 hP hD hS (fun q hq => Nat.le_trans Fx.2.2.1 hq) hn hN (by omega) (by rw [Rm.1]; exact h1) (by rw [Rm.2.1]; exact h2) hd (fun q cA H1 hK1 hP1 hD1 hS1 => ?_)
  have e1 : cA = G.2.2.1 3 := by
    obtain ⟨_, _, _, _, _, h3⟩ := (hK1.2 5 (cA, .object "DataMaker$Value") rfl).2
    obtain ⟨_, _, _, _, _, h4⟩ := (Fx.1.2 3 (G.2.2.1 3, .object "DataMaker$Value") rfl).2
    exact Option.some.inj (h3.symm.trans h4)
  subst e1
  obtain ⟨hq, Hp1⟩ := ax_new0 (o := .inl (3, N, .inr (.inr (.inr (.inr (fun _ => none)))))) hL hP1 hD1
  exact k q hq p e s m args below meth c R H1 locs ls E Rm Fx Hp1 hS1 hl h1 h2
theorem ax_newq4 {G : ax_G} {M : ax_M} {d mc ms : Nat} {Q : ax_P} {pc : Nat} {lv : ax_L} {st : List Value} {h : ax_H} {cn sn : Nat} {n : Int32} {N i : Nat} (hd : decode M.2.1 pc = .ok (.anewarray i, 3)) (hw : Cond.classLink M.1.cls i (FieldType.array .int).toString ∈ ax_all) (hn : ¬ n < 0) (hN : n.toNatClampNeg = N) (hb : N ≤ 100000) (h1 : cn + 1 ≤ mc) (h2 : sn + N ≤ ms) (k : ∀ q : Nat, h q = none → AW G M d mc ms Q (pc + 3) lv (.ref q :: st) (va_up h q (some (.inl (4, N, .inr (.inr (.inr (.inr (fun _ => none)))))))) (cn + 1) (sn + N)) : AW G M d mc ms Q pc lv (.int n :: st) h cn sn := by
  intro p e s m args below meth c R H locs ls E Rm Fx Hp hS hl hc hs
  obtain ⟨L, hL, hP, hD⟩ := id Hp
  subst hN
  refine W.anewA (t := .int) E.1 E.2.1 E.2.2.2.2.1 (E.2.2.2.2.2.1 _ hw) Fx.2.2.2.2.2.2.2.2.2.2.2.2 rfl hd rfl hn (by omega) (by rw [Rm.1]; exact h1) (by rw [Rm.2.1]; exact h2) fun cA kA comp f1 f2 f3 f4 => ?_
  have e1 : cA = G.2.2.1 4 := Option.some.inj (f1.symm.trans (Fx.1.2 4 (G.2.2.1 4, .array .int) rfl).2)
  subst e1
  generalize hH1 : H.push ({ cls := G.2.2.1 4, slots := Array.replicate n.toNatClampNeg .null, vm := .none } : Cell) = H1
  have z1 : H1.size = H.size + 1 := by rw [← hH1, Array.size_push]
  have g1 : H1[H.size]? = some (arrV (G.2.2.1 4) n.toNatClampNeg (fun _ => .null)) := by rw [← hH1, Array.getElem?_push_size, ← arrV_new]
  have o1 : ∀ q : Nat, q < H.size → H1[q]? = H[q]? := fun q hq => by rw [← hH1, Array.getElem?_push, if_neg (Nat.ne_of_lt hq)]
  have hk : ∀ (k : Nat) (x : Nat × va_E), (va_pl L (ax_f G.2.2.1 h))[k]? = some x → H1[x.1]? = H[x.1]? := fun k x hx => o1 x.1 ((hP k x hx).lt)
  obtain ⟨hq, Hp1⟩ := ax_new0 (q := H.size) (o := .inl (4, n.toNatClampNeg, .inr (.inr (.inr (.inr (fun _ => none)))))) hL ((hP.kept hk).app (w2 := [(H.size, ax_cv G.2.2.1 (.inl (4, n.toNatClampNeg, .inr (.inr (.inr (.inr (fun _ => none)))))))]) (fun k x hx => by
    have hz : k < 1 := (List.getElem?_eq_some_iff.mp hx).1
    rw [show k = 0 by omega] at hx
    cases hx
    show H1[H.size]? = some (vp_cell _ _)
    rw [vp_cell_q]
    exact g1)) (hD.push hP rfl (Nat.le_trans Fx.2.2.1 hS.1))
  exact k H.size hq p e s m args below meth c R H1 locs ls E Rm Fx Hp1 ⟨Nat.le_trans hS.1 (by omega), fun x h1 h2 => (o1 x (Nat.lt_of_lt_of_le h1 hS.1)).trans (hS.2.1 x h1 h2), hS.2.2⟩ hl h1 h2
/-- a class that can be made: its number, the fields at first -/
def ax_mk (own : String) (i ci : Nat) (fs : List Value) : Prop := ∃ (C : String) (T : u_T) (N : Nat) (ty : Nat → FieldType), vwCl[ci]? = some (C, T, N) ∧ (∀ w ∈ u_ws C T N, w ∈ ax_all) ∧ (∀ k, k < N → parseFieldDescriptor (T k).2.2.1 = some (ty k)) ∧ Cond.classLink own i C ∈ ax_all ∧ Cond.instantiable C N ∈ ax_all ∧ Cond.initialized C ∈ ax_all ∧ (∀ j, j < N → defaultValue (ty j) = vp_V fs j) ∧ fs.length = N
theorem ax_new {G : ax_G} {M : ax_M} {d mc ms : Nat} {Q : ax_P} {pc : Nat} {lv : ax_L} {st : List Value} {h : ax_H} {cn sn : Nat} {i ci : Nat} {fs : List Value} (hd : decode M.2.1 pc = .ok (.new i, 3)) (hf : ax_mk M.1.cls i ci fs) (h1 : cn + 1 ≤ mc) (h2 : sn + fs.length ≤ ms) (k : ∀ q : Nat, h q = none → AW G M d mc ms Q (pc + 3) lv (.ref q :: st) (va_up h q (some (.inr (ci, fs)))) (cn + 1) (sn + fs.length)) : AW G M d mc ms Q pc lv st h cn sn := by
  intro p e s m args below meth c R H locs ls E Rm Fx Hp hS hl hc hs
  obtain ⟨C, T, N, ty, f1, f2, f3, f4, f5, f6, f7, rfl⟩ := hf
  obtain ⟨L, hL, hP, hD⟩ := id Hp
  refine va_new (ci := ci) (fs := fs) E.1 E.2.1 E.2.2.2.2.2.1 f2 ty f3 E.2.2.2.2.1 (E.2.2.2.2.2.1 _ f4) (E.2.2.2.2.2.1 _ f5) (E.2.2.2.2.2.1 _ f6) Fx.1 hP hD hS (fun q hq => Nat.le_trans Fx.2.2.1 hq) f1 f7 (by rw [Rm.1]; exact h1) (by rw [Rm.2.1]; exact h2) hd (fun q H1 hP1 hD1 hS1 => ?_)
  obtain ⟨hq, Hp1⟩ := ax_new0 (o := .inr (ci, fs)) hL hP1 hD1
  exact k q hq p e s m args below meth c R H1 locs ls E Rm Fx Hp1 hS1 hl h1 h2
theorem ax_obj {G : ax_G} {M : ax_M} {d mc ms : Nat} {Q : ax_P} {pc : Nat} {lv : ax_L} {st : List Value} {h : ax_H} {cn sn : Nat} {i a : Nat} (hd : decode M.2.1 pc = .ok (.invokespecial i, 3)) (hw1 : Cond.methodLink M.1.cls i Lib.objectInit ∈ ax_all) (hw2 : Cond.instanceMethod Lib.objectInit ∈ ax_all) (hw3 : Cond.code Lib.objectInit ⟨#[0xb1]⟩ 1 none ∈ ax_all) (hcat : (st.map fun v => v.category).sum ≤ 8) (k : AW G M d mc ms Q (pc + 3) lv st h cn sn) : AW G M d mc ms Q pc lv (.ref a :: st) h cn sn := by
  intro p e s m args below meth c R H locs ls E Rm Fx Hp hS hl hc hs
  exact W.objInit E.1 E.2.1 E.2.2.2.2.1 (E.2.2.2.2.2.1 _ hw1) (E.2.2.2.2.2.1 _ hw2) (E.2.2.2.2.2.1 _ hw3) rfl (by rw [E.2.2.2.1]; exact hl.1) rfl hd (by have := Rm.2.2.1; omega) (by have := lv_room (m := m) (pc := pc) (ls := ls) (rest := .ref a :: st) hcat; have := Rm.2.2.2; omega) (k p e s m args below meth c R H locs ls E Rm Fx Hp hS hl hc hs)
theorem ax_mmin {G : ax_G} {M : ax_M} {d mc ms : Nat} {Q : ax_P} {pc : Nat} {lv : ax_L} {st : List Value} {h : ax_H} {cn sn : Nat} {i : Nat} {x y : Int32} (hd : decode M.2.1 pc = .ok (.invokestatic i, 3)) (hw1 : Cond.methodLink M.1.cls i Lib.Math.min.name ∈ ax_all) (hw2 : Cond.static Lib.Math.min.name ∈ ax_all) (hw3 : Cond.initialized "java/lang/Math" ∈ ax_all) (hw4 : Cond.code Lib.Math.min.name Lib.Math.min.code 2 (some .int) ∈ ax_all) (hcat : (st.map fun v => v.category).sum ≤ 8) (k : AW G M d mc ms Q (pc + 3) lv (.int (if y < x then y else x) :: st) h cn sn) : AW G M d mc ms Q pc lv (.int y :: .int x :: st) h cn sn := by
  intro p e s m args below meth c R H locs ls E Rm Fx Hp hS hl hc hs
  exact va_mmin E.1 E.2.1 (by rw [E.2.2.2.1]; exact hl.1.symm) E.2.2.2.2.1 (E.2.2.2.2.2.1 _ hw1) (E.2.2.2.2.2.1 _ hw2) (E.2.2.2.2.2.1 _ hw3) (E.2.2.2.2.2.1 _ hw4) (by have := Rm.2.2.1; omega) (by have := Rm.2.2.2; omega) (by rw [Rm.1]; exact hc) (by rw [Rm.2.1]; exact hs) hd (k p e s m args below meth c R H locs ls E Rm Fx Hp hS hl hc hs)
theorem ax_mmax {G : ax_G} {M : ax_M} {d mc ms : Nat} {Q : ax_P} {pc : Nat} {lv : ax_L} {st : List Value} {h : ax_H} {cn sn : Nat} {i : Nat} {x y : Int32} (hd : decode M.2.1 pc = .ok (.invokestatic i, 3)) (hw1 : Cond.methodLink M.1.cls i Lib.Math.max.name ∈ ax_all) (hw2 : Cond.static Lib.Math.max.name ∈ ax_all) (hw3 : Cond.initialized "java/lang/Math" ∈ ax_all) (hw4 : Cond.code Lib.Math.max.name Lib.Math.max.code 2 (some .int) ∈ ax_all) (hcat : (st.map fun v => v.category).sum ≤ 8) (k : AW G M d mc ms Q (pc + 3) lv (.int (if x < y then y else x) :: st) h cn sn) : AW G M d mc ms Q pc lv (.int y :: .int x :: st) h cn sn := by
  intro p e s m args below meth c R H locs ls E Rm Fx Hp hS hl hc hs
  exact va_mmax E.1 E.2.1 (by rw [E.2.2.2.1]; exact hl.1.symm) E.2.2.2.2.1 (E.2.2.2.2.2.1 _ hw1) (E.2.2.2.2.2.1 _ hw2) (E.2.2.2.2.2.1 _ hw3) (E.2.2.2.2.2.1 _ hw4) (by have := Rm.2.2.1; omega) (by have := Rm.2.2.2; omega) (by rw [Rm.1]; exact hc) (by rw [Rm.2.1]; exact hs) hd (k p e s m args below meth c R H locs ls E Rm Fx Hp hS hl hc hs)
theorem ax_mabs {G : ax_G} {M : ax_M} {d mc ms : Nat} {Q : ax_P} {pc : Nat} {lv : ax_L} {st : List Value} {h : ax_H} {cn sn : Nat} {i : Nat} {x : Int32} (hd : decode M.2.1 pc = .ok (.invokestatic i, 3)) (hw1 : Cond.methodLink M.1.cls i Lib.Math.abs.name ∈ ax_all) (hw2 : Cond.static Lib.Math.abs.name ∈ ax_all) (hw3 : Cond.initialized "java/lang/Math" ∈ ax_all) (hw4 : Cond.code Lib.Math.abs.name Lib.Math.abs.code 1 (some .int) ∈ ax_all) (hcat : (st.map fun v => v.category).sum ≤ 8) (k : AW G M d mc ms Q (pc + 3) lv (.int (if 0 ≤ x then x else 0 - x) :: st) h cn sn) : AW G M d mc ms Q pc lv (.int x :: st) h cn sn := by
  intro p e s m args below meth c R H locs ls E Rm Fx Hp hS hl hc hs
  exact va_mabs E.1 E.2.1 (by rw [E.2.2.2.1]; exact hl.1.symm) E.2.2.2.2.1 (E.2.2.2.2.2.1 _ hw1) (E.2.2.2.2.2.1 _ hw2) (E.2.2.2.2.2.1 _ hw3) (E.2.2.2.2.2.1 _ hw4) (by have := Rm.2.2.1; omega) (by have := Rm.2.2.2; omega) (by rw [Rm.1]; exact hc) (by rw [Rm.2.1]; exact hs) hd (k p e s m args below meth c R H locs ls E Rm Fx Hp hS hl hc hs)
theorem ax_copy {G : ax_G} {M : ax_M} {d mc ms : Nat} {Q : ax_P} {pc : Nat} {lv : ax_L} {st : List Value} {h : ax_H} {cn sn : Nat} {i a0 a n0 n1 : Nat} {f g : Nat → Int32} {sp dp n : Int32} (hd : decode M.2.1 pc = .ok (.invokestatic i, 3)) (hw1 : Cond.methodLink M.1.cls i arraycopyName ∈ ax_all) (hw2 : Cond.native arraycopyName ∈ ax_all) (hw3 : Cond.static arraycopyName ∈ ax_all) (hw4 : Cond.initialized "java/lang/System" ∈ ax_all) (hcat : (st.map fun v => v.category).sum ≤ 8)
    (ha0 : h a0 = some (.inl (0, n0, .inl f))) (ha : h a = some (.inl (0, n1, .inl g))) (h1 : ¬ sp < 0) (h2 : ¬ dp < 0) (h3 : ¬ n < 0) (h4 : sp.toNatClampNeg + n.toNatClampNeg ≤ n0) (h5 : dp.toNatClampNeg + n.toNatClampNeg ≤ n1)
    (k : AW G M d mc ms Q (pc + 3) lv st (va_up h a (some (.inl (0, n1, .inl (va_cpy f g sp.toNatClampNeg dp.toNatClampNeg n.toNatClampNeg))))) cn sn) : AW G M d mc ms Q pc lv (.int n :: .int dp :: .ref a :: .int sp :: .ref a0 :: st) h cn sn := by
  intro p e s m args below meth c R H locs ls E Rm Fx Hp hS hl hc hs
  obtain ⟨L, hL, hP, hD⟩ := id Hp
  obtain ⟨q0, hq0⟩ := ax_get0 (kc := G.2.2.1) hL ha0
  obtain ⟨q1, hq1⟩ := ax_get0 (kc := G.2.2.1) hL ha
  have hlo : nativeFrameWords "java/lang/System" "arraycopy" 5 + 11 ≤ 100 := by decide +kernel
  exact va_copyi (c0 := G.2.2.1 0) (c1 := G.2.2.1 0) (ty := .int) E.1 E.2.1 (by rw [E.2.2.2.1]; exact hl.1.symm) E.2.2.2.2.1 (E.2.2.2.2.2.1 _ hw1) (E.2.2.2.2.2.1 _ hw2) (E.2.2.2.2.2.1 _ hw3) (E.2.2.2.2.2.1 _ hw4) Fx.1 hP hD hS q0 q1 0 0 hq0 hq1 rfl rfl rfl h1 h2 h3 h4 h5 (fun _ _ => rfl) (by have := Rm.2.2.1; omega) (by have := Rm.2.2.2; omega) hd
    (fun H1 locs1 hP1 hD1 hS1 => k p e s m args below meth c R H1 locs1 ls E Rm Fx (ax_put0 hL hD (.inl (0, n1, .inl (va_cpy f g sp.toNatClampNeg dp.toNatClampNeg n.toNatClampNeg))) ha hq1 hP1 hD1) hS1 hl hc hs)
end
section
/-! ===== BEGIN a constructor that throws (launches without stack traces) ===== -/
section VXIA
variable {p : Program} {l : Launch} {e : Env} {R : Room} {s : State} {m : MethodId} {args : Array Value} {below : List Frame} {meth : Method} {c : Code} {T : State} {locs : List Loc} {cells slots : Nat}
theorem vx_callI (X : Stand p l e R s m args below meth c T locs cells slots) (hexec : p.tables.exec = Jvm.exec) {own : String} {index : Nat} {y : MethodName} {bytes : ByteArray} {maxL : Nat}
    (hown : s.vm.findClass own = some m.cls) (hy1 : y.name = "<init>") (hlink : (Cond.methodLink own index y).before args s = true) (hinst : (Cond.instanceMethod y).before args s = true)
    (hcode : (Cond.code y bytes maxL none).before args s = true) (hy : y.cls ≠ "java/lang/invoke/MethodHandle" ∧ y.cls ≠ "java/lang/invoke/VarHandle")
    {W9 : Nat} {Pre : Pt → Array Value → Prop} {Post : Pt → Array Value → Option Value → Pt → Prop} {PostX : Pt → Array Value → Addr → Pt → Prop} (hK : vx_Back l R p e below s args y 3 W9 Pre Post PostX)
    {g : JFrame} (hg : g.method = m) (hsize : g.locals.size = c.maxLocals) {a : Addr} {argsL rest : List Value} (hlen : ∀ sig, parseMethodDescriptor y.desc = some sig → argsL.length = sig.parameters.length)
    (hstack : g.stack = argsL.reverse ++ .ref a :: rest) (hW : 2 * g.monitorRoom + (rest.map fun v => v.category).sum ≤ W9) (hdg : decode c.code g.pc = .ok (.invokespecial index, 3))
    (hpre : ∀ vm₁, s.WarmedH vm₁ → Pre ⟨T.setVm vm₁, locs, cells, slots⟩ (Value.ref a :: argsL).toArray) :
    (∃ (v : Option Value) (vm₁ : Vm) (B : Pt), s.WarmedH vm₁ ∧ Stand p l e R s m args below meth c B.U B.locs B.cells B.slots ∧ Post ⟨T.setVm vm₁, locs, cells, slots⟩ (Value.ref a :: argsL).toArray v B ∧
      ∀ target, Steps p.tables e below (B.U.setTop { g with pc := g.pc + 3, stack := v.toList ++ rest }) target → Steps p.tables e below (T.setTop g) target) ∨
    (∃ (q : Addr) (vm₁ : Vm) (B : Pt), s.WarmedH vm₁ ∧ Stand p l e R s m args below meth c B.U B.locs B.cells B.slots ∧ PostX ⟨T.setVm vm₁, locs, cells, slots⟩ (Value.ref a :: argsL).toArray q B ∧
      Steps p.tables e below (T.setTop g) ((B.U.setTop { g with stack := rest }).pushFrame (.throwing q))) := by
  subst hg
  have hpl : e.platform.magicAccessors = ({} : Platform).magicAccessors := by rw [X.admits.platform]
  obtain ⟨mk, methM, cM, kP, vm₁, hnamed, hmethM, hcodeM, -, hlocalsM, -, hkP, -, hW₁, hstep₁⟩ := Steps.initColdArgs (e := e) X.here hexec X.warmed hpl hown hy1 hy hlink hinst hcode (f := g) rfl hlen hstack hdg
  have X₁ := X.noted hW₁
  rcases hK g.method meth c ⟨T.setVm vm₁, locs, cells, slots⟩ { g with stack := rest } (.invokespecial index) mk (Value.ref a :: argsL).toArray X₁ rfl hsize hdg hW (X₁.named hnamed) (hpre vm₁ X₁.warmed) with ⟨v, B, X', hpost, hsteps⟩ | ⟨q, B, X', hpost, hsteps⟩
  · exact Or.inl ⟨v, vm₁, B, X₁.warmed, X', hpost, fun target h => hstep₁ _ fun acts => by rw [doInvoke_state]; exact hsteps.trans h⟩
  · exact Or.inr ⟨q, vm₁, B, X₁.warmed, X', hpost, hstep₁ _ fun acts => by rw [doInvoke_state]; exact hsteps⟩
end VXIA
section VXIB
variable {p : Program} {l : Launch} {e : Env} {R : Room} {s : State} {m : MethodId} {args : Array Value} {below : List Frame} {meth : Method} {c : Code} {H : Heap} {locs : List Loc} {cells slots : Nat}
variable {y : MethodName} {bytes cc : ByteArray} {maxL nL mc ms n index : Nat} {ret : Option FieldType} {ws : List Cond} {rm : Room} {Pc : Array Value → State → Prop} {Qc : Array Value → State → Outcome → State → Prop} {XC : String → State → State → Prop} {free : Addr → Prop} {Ts : List Cond} {own C : String} {b : Addr} {As rest : List Value} {g : JFrame}
theorem vx_runI (S : CallFix p m c cc nL s args Ts own) (hM : vx_Met l y ws rm Pc Qc XC mc ms free) (cw : CallB R s args own index y bytes maxL none ws rm mc ms n ∧ y.name = "<init>" ∧ (Cond.instanceMethod y).before args s = true) (hp : PreS s H Pc (.ref b :: As))
    (hg : g.method = m) (hn : As.length = n) (hsize : g.locals.size = nL) (hstack : g.stack = As.reverse ++ .ref b :: rest) (hW : 2 * g.monitorRoom + (rest.map fun v => v.category).sum ≤ 8) (hdg : decode cc g.pc = .ok (.invokespecial index, 3)) (hf : cells + mc ≤ R.cells ∧ slots + ms ≤ R.slots) :
    vx_Run p l e R s m args below meth c H locs cells slots mc ms g rest (Qc (Value.ref b :: As).toArray) XC free := by
  have hK : vx_Back l R p e below s args y 3 8 (PreOf R mc ms Pc) (PostOf Qc mc ms free) (vx_Post XC mc ms free) := vx_callBack cw.1 hM hp.1
  obtain ⟨⟨-, -, -, -, -, -, hcode, -, hy, hlen, hl⟩, hy1, hin⟩ := cw
  obtain ⟨hx, hb, hml, ho, -⟩ := S
  have hPc := hp.2
  intro T hT X
  rcases vx_callI X hx (bytes := bytes) (maxL := maxL) ho hy1 hl hin hcode hy hK hg (hsize.trans hml.symm) (a := b) (argsL := As) (rest := rest) (fun sig h => hn.trans (hlen sig h)) hstack hW (by rw [hb]; exact hdg)
    (fun vm₁ hW₁ => ⟨hf.1, hf.2, hPc (T.setVm vm₁) hT hW₁⟩) with ⟨v, vm₁, ⟨U', l2, c2, s2⟩, hW₁, X', ⟨g', mk, t, L, e1, e2, hq, h1, hL, h2, h3⟩, st⟩ | ⟨q, vm₁, ⟨U', l2, c2, s2⟩, hW₁, X', ⟨g', mk, t, L, E, ce, e1, e2, hq, hce, hcv, hcl, h1, hL, h2, h3⟩, st⟩
  · dsimp only [Pt.U, Pt.locs, Pt.cells, Pt.slots] at X' e1 e2 h1 h2 h3 st
    subst h1; subst h2; subst h3
    exact Or.inl ⟨v, (T.setVm vm₁).calling g' mk (Value.ref b :: As).toArray, t, U', L, hT, X', hL, e1, e2, hq, st⟩
  · dsimp only [Pt.U, Pt.locs, Pt.cells, Pt.slots] at X' e1 e2 h1 h2 h3 st hcl
    subst h1; subst h2; subst h3
    exact Or.inr ⟨q, (T.setVm vm₁).calling g' mk (Value.ref b :: As).toArray, t, U', L, E, ce, hT, X', hL, e1, e2, hq, hce, hcv, vx_cls hW₁ hcl, st⟩
end VXIB
/-! ===== END ===== -/

theorem ax_good {w : Cond} (h : w ∈ ax_all) : (w.onTables && w.keeps) = true ∨ ∃ ty, w = .arrayClass ty := good_of_word (List.mem_filter.mp h).2
theorem ax_goodIn {ws : List Cond} (h : ∀ w ∈ ws, w ∈ ax_all) : GoodIn ax_all ws := fun w hw => ⟨h w hw, ax_good (h w hw)⟩
def ax_nms : List String := ["java/lang/RuntimeException", "java/lang/Exception"]
/-- what a throw of a text stands on -/
def ax_th (own : String) (ik is ic : Nat) (cls text : String) : Prop := Bundle.fit cls = true ∧ (∀ n ∈ ax_nms, Bundle.fit n = true) ∧ Cond.classLink own ik cls ∈ ax_all ∧ Cond.initialized cls ∈ ax_all ∧ (own, is, text) ∈ ax_strs ∧ (∀ w ∈ vx_atS own ic cls ax_nms, w ∈ ax_all ∨ w ∈ ax_bad)
theorem ax_ot {w : Cond} (h : w ∈ ax_all) : vx_ot w = true := by
  have := (List.mem_filter.mp h).2
  unfold vx_ot
  rw [this]
  exact Bool.or_true _
theorem ax_throw {G : ax_G} {M : ax_M} {d mc ms : Nat} {Q : ax_P} {pc : Nat} {lv : ax_L} {st : List Value} {h : ax_H} {cn sn : Nat} {ik is ic : Nat} {cls text : String} (hM : M.2.2.2.2.1 = []) (ht : ax_th M.1.cls ik is ic cls text) (d0 : decode M.2.1 pc = .ok (.new ik, 3)) (d3 : decode M.2.1 (pc + 3) = .ok (.dup, 1)) (d4 : decode M.2.1 (pc + 4) = .ok (.ldc is, 2)) (d6 : decode M.2.1 (pc + 6) = .ok (.invokespecial ic, 3)) (d9 : decode M.2.1 (pc + 9) = .ok (.athrow, 1)) (hcat : (st.map fun v => v.category).sum ≤ 8) (h1 : cn + 1 ≤ mc) (h2 : sn + 6 ≤ ms) (hq : Q (.inr cls) h) : AW G M d mc ms Q pc lv st h cn sn := by
  intro p e s m args below meth c R H locs ls E Rm Fx Hp hS hl hc hs
  obtain ⟨t1, t2, t3, t4, t5, t6⟩ := ht
  have hca : ∀ w ∈ ax_bad, w.before args s = true := fun w hw => va_Nw.use (ax_bad_on w hw) (Fx.2.2.2.2.2.2.2.2.2.2.1 w hw)
  obtain ⟨sa, hsa⟩ := Fx.2.2.2.2.2.2.2.2.1 _ t5
  have hT : c.exceptionTable.toList = [] := by rw [E.2.2.2.2.2.2.2.1, hM]; rfl
  refine vx_throwS E.1 E.2.1 Fx.2.2.2.1 E.2.2.2.2.1 t1 t2 (E.2.2.2.2.2.1 _ t3) (E.2.2.2.2.2.1 _ t4) hsa (fun w hw => (t6 w hw).elim (fun h9 => E.2.2.2.2.2.1 _ h9) (fun h9 => hca w h9)) (fun w hw => ?_) Fx.2.2.2.2.2.2.1 Fx.2.2.2.2.2.2.2.1 hS (by rw [E.2.2.2.1]; exact hl.1) d0 d3 d4 d6 d9 (fun x hx => by rw [hT] at hx; cases hx) (by have := Rm.2.2.1; show 2 + 3 < R.frames; omega) (by have := Rm.2.2.2; show _ + (13 * (2 + 1) + 43) ≤ R.locals; omega) (by rw [Rm.1]; exact h1) (by rw [Rm.2.1]; exact h2) E.2.2.2.2.2.2.1 (fun t _ hz hk => ?_) hS.2.2 h1 h2
  · rcases List.mem_cons.mp hw with rfl | hw
    · exact ax_ot t3
    · rcases List.mem_cons.mp hw with rfl | hw
      · exact ax_ot t4
      · rcases t6 w hw with h9 | h9
        · exact ax_ot h9
        · unfold vx_ot; rw [ax_bad_on w h9]; rfl
  · obtain ⟨L, hL, hP, hD⟩ := Hp
    refine ⟨h, hq, ⟨L, hL, hP.kept (fun k q hq => hk _ (hP k q hq).lt), hD⟩, Nat.le_trans hS.1 hz, fun q q1 q2 => (hk q (Nat.lt_of_lt_of_le q1 hS.1)).trans (hS.2.1 q q1 q2)⟩
def ax_room (d mc ms : Nat) : Room := { frames := d + 8, cells := mc, slots := ms, locals := 40 * d + 120 }
def ax_Pc (G : ax_G) (av : List Value) (h : ax_H) : Array Value → State → Prop := fun v U => v = av.toArray ∧ ax_fix G U U.heap ∧ ax_holds G h U.heap
theorem ax_fix_calling {G : ax_G} {U : State} {g : JFrame} {mk : MethodId} {a : Array Value} (h : ax_fix G U U.heap) : ax_fix G (U.calling g mk a) (U.calling g mk a).heap := by
  obtain ⟨f1, f2, f3, f4, f5, f6, f7, f8, f9, f10, f11, f12, f13⟩ := h
  have hv : U.vm.Alike (U.calling g mk a).vm := Vm.Alike.refl U.vm
  exact ⟨va_K.moved (u := U) hv f1, f2, f3, f4, f5, va_X.moved (u := U) hv f6, vx_Zq.moved (u := U) hv f7, vx_Zq.moved (u := U) hv f8, fun q hq => ⟨(f9 q hq).choose, vk_R.same (u := U) rfl (f9 q hq).choose_spec⟩, fun q hq => va_Nc.moved (u := U) hv (f10 q hq), fun w hw => va_Nw.same (u := U) (ax_bad_on w hw) rfl (f11 w hw), va_AO.moved (u := U) hv f12, ax_AO_moved (u := U) hv f13⟩
theorem ax_blind (G : ax_G) (av : List Value) (h : ax_H) : FrameBlind (ax_Pc G av h) := fun a U g mk q => ⟨q.1, ax_fix_calling q.2.1, q.2.2⟩
theorem ax_fix_warm {G : ax_G} {s U : State} {H : Heap} {locs : List Loc} (hW : s.WarmedH U.vm) (hU : U.heap = H) (Fx : ax_fix G s s.heap) (hS : va_S (ax_A G) s.heap H locs) : ax_fix G U U.heap := by
  obtain ⟨f1, ⟨k, f2, f2'⟩, f3, f4, f5, f6, f7, f8, f9, f10, f11, f12, f13⟩ := Fx
  obtain ⟨k', hk', he⟩ := hW.alike.2.2 _ _ f2
  have hk : ∀ a : Nat, a < s.heap.size → ¬ ax_A G a → U.heap[a]? = s.heap[a]? := fun a h1 h2 => by rw [hU]; exact hS.2.1 a h1 h2
  exact ⟨va_K.moved hW.alike f1, ⟨k', hk', by rw [he]; exact f2'⟩, by rw [hU]; exact Nat.le_trans f3 hS.1, f4, f5, va_X.moved hW.alike (f6.kept (hk _ (Nat.lt_of_lt_of_le f5 f3) (Nat.not_le.mpr f5))), vx_Zq.moved hW.alike (f7.kept hk), vx_Zq.moved hW.alike (f8.kept hk), fun q hq => ⟨(f9 q hq).choose, vk_R.warm hW (f9 q hq).choose_spec⟩, fun q hq => va_Nc.moved hW.alike (f10 q hq), ax_bad_warm hW f11, va_AO.moved hW.alike f12, ax_AO_moved hW.alike f13⟩
theorem ax_met {G : ax_G} {M : ax_M} {d mc ms : Nat} {Q : ax_P} {av : List Value} {h : ax_H} (hy : plainName M.1.cls = true) (hM : M.2.2.2.2.1 = []) (hn : (lg_sl av).length ≤ M.2.2.1) (k : AW G M d mc ms Q 0 (lv_args 0 av) [] h 0 0) :
    vx_Met G.1 M.1 (Cond.code M.1 M.2.1 M.2.2.1 M.2.2.2.1 :: ax_all) (ax_room d mc ms) (ax_Pc G av h) (ax_Qc G Q) (ax_XC G Q) mc ms (ax_A G) := by
  refine vx_ofW (cc := M.2.1) (maxL := M.2.2.1) (ret := M.2.2.2.1) hy rfl ?_
  intro p e s m args below meth c s₁ B hml ht hv
  obtain ⟨rfl, Fx, Hp⟩ := hv
  have hts := atoms_spec (ws := Cond.code M.1 M.2.1 M.2.2.1 M.2.2.2.1 :: ax_all) B.pre
  have hl := lv_entry av (n := M.2.2.1) hn
  rw [lg_entry_eq]
  have hT : c.exceptionTable.toList = tableOf M.2.2.2.2.1 := by
    rw [hM]
    cases hc : c.exceptionTable.toList with
    | nil => rfl
    | cons x l => exact (ht x (by rw [hc]; exact List.mem_cons_self)).elim
  exact k p e s m _ below meth c _ s.heap [] _ ⟨B.exec, B.bytes, B.returns, hml, findClass_of_methodNamed B.named, fun w hw => hts w (List.mem_cons_of_mem _ hw), B.notSynchronized, hT, (name_of_methodNamed B.named B.method).1⟩ ⟨rfl, rfl, Nat.le_refl _, Nat.le_refl _⟩ Fx Hp va_S.rf hl (Nat.zero_le _) (Nat.zero_le _)
theorem ax_metH {G : ax_G} {M : ax_M} {d mc ms : Nat} {Q : ax_P} {av : List Value} {h : ax_H} (hy : plainName M.1.cls = true) (hn : (lg_sl av).length ≤ M.2.2.1) (k : AW G M d mc ms Q 0 (lv_args 0 av) [] h 0 0) :
    vx_Met G.1 M.1 (Cond.codeWith M.1 M.2.1 M.2.2.1 M.2.2.2.1 M.2.2.2.2.1 :: ax_all) (ax_room d mc ms) (ax_Pc G av h) (ax_Qc G Q) (ax_XC G Q) mc ms (ax_A G) := by
  refine vx_ofWH (cc := M.2.1) (maxL := M.2.2.1) (ret := M.2.2.2.1) (hh := M.2.2.2.2.1) hy rfl ?_
  intro p e s m args below meth c s₁ B hml hv
  obtain ⟨rfl, Fx, Hp⟩ := hv
  have hts := atoms_spec (ws := Cond.codeWith M.1 M.2.1 M.2.2.1 M.2.2.2.1 M.2.2.2.2.1 :: ax_all) B.pre
  have hl := lv_entry av (n := M.2.2.1) hn
  rw [lg_entry_eq]
  exact k p e s m _ below meth c _ s.heap [] _ ⟨B.exec, B.bytes, B.returns, hml, findClass_of_methodNamed B.named, fun w hw => hts w (List.mem_cons_of_mem _ hw), B.notSynchronized, vx_table (x := M.1) B (hts _ List.mem_cons_self), (name_of_methodNamed B.named B.method).1⟩ ⟨rfl, rfl, Nat.le_refl _, Nat.le_refl _⟩ Fx Hp va_S.rf hl (Nat.zero_le _) (Nat.zero_le _)
section AXC
variable {p : Program} {G : ax_G} {e : Env} {R : Room} {s : State} {m : MethodId} {args : Array Value} {below : List Frame} {meth : Method} {c : Code} {H : Heap} {locs : List Loc} {cells slots : Nat} {Qf : State → Prop}
variable {mc ms : Nat} {Q1 : ax_P} {a : Array Value} {pc : Nat} {ls : Array Slot} {st0 rest : List Value}
theorem ax_call0 (hr : vx_Run p G.1 e R s m args below meth c H locs cells slots mc ms (F0 m pc ls st0) rest (ax_Qc G Q1 a) (ax_XC G Q1) (ax_A G)) (hS : va_S (ax_A G) s.heap H locs)
    (kx : ∀ (E : String) (ce : Cell) (q9 : Addr) (h1 : ax_H) (H1 : Heap) (locs1 : List Loc), Q1 (.inr E) h1 → ax_holds G h1 H1 → va_S (ax_A G) s.heap H1 locs1 → H1[q9]? = some ce → ce.vm = .none → s.vm.findClass E = some ce.cls → vx_W p G.1 e R s m args below meth c H1 locs1 (cells + mc) (slots + ms) Qf (F0 m pc ls rest) q9)
    (kk : ∀ (v : Option Value) (h1 : ax_H) (H1 : Heap) (locs1 : List Loc), Q1 (.inl v) h1 → ax_holds G h1 H1 → va_S (ax_A G) s.heap H1 locs1 → W p G.1 e R s m args below meth c H1 locs1 (cells + mc) (slots + ms) Qf (F0 m (pc + 3) ls (v.toList ++ rest))) : W p G.1 e R s m args below meth c H locs cells slots Qf (F0 m pc ls st0) := by
  intro T hT X
  rcases hr T hT X with ⟨v, st₀, t, T', L, h0, X', hL, e1, e2, ⟨v9, h1, hv, hq, hh, hF⟩, st⟩ | ⟨q, st₀, t, T', L, E, ce, h0, X', hL, e1, e2, ⟨h1, hq, hh, hF⟩, hce, hcv, hcl, st⟩
  · cases hv
    obtain ⟨k1, k2, k3⟩ := vx_keep h0 e1 hS (fun _ _ h => h) (fun _ h => h) hL hF
    obtain ⟨t2, a1, b1⟩ := kk v h1 T'.heap (locs ++ L) hq (by rw [e1]; exact hh) k3 T' rfl X'
    exact ⟨t2, st t2 a1, b1⟩
  · obtain ⟨k1, k2, k3⟩ := vx_keep h0 e1 hS (fun _ _ h => h) (fun _ h => h) hL hF
    obtain ⟨t2, a1, b1⟩ := kx E ce q h1 T'.heap (locs ++ L) hq (by rw [e1]; exact hh) k3 (by rw [e1]; exact hce) hcv hcl T' rfl X'
    exact ⟨t2, st.trans a1, b1⟩
end AXC
/-- what every callee must be -/
def ax_ok (M : ax_M) : Prop := plainName M.1.cls = true ∧ M.1.cls ≠ "java/lang/invoke/MethodHandle" ∧ M.1.cls ≠ "java/lang/invoke/VarHandle" ∧ (parseMethodDescriptor M.1.desc).map (fun d => d.parameters.length) = some M.2.2.2.2.2 ∧ M.2.2.1 ≤ 21 ∧ Cond.initialized M.1.cls ∈ ax_all
def ax_lkV (own : String) (i : Nat) (M : ax_M) (ci : Nat) : Prop := ax_ok M ∧ M.2.2.2.2.1 = [] ∧ Cond.code M.1 M.2.1 M.2.2.1 M.2.2.2.1 ∈ ax_all ∧ Cond.methodLink own i M.1 ∈ ax_all ∧ Cond.instanceMethod M.1 ∈ ax_all ∧ Cond.selects M.1.cls M.1 M.1 ∈ ax_all ∧ ∃ (T : u_T) (N : Nat), vwCl[ci]? = some (M.1.cls, T, N)
def ax_lkS (own : String) (i : Nat) (M : ax_M) : Prop := ax_ok M ∧ M.2.2.2.2.1 = [] ∧ Cond.code M.1 M.2.1 M.2.2.1 M.2.2.2.1 ∈ ax_all ∧ Cond.methodLink own i M.1 ∈ ax_all ∧ Cond.static M.1 ∈ ax_all ∧ M.1.cls = own
def ax_lkH (own : String) (i : Nat) (M : ax_M) : Prop := ax_ok M ∧ Cond.codeWith M.1 M.2.1 M.2.2.1 M.2.2.2.1 M.2.2.2.2.1 ∈ ax_all ∧ Cond.methodLink own i M.1 ∈ ax_all ∧ Cond.static M.1 ∈ ax_all
def ax_lkI (own : String) (i : Nat) (M : ax_M) : Prop := ax_ok M ∧ M.2.2.2.2.1 = [] ∧ M.2.2.2.1 = none ∧ M.1.name = "<init>" ∧ Cond.code M.1 M.2.1 M.2.2.1 none ∈ ax_all ∧ Cond.methodLink own i M.1 ∈ ax_all ∧ Cond.instanceMethod M.1 ∈ ax_all
theorem ax_wsin {w0 : Cond} {l : List Cond} (h0 : w0 ∈ ax_all) (h1 : ∀ w ∈ l, w ∈ ax_all) : ∀ w ∈ l ++ (w0 :: ax_all), w ∈ ax_all := fun w hw => (List.mem_append.mp hw).elim (h1 w) (fun h => (List.mem_cons.mp h).elim (fun e => by rw [e]; exact h0) id)
theorem ax_callV {G : ax_G} {M : ax_M} {d mc ms : Nat} {Q : ax_P} {pc : Nat} {lv : ax_L} {h : ax_H} {cn sn : Nat} {i : Nat} {M' : ax_M} {b ci : Nat} {fs : List Value} {av rest : List Value} {mc' ms' : Nat} {Q1 : ax_P} (hd : decode M.2.1 pc = .ok (.invokevirtual i, 3)) (hM : M.2.2.2.2.1 = []) (hlk : ax_lkV M.1.cls i M' ci) (hb : h b = some (.inr (ci, fs))) (hn : av.length = M'.2.2.2.2.2) (hsl : (lg_sl (.ref b :: av)).length ≤ M'.2.2.1) (hcat : (rest.map fun v => v.category).sum ≤ 8) (h1' : cn + mc' ≤ mc) (h2' : sn + ms' ≤ ms)
    (kc : AW G M' d mc' ms' Q1 0 (lv_args 0 (.ref b :: av)) [] h 0 0) (kx : ∀ (E : String) (h1 : ax_H), Q1 (.inr E) h1 → Q (.inr E) h1) (kk : ∀ (v : Option Value) (h1 : ax_H), Q1 (.inl v) h1 → AW G M (d + 1) mc ms Q (pc + 3) lv (v.toList ++ rest) h1 (cn + mc') (sn + ms')) : AW G M (d + 1) mc ms Q pc lv (av.reverse ++ .ref b :: rest) h cn sn := by
  intro p e s m args below meth c R H locs ls E Rm Fx Hp hS hl hc hs
  obtain ⟨⟨o1, o2, o3, o4, o5, o6⟩, l1, l2, l3, l4, l5, T, N, l6⟩ := hlk
  obtain ⟨L, hL, hP, hD⟩ := id Hp
  obtain ⟨q0, hq0⟩ := ax_get0 (kc := G.2.2.1) hL hb
  have hT : c.exceptionTable.toList = [] := by rw [E.2.2.2.2.2.2.2.1, hM]; rfl
  have hrun := vx_runV (Ts := ax_all) (e := e) (below := below) (meth := meth) (locs := locs) (g := F0 m pc ls (av.reverse ++ .ref b :: rest)) (rest := rest) (As := av) ⟨E.1, E.2.1, E.2.2.2.1, E.2.2.2.2.1, E.2.2.2.2.2.1⟩ (ax_met o1 l1 hsl kc) (cwV M'.2.2.2.2.2 (C := M'.1.cls) (own := M.1.cls) (index := i) E.2.2.2.2.2.1 (ax_goodIn (ax_wsin l2 (fun w hw => by
      rcases List.mem_cons.mp hw with rfl | hw
      · exact l3
      · rcases List.mem_cons.mp hw with rfl | hw
        · exact l4
        · rcases List.mem_cons.mp hw with rfl | hw
          · exact l5
          · rcases List.mem_cons.mp hw with rfl | hw
            · exact o6
            · cases hw))) rfl rfl rfl ⟨rfl, o2, o3, o4⟩ ⟨by have := Rm.2.2.1; show d + 8 + 1 ≤ R.frames; omega, by have := Rm.2.2.2; show 8 + (M'.2.2.1 + 11) + (40 * d + 120) ≤ R.locals; omega⟩)
    ⟨ax_blind G _ h, va_recv Fx.1 hP l6 hq0, fun U hU hW => ⟨rfl, ax_fix_warm hW hU Fx hS, by rw [hU]; exact Hp⟩⟩ rfl hn hl.1 rfl (lv_room hcat) hd ⟨by rw [Rm.1]; exact h1', by rw [Rm.2.1]; exact h2'⟩
  refine ax_call0 hrun hS (fun E9 ce q9 h1 H1 locs1 q1 q2 q3 w1 w2 w3 => ?_) (fun v h1 H1 locs1 q1 q2 q3 => kk v h1 q1 p e s m args below meth c R H1 locs1 ls E Rm Fx q2 q3 hl h1' h2')
  exact vx_out (fun x hx => by rw [hT] at hx; cases hx) E.2.2.2.2.2.2.1 w1 w2 w3 (fun t ht _ => ⟨h1, kx E9 h1 q1, by rw [ht]; exact q2, q3.F ht⟩) q3.2.2 h1' h2'
theorem ax_callS {G : ax_G} {M : ax_M} {d mc ms : Nat} {Q : ax_P} {pc : Nat} {lv : ax_L} {h : ax_H} {cn sn : Nat} {i : Nat} {M' : ax_M}  {av rest : List Value} {mc' ms' : Nat} {Q1 : ax_P} (hd : decode M.2.1 pc = .ok (.invokestatic i, 3)) (hM : M.2.2.2.2.1 = []) (hlk : ax_lkS M.1.cls i M')  (hn : av.length = M'.2.2.2.2.2) (hsl : (lg_sl (av)).length ≤ M'.2.2.1) (hcat : (rest.map fun v => v.category).sum ≤ 8) (h1' : cn + mc' ≤ mc) (h2' : sn + ms' ≤ ms)
    (kc : AW G M' d mc' ms' Q1 0 (lv_args 0 (av)) [] h 0 0) (kx : ∀ (E : String) (h1 : ax_H), Q1 (.inr E) h1 → Q (.inr E) h1) (kk : ∀ (v : Option Value) (h1 : ax_H), Q1 (.inl v) h1 → AW G M (d + 1) mc ms Q (pc + 3) lv (v.toList ++ rest) h1 (cn + mc') (sn + ms')) : AW G M (d + 1) mc ms Q pc lv (av.reverse ++ rest) h cn sn := by
  intro p e s m args below meth c R H locs ls E Rm Fx Hp hS hl hc hs
  obtain ⟨⟨o1, o2, o3, o4, o5, o6⟩, l1, l2, l3, l4, l5⟩ := hlk
  have hT : c.exceptionTable.toList = [] := by rw [E.2.2.2.2.2.2.2.1, hM]; rfl
  have hrun := vx_runS (Ts := ax_all) (e := e) (below := below) (meth := meth) (locs := locs) (g := F0 m pc ls (av.reverse ++ rest)) (rest := rest) (As := av) ⟨E.1, E.2.1, E.2.2.2.1, E.2.2.2.2.1, E.2.2.2.2.2.1⟩ (ax_met o1 l1 hsl kc) (cwS M'.2.2.2.2.2 (own := M.1.cls) (index := i) E.2.2.2.2.2.1 (ax_goodIn (ax_wsin l2 (fun w hw => by
      rcases List.mem_cons.mp hw with rfl | hw
      · exact l3
      · rcases List.mem_cons.mp hw with rfl | hw
        · exact l4
        · rcases List.mem_cons.mp hw with rfl | hw
          · rw [← l5]; exact o6
          · cases hw))) rfl rfl rfl ⟨l5, o2, o3, o4⟩ ⟨by have := Rm.2.2.1; show d + 8 + 1 ≤ R.frames; omega, by have := Rm.2.2.2; show 8 + (M'.2.2.1 + 11) + (40 * d + 120) ≤ R.locals; omega⟩)
    ⟨ax_blind G _ h, fun U hU hW => ⟨rfl, ax_fix_warm hW hU Fx hS, by rw [hU]; exact Hp⟩⟩ rfl hn hl.1 rfl (lv_room hcat) hd ⟨by rw [Rm.1]; exact h1', by rw [Rm.2.1]; exact h2'⟩
  refine ax_call0 hrun hS (fun E9 ce q9 h1 H1 locs1 q1 q2 q3 w1 w2 w3 => ?_) (fun v h1 H1 locs1 q1 q2 q3 => kk v h1 q1 p e s m args below meth c R H1 locs1 ls E Rm Fx q2 q3 hl h1' h2')
  exact vx_out (fun x hx => by rw [hT] at hx; cases hx) E.2.2.2.2.2.2.1 w1 w2 w3 (fun t ht _ => ⟨h1, kx E9 h1 q1, by rw [ht]; exact q2, q3.F ht⟩) q3.2.2 h1' h2'
theorem ax_callH {G : ax_G} {M : ax_M} {d mc ms : Nat} {Q : ax_P} {pc : Nat} {lv : ax_L} {h : ax_H} {cn sn : Nat} {i : Nat} {M' : ax_M}  {av rest : List Value} {mc' ms' : Nat} {Q1 : ax_P} (hd : decode M.2.1 pc = .ok (.invokestatic i, 3)) (hM : M.2.2.2.2.1 = []) (hlk : ax_lkH M.1.cls i M')  (hn : av.length = M'.2.2.2.2.2) (hsl : (lg_sl (av)).length ≤ M'.2.2.1) (hcat : (rest.map fun v => v.category).sum ≤ 8) (h1' : cn + mc' ≤ mc) (h2' : sn + ms' ≤ ms)
    (kc : AW G M' d mc' ms' Q1 0 (lv_args 0 (av)) [] h 0 0) (kx : ∀ (E : String) (h1 : ax_H), Q1 (.inr E) h1 → Q (.inr E) h1) (kk : ∀ (v : Option Value) (h1 : ax_H), Q1 (.inl v) h1 → AW G M (d + 1) mc ms Q (pc + 3) lv (v.toList ++ rest) h1 (cn + mc') (sn + ms')) : AW G M (d + 1) mc ms Q pc lv (av.reverse ++ rest) h cn sn := by
  intro p e s m args below meth c R H locs ls E Rm Fx Hp hS hl hc hs
  obtain ⟨⟨o1, o2, o3, o4, o5, o6⟩, l2, l3, l4⟩ := hlk
  have hT : c.exceptionTable.toList = [] := by rw [E.2.2.2.2.2.2.2.1, hM]; rfl
  have hrun := vx_runSX (Ts := ax_all) (e := e) (below := below) (meth := meth) (locs := locs) (g := F0 m pc ls (av.reverse ++ rest)) (rest := rest) (As := av) ⟨E.1, E.2.1, E.2.2.2.1, E.2.2.2.2.1, E.2.2.2.2.2.1⟩ (ax_metH o1 hsl kc) (vx_cwSW M'.2.2.2.2.2 (own := M.1.cls) (index := i) E.2.2.2.2.2.1 (ax_goodIn (ax_wsin l2 (fun w hw => by
      rcases List.mem_cons.mp hw with rfl | hw
      · exact l3
      · rcases List.mem_cons.mp hw with rfl | hw
        · exact l4
        · rcases List.mem_cons.mp hw with rfl | hw
          · exact o6
          · cases hw))) rfl rfl rfl ⟨o2, o3, o4⟩ ⟨by have := Rm.2.2.1; show d + 8 + 1 ≤ R.frames; omega, by have := Rm.2.2.2; show 8 + (M'.2.2.1 + 11) + (40 * d + 120) ≤ R.locals; omega⟩)
    ⟨ax_blind G _ h, fun U hU hW => ⟨rfl, ax_fix_warm hW hU Fx hS, by rw [hU]; exact Hp⟩⟩ rfl hn hl.1 rfl (lv_room hcat) hd ⟨by rw [Rm.1]; exact h1', by rw [Rm.2.1]; exact h2'⟩
  refine ax_call0 hrun hS (fun E9 ce q9 h1 H1 locs1 q1 q2 q3 w1 w2 w3 => ?_) (fun v h1 H1 locs1 q1 q2 q3 => kk v h1 q1 p e s m args below meth c R H1 locs1 ls E Rm Fx q2 q3 hl h1' h2')
  exact vx_out (fun x hx => by rw [hT] at hx; cases hx) E.2.2.2.2.2.2.1 w1 w2 w3 (fun t ht _ => ⟨h1, kx E9 h1 q1, by rw [ht]; exact q2, q3.F ht⟩) q3.2.2 h1' h2'
theorem ax_callI {G : ax_G} {M : ax_M} {d mc ms : Nat} {Q : ax_P} {pc : Nat} {lv : ax_L} {h : ax_H} {cn sn : Nat} {i : Nat} {M' : ax_M} {b : Nat} {av rest : List Value} {mc' ms' : Nat} {Q1 : ax_P} (hd : decode M.2.1 pc = .ok (.invokespecial i, 3)) (hM : M.2.2.2.2.1 = []) (hlk : ax_lkI M.1.cls i M')  (hn : av.length = M'.2.2.2.2.2) (hsl : (lg_sl (.ref b :: av)).length ≤ M'.2.2.1) (hcat : (rest.map fun v => v.category).sum ≤ 8) (h1' : cn + mc' ≤ mc) (h2' : sn + ms' ≤ ms)
    (kc : AW G M' d mc' ms' Q1 0 (lv_args 0 (.ref b :: av)) [] h 0 0) (kx : ∀ (E : String) (h1 : ax_H), Q1 (.inr E) h1 → Q (.inr E) h1) (kk : ∀ (v : Option Value) (h1 : ax_H), Q1 (.inl v) h1 → AW G M (d + 1) mc ms Q (pc + 3) lv (v.toList ++ rest) h1 (cn + mc') (sn + ms')) : AW G M (d + 1) mc ms Q pc lv (av.reverse ++ .ref b :: rest) h cn sn := by
  intro p e s m args below meth c R H locs ls E Rm Fx Hp hS hl hc hs
  obtain ⟨⟨o1, o2, o3, o4, o5, o6⟩, l1, l1', l1'', l2, l3, l4⟩ := hlk
  have hT : c.exceptionTable.toList = [] := by rw [E.2.2.2.2.2.2.2.1, hM]; rfl
  have hmet := ax_met o1 l1 hsl kc
  rw [l1'] at hmet
  have hrun := vx_runI (Ts := ax_all) (e := e) (below := below) (meth := meth) (locs := locs) (g := F0 m pc ls (av.reverse ++ .ref b :: rest)) (rest := rest) (As := av) (b := b) ⟨E.1, E.2.1, E.2.2.2.1, E.2.2.2.2.1, E.2.2.2.2.2.1⟩ hmet (cwI M'.2.2.2.2.2 (own := M.1.cls) (index := i) E.2.2.2.2.2.1 (ax_goodIn (ax_wsin (l := []) l2 (fun w hw => by cases hw))) rfl rfl rfl (E.2.2.2.2.2.1 _ o6) (E.2.2.2.2.2.1 _ l3) (E.2.2.2.2.2.1 _ l4) l1'' ⟨o2, o3, o4⟩ ⟨by have := Rm.2.2.1; show d + 8 + 1 ≤ R.frames; omega, by have := Rm.2.2.2; show 8 + (M'.2.2.1 + 11) + (40 * d + 120) ≤ R.locals; omega⟩)
    ⟨ax_blind G _ h, fun U hU hW => ⟨rfl, ax_fix_warm hW hU Fx hS, by rw [hU]; exact Hp⟩⟩ rfl hn hl.1 rfl (lv_room hcat) hd ⟨by rw [Rm.1]; exact h1', by rw [Rm.2.1]; exact h2'⟩
  refine ax_call0 hrun hS (fun E9 ce q9 h1 H1 locs1 q1 q2 q3 w1 w2 w3 => ?_) (fun v h1 H1 locs1 q1 q2 q3 => kk v h1 q1 p e s m args below meth c R H1 locs1 ls E Rm Fx q2 q3 hl h1' h2')
  exact vx_out (fun x hx => by rw [hT] at hx; cases hx) E.2.2.2.2.2.2.1 w1 w2 w3 (fun t ht _ => ⟨h1, kx E9 h1 q1, by rw [ht]; exact q2, q3.F ht⟩) q3.2.2 h1' h2'
end
section
theorem inA0 : ∀ w ∈ u_ws RX0 TX0 2, w ∈ ax_all := by decide +kernel
theorem ax_t1 {w : Cond} {i : Nat} (h : tables_1_1[i]? = some w) (hg : goodWord w = true) : w ∈ ax_all := List.mem_filter.mpr ⟨List.mem_append_right _ (List.mem_append_left _ (List.mem_of_getElem? h)), hg⟩
theorem ax_t2 {w : Cond} {i : Nat} (h : tables_1_2[i]? = some w) (hg : goodWord w = true) : w ∈ ax_all := List.mem_filter.mpr ⟨List.mem_append_right _ (List.mem_append_right _ (List.mem_append_left _ (List.mem_of_getElem? h))), hg⟩
theorem ax_t3 {w : Cond} {i : Nat} (h : tables_1_3[i]? = some w) (hg : goodWord w = true) : w ∈ ax_all := List.mem_filter.mpr ⟨List.mem_append_right _ (List.mem_append_right _ (List.mem_append_right _ (List.mem_append_left _ (List.mem_of_getElem? h)))), hg⟩
theorem ax_t4 {w : Cond} {i : Nat} (h : tables_1_4[i]? = some w) (hg : goodWord w = true) : w ∈ ax_all := List.mem_filter.mpr ⟨List.mem_append_right _ (List.mem_append_right _ (List.mem_append_right _ (List.mem_append_right _ (List.mem_append_left _ (List.mem_of_getElem? h))))), hg⟩
theorem ax_t5 {w : Cond} {i : Nat} (h : tables_1_5[i]? = some w) (hg : goodWord w = true) : w ∈ ax_all := List.mem_filter.mpr ⟨List.mem_append_right _ (List.mem_append_right _ (List.mem_append_right _ (List.mem_append_right _ (List.mem_append_right _ (List.mem_of_getElem? h))))), hg⟩
theorem ax_tp1 {q : MethodName × Nat} {i : Nat} (h : lw_privs_1[i]? = some q) (hg : goodWord (Cond.selects q.1.cls q.1 q.1) = true) : Cond.selects q.1.cls q.1 q.1 ∈ ax_all := List.mem_filter.mpr ⟨List.mem_append_left _ (List.mem_map.mpr ⟨q, List.mem_append_left _ (List.mem_of_getElem? h), rfl⟩), hg⟩
theorem ax_tp2 {q : MethodName × Nat} {i : Nat} (h : lw_privs_2[i]? = some q) (hg : goodWord (Cond.selects q.1.cls q.1 q.1) = true) : Cond.selects q.1.cls q.1 q.1 ∈ ax_all := List.mem_filter.mpr ⟨List.mem_append_left _ (List.mem_map.mpr ⟨q, List.mem_append_right _ (List.mem_append_left _ (List.mem_of_getElem? h)), rfl⟩), hg⟩
theorem ax_tp3 {q : MethodName × Nat} {i : Nat} (h : lw_privs_3[i]? = some q) (hg : goodWord (Cond.selects q.1.cls q.1 q.1) = true) : Cond.selects q.1.cls q.1 q.1 ∈ ax_all := List.mem_filter.mpr ⟨List.mem_append_left _ (List.mem_map.mpr ⟨q, List.mem_append_right _ (List.mem_append_right _ (List.mem_of_getElem? h)), rfl⟩), hg⟩
abbrev mL_addConstructor : ax_M := (yL_addConstructor, cL_addConstructor, 8, (some .int), [(0, 16, 19, 25), (0, 16, 23, 13), (0, 16, 27, 19)], 7)
abbrev mL_addType : ax_M := (yL_addType, cL_addType, 3, (some .int), [(0, 8, 11, 19)], 2)
abbrev mL_code : ax_M := (yL_code, cL_code, 4, (some .int), [(0, 9, 12, 19), (0, 9, 15, 25)], 3)
abbrev mL_count : ax_M := (yL_count, cL_count, 5, (some .int), [(0, 10, 13, 25), (0, 10, 17, 13), (0, 10, 21, 19)], 4)
abbrev mL_draw : ax_M := (yL_draw, cL_draw, 7, (some .int), [(0, 12, 15, 25), (0, 12, 19, 13), (0, 12, 23, 19), (0, 12, 27, 45)], 5)
abbrev mL_firstAgainst : ax_M := (yL_firstAgainst, cL_firstAgainst, 6, (some .int), [(0, 12, 15, 25), (0, 12, 19, 13), (0, 12, 23, 19)], 5)
abbrev mL_height : ax_M := (yL_height, cL_height, 3, (some .int), [(0, 8, 11, 19)], 2)
abbrev mL_holds : ax_M := (yL_holds, cL_holds, 4, (some .int), [(0, 16, 19, 19), (0, 16, 22, 13)], 3)
abbrev mL_length : ax_M := (yL_length, cL_length, 3, (some .int), [(0, 8, 11, 19)], 2)
abbrev mL_mean : ax_M := (yL_mean, cL_mean, 3, (some .int), [(0, 7, 10, 19)], 2)
abbrev mL_number : ax_M := (yL_number, cL_number, 3, (some .int), [(0, 8, 11, 19)], 2)
abbrev mL_read : ax_M := (yL_read, cL_read, 4, (some .int), [(0, 9, 12, 25), (0, 9, 15, 19)], 3)
abbrev mL_reduce : ax_M := (yL_reduce, cL_reduce, 4, (some .int), [(0, 9, 12, 19), (0, 9, 15, 13)], 3)
abbrev mL_reduction : ax_M := (yL_reduction, cL_reduction, 4, (some .int), [(0, 9, 12, 19), (0, 9, 15, 25)], 3)
abbrev mL_reductionCount : ax_M := (yL_reductionCount, cL_reductionCount, 3, (some .int), [(0, 8, 11, 19)], 2)
abbrev mL_select : ax_M := (yL_select, cL_select, 5, (some .int), [(0, 10, 13, 25), (0, 10, 17, 19)], 4)
abbrev mL_setRange : ax_M := (yL_setRange, cL_setRange, 5, (some .int), [(0, 17, 20, 13)], 4)
abbrev mL_tell : ax_M := (yL_tell, cL_tell, 4, (some .int), [(0, 9, 12, 13), (0, 9, 15, 19)], 3)
abbrev mL_total : ax_M := (yL_total, cL_total, 5, (some .int), [(0, 10, 13, 25), (0, 10, 17, 13), (0, 10, 21, 19)], 4)
abbrev mX0_append : ax_M := (yX0_append, cX0_append, 2, none, [], 1)
abbrev mX0_appendValue : ax_M := (yX0_appendValue, cX0_appendValue, 5, none, [], 2)
abbrev mX0_at : ax_M := (yX0_at, cX0_at, 2, (some .int), [], 1)
abbrev mX0_init : ax_M := (yX0_init, cX0_init, 1, none, [], 0)
abbrev mX0_write : ax_M := (yX0_write, cX0_write, 2, none, [], 1)
abbrev mX1_allowsParameters : ax_M := (yX1_allowsParameters, cX1_allowsParameters, 5, (some .boolean), [], 3)
abbrev mX1_append : ax_M := (yX1_append, cX1_append, 7, none, [], 5)
abbrev mX1_conditionOf : ax_M := (yX1_conditionOf, cX1_conditionOf, 2, (some .int), [], 1)
abbrev mX1_hasConstructor : ax_M := (yX1_hasConstructor, cX1_hasConstructor, 2, (some .boolean), [], 1)
abbrev mX1_hasType : ax_M := (yX1_hasType, cX1_hasType, 2, (some .boolean), [], 1)
abbrev mX1_init : ax_M := (yX1_init, cX1_init, 1, none, [], 0)
abbrev mX1_isParameter : ax_M := (yX1_isParameter, cX1_isParameter, 2, (some .boolean), [], 1)
abbrev mX1_parameter : ax_M := (yX1_parameter, cX1_parameter, 3, (some .int), [], 2)
abbrev mX1_typeOf : ax_M := (yX1_typeOf, cX1_typeOf, 2, (some .int), [], 1)
abbrev mX1_typesFrom : ax_M := (yX1_typesFrom, cX1_typesFrom, 3, (some .int), [], 2)
abbrev mX2_addPartsOf : ax_M := (yX2_addPartsOf, cX2_addPartsOf, 6, none, [], 3)
abbrev mX2_append : ax_M := (yX2_append, cX2_append, 2, none, [], 1)
abbrev mX2_at : ax_M := (yX2_at, cX2_at, 2, (some (.object "DataMaker$Value")), [], 1)
abbrev mX2_collect : ax_M := (yX2_collect, cX2_collect, 5, none, [], 2)
abbrev mX2_firstUnfit : ax_M := (yX2_firstUnfit, cX2_firstUnfit, 4, (some (.object "DataMaker$Value")), [], 1)
abbrev mX2_has : ax_M := (yX2_has, cX2_has, 4, (some .boolean), [], 1)
abbrev mX2_init : ax_M := (yX2_init, cX2_init, 1, none, [], 0)
abbrev mX3_closeSize : ax_M := (yX3_closeSize, cX3_closeSize, 3, none, [], 1)
abbrev mX3_copyToExtend : ax_M := (yX3_copyToExtend, cX3_copyToExtend, 3, (some (.object "DataMaker$Value")), [], 1)
abbrev mX3_extend : ax_M := (yX3_extend, cX3_extend, 6, none, [], 2)
abbrev mX3_extendByNumbers : ax_M := (yX3_extendByNumbers, cX3_extendByNumbers, 5, none, [], 2)
abbrev mX3_extendByParts : ax_M := (yX3_extendByParts, cX3_extendByParts, 11, none, [], 4)
abbrev mX3_find : ax_M := (yX3_find, cX3_find, 5, (some (.object "DataMaker$Value")), [], 1)
abbrev mX3_init : ax_M := (yX3_init, cX3_init, 3, none, [], 1)
abbrev mX3_isHopeless : ax_M := (yX3_isHopeless, cX3_isHopeless, 4, (some .boolean), [], 2)
abbrev mX3_keep : ax_M := (yX3_keep, cX3_keep, 4, none, [], 1)
abbrev mX3_makeSize : ax_M := (yX3_makeSize, cX3_makeSize, 4, none, [], 1)
abbrev mX3_refresh : ax_M := (yX3_refresh, cX3_refresh, 2, none, [], 0)
abbrev mX3_upTo : ax_M := (yX3_upTo, cX3_upTo, 3, (some .int), [], 2)
abbrev mX3_valueAt : ax_M := (yX3_valueAt, cX3_valueAt, 3, (some (.object "DataMaker$Value")), [], 2)
abbrev mX4_append : ax_M := (yX4_append, cX4_append, 2, none, [], 1)
abbrev mX4_init : ax_M := (yX4_init, cX4_init, 3, none, [], 1)
abbrev mX4_next : ax_M := (yX4_next, cX4_next, 1, (some .int), [], 0)
abbrev mX4_parse : ax_M := (yX4_parse, cX4_parse, 3, (some (.object "DataMaker$Value")), [], 1)
abbrev mX4_parseArgument : ax_M := (yX4_parseArgument, cX4_parseArgument, 4, (some .boolean), [], 2)
abbrev mX4_parseValue : ax_M := (yX4_parseValue, cX4_parseValue, 6, (some (.object "DataMaker$Value")), [], 1)
abbrev mX5_addNumber : ax_M := (yX5_addNumber, cX5_addNumber, 2, none, [], 1)
abbrev mX5_addPart : ax_M := (yX5_addPart, cX5_addPart, 2, none, [], 1)
abbrev mX5_begin : ax_M := (yX5_begin, cX5_begin, 3, none, [], 2)
abbrev mX5_clashesWith : ax_M := (yX5_clashesWith, cX5_clashesWith, 3, (some .boolean), [], 2)
abbrev mX5_codeLength : ax_M := (yX5_codeLength, cX5_codeLength, 1, (some .int), [], 0)
abbrev mX5_copyFrom : ax_M := (yX5_copyFrom, cX5_copyFrom, 3, none, [], 1)
abbrev mX5_differsFrom : ax_M := (yX5_differsFrom, cX5_differsFrom, 2, (some .int), [], 1)
abbrev mX5_distance : ax_M := (yX5_distance, cX5_distance, 5, (some .int), [], 3)
abbrev mX5_fits : ax_M := (yX5_fits, cX5_fits, 2, (some .boolean), [], 1)
abbrev mX5_init : ax_M := (yX5_init, cX5_init, 1, none, [], 0)
abbrev mX5_joinInts : ax_M := (yX5_joinInts, cX5_joinInts, 4, none, [], 3)
abbrev mX5_partAt : ax_M := (yX5_partAt, cX5_partAt, 2, (some (.object "DataMaker$Value")), [], 1)
abbrev mX5_partsDiffer : ax_M := (yX5_partsDiffer, cX5_partsDiffer, 1, (some .int), [], 0)
abbrev mX6_addConstructor : ax_M := (yX6_addConstructor, cX6_addConstructor, 6, (some .int), [], 5)
abbrev mX6_addType : ax_M := (yX6_addType, cX6_addType, 1, (some .int), [], 0)
abbrev mX6_chosen : ax_M := (yX6_chosen, cX6_chosen, 1, (some (.object "DataMaker$Value")), [], 0)
abbrev mX6_code : ax_M := (yX6_code, cX6_code, 3, (some .int), [], 1)
abbrev mX6_count : ax_M := (yX6_count, cX6_count, 3, (some .int), [], 2)
abbrev mX6_digest : ax_M := (yX6_digest, cX6_digest, 5, (some .long), [], 0)
abbrev mX6_draw : ax_M := (yX6_draw, cX6_draw, 10, (some .int), [], 3)
abbrev mX6_firstAgainst : ax_M := (yX6_firstAgainst, cX6_firstAgainst, 7, (some .int), [], 3)
abbrev mX6_forgetValues : ax_M := (yX6_forgetValues, cX6_forgetValues, 1, none, [], 0)
abbrev mX6_height : ax_M := (yX6_height, cX6_height, 1, (some .int), [], 0)
abbrev mX6_holds : ax_M := (yX6_holds, cX6_holds, 3, (some .boolean), [], 1)
abbrev mX6_horizon : ax_M := (yX6_horizon, cX6_horizon, 1, (some .int), [], 0)
abbrev mX6_init : ax_M := (yX6_init, cX6_init, 1, none, [], 0)
abbrev mX6_length : ax_M := (yX6_length, cX6_length, 1, (some .int), [], 0)
abbrev mX6_mean : ax_M := (yX6_mean, cX6_mean, 2, (some .double), [], 0)
abbrev mX6_number : ax_M := (yX6_number, cX6_number, 1, (some .int), [], 0)
abbrev mX6_read : ax_M := (yX6_read, cX6_read, 4, (some .int), [], 1)
abbrev mX6_reduce : ax_M := (yX6_reduce, cX6_reduce, 5, (some .int), [], 1)
abbrev mX6_reduction : ax_M := (yX6_reduction, cX6_reduction, 3, (some .int), [], 1)
abbrev mX6_reductionCount : ax_M := (yX6_reductionCount, cX6_reductionCount, 1, (some .int), [], 0)
abbrev mX6_requireKnown : ax_M := (yX6_requireKnown, cX6_requireKnown, 2, none, [], 1)
abbrev mX6_requireProperty : ax_M := (yX6_requireProperty, cX6_requireProperty, 2, none, [], 1)
abbrev mX6_requireSize : ax_M := (yX6_requireSize, cX6_requireSize, 2, none, [], 1)
abbrev mX6_requireType : ax_M := (yX6_requireType, cX6_requireType, 2, none, [], 1)
abbrev mX6_select : ax_M := (yX6_select, cX6_select, 4, (some .int), [], 2)
abbrev mX6_setRange : ax_M := (yX6_setRange, cX6_setRange, 4, (some .boolean), [], 2)
abbrev mX6_tell : ax_M := (yX6_tell, cX6_tell, 4, (some .int), [], 1)
abbrev mX6_total : ax_M := (yX6_total, cX6_total, 3, (some .int), [], 2)
abbrev mX6_typeCount : ax_M := (yX6_typeCount, cX6_typeCount, 1, (some .int), [], 0)
abbrev mX7_add : ax_M := (yX7_add, cX7_add, 4, none, [], 1)
abbrev mX7_addConstructor : ax_M := (yX7_addConstructor, cX7_addConstructor, 10, (some .int), [], 5)
abbrev mX7_addType : ax_M := (yX7_addType, cX7_addType, 1, (some .int), [], 0)
abbrev mX7_asks : ax_M := (yX7_asks, cX7_asks, 3, (some .boolean), [], 2)
abbrev mX7_change : ax_M := (yX7_change, cX7_change, 1, none, [], 0)
abbrev mX7_choices : ax_M := (yX7_choices, cX7_choices, 6, (some (.array (.array .int))), [], 2)
abbrev mX7_choose : ax_M := (yX7_choose, cX7_choose, 3, none, [], 2)
abbrev mX7_code : ax_M := (yX7_code, cX7_code, 3, (some .int), [], 1)
abbrev mX7_constructorsIn : ax_M := (yX7_constructorsIn, cX7_constructorsIn, 3, (some .int), [], 1)
abbrev mX7_count : ax_M := (yX7_count, cX7_count, 3, (some .int), [], 2)
abbrev mX7_current : ax_M := (yX7_current, cX7_current, 1, (some .int), [], 0)
abbrev mX7_digest : ax_M := (yX7_digest, cX7_digest, 7, (some .long), [], 0)
abbrev mX7_draw : ax_M := (yX7_draw, cX7_draw, 9, (some .int), [], 3)
abbrev mX7_end : ax_M := (yX7_end, cX7_end, 6, (some .int), [], 2)
abbrev mX7_fail : ax_M := (yX7_fail, cX7_fail, 2, (some .int), [], 1)
abbrev mX7_find : ax_M := (yX7_find, cX7_find, 8, (some .int), [], 3)
abbrev mX7_findReductions : ax_M := (yX7_findReductions, cX7_findReductions, 6, none, [], 0)
abbrev mX7_firstAgainst : ax_M := (yX7_firstAgainst, cX7_firstAgainst, 6, (some .int), [], 3)
abbrev mX7_has : ax_M := (yX7_has, cX7_has, 1, (some .boolean), [], 0)
abbrev mX7_height : ax_M := (yX7_height, cX7_height, 1, (some .int), [], 0)
abbrev mX7_holds : ax_M := (yX7_holds, cX7_holds, 2, (some .boolean), [], 1)
abbrev mX7_horizon : ax_M := (yX7_horizon, cX7_horizon, 1, (some .int), [], 0)
abbrev mX7_init : ax_M := (yX7_init, cX7_init, 1, none, [], 0)
abbrev mX7_isIn : ax_M := (yX7_isIn, cX7_isIn, 3, (some .boolean), [], 3)
abbrev mX7_isTrue : ax_M := (yX7_isTrue, cX7_isTrue, 15, (some .boolean), [], 6)
abbrev mX7_isTrueOf : ax_M := (yX7_isTrueOf, cX7_isTrueOf, 10, (some .boolean), [], 2)
abbrev mX7_isType : ax_M := (yX7_isType, cX7_isType, 2, (some .boolean), [], 1)
abbrev mX7_length : ax_M := (yX7_length, cX7_length, 1, (some .int), [], 0)
abbrev mX7_look : ax_M := (yX7_look, cX7_look, 12, (some .int), [], 4)
abbrev mX7_make : ax_M := (yX7_make, cX7_make, 5, none, [], 0)
abbrev mX7_mean : ax_M := (yX7_mean, cX7_mean, 7, (some .double), [], 0)
abbrev mX7_number : ax_M := (yX7_number, cX7_number, 1, (some .int), [], 0)
abbrev mX7_read : ax_M := (yX7_read, cX7_read, 5, (some .int), [], 1)
abbrev mX7_reduce : ax_M := (yX7_reduce, cX7_reduce, 6, (some .int), [], 1)
abbrev mX7_reduction : ax_M := (yX7_reduction, cX7_reduction, 2, (some .int), [], 1)
abbrev mX7_reductionCount : ax_M := (yX7_reductionCount, cX7_reductionCount, 1, (some .int), [], 0)
abbrev mX7_select : ax_M := (yX7_select, cX7_select, 3, (some .int), [], 2)
abbrev mX7_setRange : ax_M := (yX7_setRange, cX7_setRange, 4, (some .boolean), [], 2)
abbrev mX7_tell : ax_M := (yX7_tell, cX7_tell, 2, (some .int), [], 1)
abbrev mX7_thrown : ax_M := (yX7_thrown, cX7_thrown, 1, (some .int), [], 0)
abbrev mX7_total : ax_M := (yX7_total, cX7_total, 3, (some .int), [], 2)
abbrev mX7_typeCount : ax_M := (yX7_typeCount, cX7_typeCount, 1, (some .int), [], 0)
abbrev mX7_upTo : ax_M := (yX7_upTo, cX7_upTo, 5, (some .int), [], 2)
abbrev mX7_value : ax_M := (yX7_value, cX7_value, 3, (some .int), [], 2)
abbrev mX7_write : ax_M := (yX7_write, cX7_write, 21, (some .boolean), [], 2)
theorem inA1 : ∀ w ∈ u_ws RX1 TX1 8, w ∈ ax_all := by decide +kernel
theorem inA2 : ∀ w ∈ u_ws RX2 TX2 2, w ∈ ax_all := by decide +kernel
theorem inA3 : ∀ w ∈ u_ws RX3 TX3 10, w ∈ ax_all := by decide +kernel
theorem inA4 : ∀ w ∈ u_ws RX4 TX4 6, w ∈ ax_all := by decide +kernel
theorem inA5 : ∀ w ∈ u_ws RX5 TX5 16, w ∈ ax_all := by decide +kernel
theorem inA6 : ∀ w ∈ u_ws RX6 TX6 6, w ∈ ax_all := by decide +kernel
theorem inA7 : ∀ w ∈ u_ws RX7 TX7 25, w ∈ ax_all := by decide +kernel
theorem okL_addConstructor : ax_ok mL_addConstructor := ⟨by decide +kernel, by decide +kernel, by decide +kernel, by decide +kernel, by decide, (ax_t1 (i := 0) rfl rfl)⟩
theorem cdL_addConstructor : Cond.codeWith yL_addConstructor cL_addConstructor 8 (some .int) [(0, 16, 19, 25), (0, 16, 23, 13), (0, 16, 27, 19)] ∈ ax_all := (ax_t3 (i := 18) rfl rfl)
theorem okL_addType : ax_ok mL_addType := ⟨by decide +kernel, by decide +kernel, by decide +kernel, by decide +kernel, by decide, (ax_t1 (i := 0) rfl rfl)⟩
theorem cdL_addType : Cond.codeWith yL_addType cL_addType 3 (some .int) [(0, 8, 11, 19)] ∈ ax_all := (ax_t2 (i := 234) rfl rfl)
theorem okL_code : ax_ok mL_code := ⟨by decide +kernel, by decide +kernel, by decide +kernel, by decide +kernel, by decide, (ax_t1 (i := 0) rfl rfl)⟩
theorem cdL_code : Cond.codeWith yL_code cL_code 4 (some .int) [(0, 9, 12, 19), (0, 9, 15, 25)] ∈ ax_all := (ax_t3 (i := 212) rfl rfl)
theorem okL_count : ax_ok mL_count := ⟨by decide +kernel, by decide +kernel, by decide +kernel, by decide +kernel, by decide, (ax_t1 (i := 0) rfl rfl)⟩
theorem cdL_count : Cond.codeWith yL_count cL_count 5 (some .int) [(0, 10, 13, 25), (0, 10, 17, 13), (0, 10, 21, 19)] ∈ ax_all := (ax_t3 (i := 66) rfl rfl)
theorem okL_draw : ax_ok mL_draw := ⟨by decide +kernel, by decide +kernel, by decide +kernel, by decide +kernel, by decide, (ax_t1 (i := 0) rfl rfl)⟩
theorem cdL_draw : Cond.codeWith yL_draw cL_draw 7 (some .int) [(0, 12, 15, 25), (0, 12, 19, 13), (0, 12, 23, 19), (0, 12, 27, 45)] ∈ ax_all := (ax_t3 (i := 114) rfl rfl)
theorem okL_firstAgainst : ax_ok mL_firstAgainst := ⟨by decide +kernel, by decide +kernel, by decide +kernel, by decide +kernel, by decide, (ax_t1 (i := 0) rfl rfl)⟩
theorem cdL_firstAgainst : Cond.codeWith yL_firstAgainst cL_firstAgainst 6 (some .int) [(0, 12, 15, 25), (0, 12, 19, 13), (0, 12, 23, 19)] ∈ ax_all := (ax_t3 (i := 91) rfl rfl)
theorem okL_height : ax_ok mL_height := ⟨by decide +kernel, by decide +kernel, by decide +kernel, by decide +kernel, by decide, (ax_t1 (i := 0) rfl rfl)⟩
theorem cdL_height : Cond.codeWith yL_height cL_height 3 (some .int) [(0, 8, 11, 19)] ∈ ax_all := (ax_t3 (i := 227) rfl rfl)
theorem okL_holds : ax_ok mL_holds := ⟨by decide +kernel, by decide +kernel, by decide +kernel, by decide +kernel, by decide, (ax_t1 (i := 0) rfl rfl)⟩
theorem cdL_holds : Cond.codeWith yL_holds cL_holds 4 (some .int) [(0, 16, 19, 19), (0, 16, 22, 13)] ∈ ax_all := (ax_t4 (i := 1) rfl rfl)
theorem okL_length : ax_ok mL_length := ⟨by decide +kernel, by decide +kernel, by decide +kernel, by decide +kernel, by decide, (ax_t1 (i := 0) rfl rfl)⟩
theorem cdL_length : Cond.codeWith yL_length cL_length 3 (some .int) [(0, 8, 11, 19)] ∈ ax_all := (ax_t3 (i := 196) rfl rfl)
theorem okL_mean : ax_ok mL_mean := ⟨by decide +kernel, by decide +kernel, by decide +kernel, by decide +kernel, by decide, (ax_t1 (i := 0) rfl rfl)⟩
theorem cdL_mean : Cond.codeWith yL_mean cL_mean 3 (some .int) [(0, 7, 10, 19)] ∈ ax_all := (ax_t3 (i := 234) rfl rfl)
theorem okL_number : ax_ok mL_number := ⟨by decide +kernel, by decide +kernel, by decide +kernel, by decide +kernel, by decide, (ax_t1 (i := 0) rfl rfl)⟩
theorem cdL_number : Cond.codeWith yL_number cL_number 3 (some .int) [(0, 8, 11, 19)] ∈ ax_all := (ax_t3 (i := 220) rfl rfl)
theorem okL_read : ax_ok mL_read := ⟨by decide +kernel, by decide +kernel, by decide +kernel, by decide +kernel, by decide, (ax_t1 (i := 0) rfl rfl)⟩
theorem cdL_read : Cond.codeWith yL_read cL_read 4 (some .int) [(0, 9, 12, 25), (0, 9, 15, 19)] ∈ ax_all := (ax_t3 (i := 153) rfl rfl)
theorem okL_reduce : ax_ok mL_reduce := ⟨by decide +kernel, by decide +kernel, by decide +kernel, by decide +kernel, by decide, (ax_t1 (i := 0) rfl rfl)⟩
theorem cdL_reduce : Cond.codeWith yL_reduce cL_reduce 4 (some .int) [(0, 9, 12, 19), (0, 9, 15, 13)] ∈ ax_all := (ax_t4 (i := 48) rfl rfl)
theorem okL_reduction : ax_ok mL_reduction := ⟨by decide +kernel, by decide +kernel, by decide +kernel, by decide +kernel, by decide, (ax_t1 (i := 0) rfl rfl)⟩
theorem cdL_reduction : Cond.codeWith yL_reduction cL_reduction 4 (some .int) [(0, 9, 12, 19), (0, 9, 15, 25)] ∈ ax_all := (ax_t4 (i := 39) rfl rfl)
theorem okL_reductionCount : ax_ok mL_reductionCount := ⟨by decide +kernel, by decide +kernel, by decide +kernel, by decide +kernel, by decide, (ax_t1 (i := 0) rfl rfl)⟩
theorem cdL_reductionCount : Cond.codeWith yL_reductionCount cL_reductionCount 3 (some .int) [(0, 8, 11, 19)] ∈ ax_all := (ax_t4 (i := 8) rfl rfl)
theorem okL_select : ax_ok mL_select := ⟨by decide +kernel, by decide +kernel, by decide +kernel, by decide +kernel, by decide, (ax_t1 (i := 0) rfl rfl)⟩
theorem cdL_select : Cond.codeWith yL_select cL_select 5 (some .int) [(0, 10, 13, 25), (0, 10, 17, 19)] ∈ ax_all := (ax_t3 (i := 105) rfl rfl)
theorem okL_setRange : ax_ok mL_setRange := ⟨by decide +kernel, by decide +kernel, by decide +kernel, by decide +kernel, by decide, (ax_t1 (i := 0) rfl rfl)⟩
theorem cdL_setRange : Cond.codeWith yL_setRange cL_setRange 5 (some .int) [(0, 17, 20, 13)] ∈ ax_all := (ax_t2 (i := 153) rfl rfl)
theorem okL_tell : ax_ok mL_tell := ⟨by decide +kernel, by decide +kernel, by decide +kernel, by decide +kernel, by decide, (ax_t1 (i := 0) rfl rfl)⟩
theorem cdL_tell : Cond.codeWith yL_tell cL_tell 4 (some .int) [(0, 9, 12, 13), (0, 9, 15, 19)] ∈ ax_all := (ax_t3 (i := 140) rfl rfl)
theorem okL_total : ax_ok mL_total := ⟨by decide +kernel, by decide +kernel, by decide +kernel, by decide +kernel, by decide, (ax_t1 (i := 0) rfl rfl)⟩
theorem cdL_total : Cond.codeWith yL_total cL_total 5 (some .int) [(0, 10, 13, 25), (0, 10, 17, 13), (0, 10, 21, 19)] ∈ ax_all := (ax_t3 (i := 84) rfl rfl)
theorem okX0_append : ax_ok mX0_append := ⟨by decide +kernel, by decide +kernel, by decide +kernel, by decide +kernel, by decide, (ax_t1 (i := 6) rfl rfl)⟩
theorem cdX0_append : Cond.code yX0_append cX0_append 2 none ∈ ax_all := (ax_t2 (i := 142) rfl rfl)
theorem okX0_appendValue : ax_ok mX0_appendValue := ⟨by decide +kernel, by decide +kernel, by decide +kernel, by decide +kernel, by decide, (ax_t1 (i := 6) rfl rfl)⟩
theorem cdX0_appendValue : Cond.code yX0_appendValue cX0_appendValue 5 none ∈ ax_all := (ax_t2 (i := 138) rfl rfl)
theorem okX0_at : ax_ok mX0_at := ⟨by decide +kernel, by decide +kernel, by decide +kernel, by decide +kernel, by decide, (ax_t1 (i := 6) rfl rfl)⟩
theorem cdX0_at : Cond.code yX0_at cX0_at 2 (some .int) ∈ ax_all := (ax_t2 (i := 150) rfl rfl)
theorem okX0_init : ax_ok mX0_init := ⟨by decide +kernel, by decide +kernel, by decide +kernel, by decide +kernel, by decide, (ax_t1 (i := 6) rfl rfl)⟩
theorem cdX0_init : Cond.code yX0_init cX0_init 1 none ∈ ax_all := (ax_t1 (i := 211) rfl rfl)
theorem okX0_write : ax_ok mX0_write := ⟨by decide +kernel, by decide +kernel, by decide +kernel, by decide +kernel, by decide, (ax_t1 (i := 6) rfl rfl)⟩
theorem cdX0_write : Cond.code yX0_write cX0_write 2 none ∈ ax_all := (ax_t2 (i := 134) rfl rfl)
theorem okX1_allowsParameters : ax_ok mX1_allowsParameters := ⟨by decide +kernel, by decide +kernel, by decide +kernel, by decide +kernel, by decide, (ax_t1 (i := 2) rfl rfl)⟩
theorem cdX1_allowsParameters : Cond.code yX1_allowsParameters cX1_allowsParameters 5 (some .boolean) ∈ ax_all := (ax_t3 (i := 51) rfl rfl)
theorem okX1_append : ax_ok mX1_append := ⟨by decide +kernel, by decide +kernel, by decide +kernel, by decide +kernel, by decide, (ax_t1 (i := 2) rfl rfl)⟩
theorem cdX1_append : Cond.code yX1_append cX1_append 7 none ∈ ax_all := (ax_t3 (i := 63) rfl rfl)
theorem okX1_conditionOf : ax_ok mX1_conditionOf := ⟨by decide +kernel, by decide +kernel, by decide +kernel, by decide +kernel, by decide, (ax_t1 (i := 2) rfl rfl)⟩
theorem cdX1_conditionOf : Cond.code yX1_conditionOf cX1_conditionOf 2 (some .int) ∈ ax_all := (ax_t2 (i := 62) rfl rfl)
theorem okX1_hasConstructor : ax_ok mX1_hasConstructor := ⟨by decide +kernel, by decide +kernel, by decide +kernel, by decide +kernel, by decide, (ax_t1 (i := 2) rfl rfl)⟩
theorem cdX1_hasConstructor : Cond.code yX1_hasConstructor cX1_hasConstructor 2 (some .boolean) ∈ ax_all := (ax_t2 (i := 38) rfl rfl)
theorem okX1_hasType : ax_ok mX1_hasType := ⟨by decide +kernel, by decide +kernel, by decide +kernel, by decide +kernel, by decide, (ax_t1 (i := 2) rfl rfl)⟩
theorem cdX1_hasType : Cond.code yX1_hasType cX1_hasType 2 (some .boolean) ∈ ax_all := (ax_t3 (i := 31) rfl rfl)
theorem okX1_init : ax_ok mX1_init := ⟨by decide +kernel, by decide +kernel, by decide +kernel, by decide +kernel, by decide, (ax_t1 (i := 2) rfl rfl)⟩
theorem cdX1_init : Cond.code yX1_init cX1_init 1 none ∈ ax_all := (ax_t1 (i := 30) rfl rfl)
theorem okX1_isParameter : ax_ok mX1_isParameter := ⟨by decide +kernel, by decide +kernel, by decide +kernel, by decide +kernel, by decide, (ax_t1 (i := 2) rfl rfl)⟩
theorem cdX1_isParameter : Cond.code yX1_isParameter cX1_isParameter 2 (some .boolean) ∈ ax_all := (ax_t3 (i := 55) rfl rfl)
theorem okX1_parameter : ax_ok mX1_parameter := ⟨by decide +kernel, by decide +kernel, by decide +kernel, by decide +kernel, by decide, (ax_t1 (i := 2) rfl rfl)⟩
theorem cdX1_parameter : Cond.code yX1_parameter cX1_parameter 3 (some .int) ∈ ax_all := (ax_t2 (i := 50) rfl rfl)
theorem okX1_typeOf : ax_ok mX1_typeOf := ⟨by decide +kernel, by decide +kernel, by decide +kernel, by decide +kernel, by decide, (ax_t1 (i := 2) rfl rfl)⟩
theorem cdX1_typeOf : Cond.code yX1_typeOf cX1_typeOf 2 (some .int) ∈ ax_all := (ax_t2 (i := 34) rfl rfl)
theorem okX1_typesFrom : ax_ok mX1_typesFrom := ⟨by decide +kernel, by decide +kernel, by decide +kernel, by decide +kernel, by decide, (ax_t1 (i := 2) rfl rfl)⟩
theorem cdX1_typesFrom : Cond.code yX1_typesFrom cX1_typesFrom 3 (some .int) ∈ ax_all := (ax_t2 (i := 54) rfl rfl)
theorem okX2_addPartsOf : ax_ok mX2_addPartsOf := ⟨by decide +kernel, by decide +kernel, by decide +kernel, by decide +kernel, by decide, (ax_t1 (i := 7) rfl rfl)⟩
theorem cdX2_addPartsOf : Cond.code yX2_addPartsOf cX2_addPartsOf 6 none ∈ ax_all := (ax_t4 (i := 20) rfl rfl)
theorem okX2_append : ax_ok mX2_append := ⟨by decide +kernel, by decide +kernel, by decide +kernel, by decide +kernel, by decide, (ax_t1 (i := 7) rfl rfl)⟩
theorem cdX2_append : Cond.code yX2_append cX2_append 2 none ∈ ax_all := (ax_t4 (i := 33) rfl rfl)
theorem okX2_at : ax_ok mX2_at := ⟨by decide +kernel, by decide +kernel, by decide +kernel, by decide +kernel, by decide, (ax_t1 (i := 7) rfl rfl)⟩
theorem cdX2_at : Cond.code yX2_at cX2_at 2 (some (.object "DataMaker$Value")) ∈ ax_all := (ax_t4 (i := 29) rfl rfl)
theorem okX2_collect : ax_ok mX2_collect := ⟨by decide +kernel, by decide +kernel, by decide +kernel, by decide +kernel, by decide, (ax_t1 (i := 7) rfl rfl)⟩
theorem cdX2_collect : Cond.code yX2_collect cX2_collect 5 none ∈ ax_all := (ax_t4 (i := 16) rfl rfl)
theorem okX2_firstUnfit : ax_ok mX2_firstUnfit := ⟨by decide +kernel, by decide +kernel, by decide +kernel, by decide +kernel, by decide, (ax_t1 (i := 7) rfl rfl)⟩
theorem cdX2_firstUnfit : Cond.code yX2_firstUnfit cX2_firstUnfit 4 (some (.object "DataMaker$Value")) ∈ ax_all := (ax_t4 (i := 56) rfl rfl)
theorem okX2_has : ax_ok mX2_has := ⟨by decide +kernel, by decide +kernel, by decide +kernel, by decide +kernel, by decide, (ax_t1 (i := 7) rfl rfl)⟩
theorem cdX2_has : Cond.code yX2_has cX2_has 4 (some .boolean) ∈ ax_all := (ax_t4 (i := 25) rfl rfl)
theorem okX2_init : ax_ok mX2_init := ⟨by decide +kernel, by decide +kernel, by decide +kernel, by decide +kernel, by decide, (ax_t1 (i := 7) rfl rfl)⟩
theorem cdX2_init : Cond.code yX2_init cX2_init 1 none ∈ ax_all := (ax_t1 (i := 225) rfl rfl)
theorem okX3_closeSize : ax_ok mX3_closeSize := ⟨by decide +kernel, by decide +kernel, by decide +kernel, by decide +kernel, by decide, (ax_t1 (i := 3) rfl rfl)⟩
theorem cdX3_closeSize : Cond.code yX3_closeSize cX3_closeSize 3 none ∈ ax_all := (ax_t2 (i := 121) rfl rfl)
theorem okX3_copyToExtend : ax_ok mX3_copyToExtend := ⟨by decide +kernel, by decide +kernel, by decide +kernel, by decide +kernel, by decide, (ax_t1 (i := 3) rfl rfl)⟩
theorem cdX3_copyToExtend : Cond.code yX3_copyToExtend cX3_copyToExtend 3 (some (.object "DataMaker$Value")) ∈ ax_all := (ax_t2 (i := 86) rfl rfl)
theorem okX3_extend : ax_ok mX3_extend := ⟨by decide +kernel, by decide +kernel, by decide +kernel, by decide +kernel, by decide, (ax_t1 (i := 3) rfl rfl)⟩
theorem cdX3_extend : Cond.code yX3_extend cX3_extend 6 none ∈ ax_all := (ax_t2 (i := 46) rfl rfl)
theorem okX3_extendByNumbers : ax_ok mX3_extendByNumbers := ⟨by decide +kernel, by decide +kernel, by decide +kernel, by decide +kernel, by decide, (ax_t1 (i := 3) rfl rfl)⟩
theorem cdX3_extendByNumbers : Cond.code yX3_extendByNumbers cX3_extendByNumbers 5 none ∈ ax_all := (ax_t2 (i := 82) rfl rfl)
theorem okX3_extendByParts : ax_ok mX3_extendByParts := ⟨by decide +kernel, by decide +kernel, by decide +kernel, by decide +kernel, by decide, (ax_t1 (i := 3) rfl rfl)⟩
theorem cdX3_extendByParts : Cond.code yX3_extendByParts cX3_extendByParts 11 none ∈ ax_all := (ax_t2 (i := 98) rfl rfl)
theorem okX3_find : ax_ok mX3_find := ⟨by decide +kernel, by decide +kernel, by decide +kernel, by decide +kernel, by decide, (ax_t1 (i := 3) rfl rfl)⟩
theorem cdX3_find : Cond.code yX3_find cX3_find 5 (some (.object "DataMaker$Value")) ∈ ax_all := (ax_t3 (i := 186) rfl rfl)
theorem okX3_init : ax_ok mX3_init := ⟨by decide +kernel, by decide +kernel, by decide +kernel, by decide +kernel, by decide, (ax_t1 (i := 3) rfl rfl)⟩
theorem cdX3_init : Cond.code yX3_init cX3_init 3 none ∈ ax_all := (ax_t1 (i := 71) rfl rfl)
theorem okX3_isHopeless : ax_ok mX3_isHopeless := ⟨by decide +kernel, by decide +kernel, by decide +kernel, by decide +kernel, by decide, (ax_t1 (i := 3) rfl rfl)⟩
theorem cdX3_isHopeless : Cond.code yX3_isHopeless cX3_isHopeless 4 (some .boolean) ∈ ax_all := (ax_t2 (i := 58) rfl rfl)
theorem okX3_keep : ax_ok mX3_keep := ⟨by decide +kernel, by decide +kernel, by decide +kernel, by decide +kernel, by decide, (ax_t1 (i := 3) rfl rfl)⟩
theorem cdX3_keep : Cond.code yX3_keep cX3_keep 4 none ∈ ax_all := (ax_t2 (i := 74) rfl rfl)
theorem okX3_makeSize : ax_ok mX3_makeSize := ⟨by decide +kernel, by decide +kernel, by decide +kernel, by decide +kernel, by decide, (ax_t1 (i := 3) rfl rfl)⟩
theorem cdX3_makeSize : Cond.code yX3_makeSize cX3_makeSize 4 none ∈ ax_all := (ax_t2 (i := 30) rfl rfl)
theorem okX3_refresh : ax_ok mX3_refresh := ⟨by decide +kernel, by decide +kernel, by decide +kernel, by decide +kernel, by decide, (ax_t1 (i := 3) rfl rfl)⟩
theorem cdX3_refresh : Cond.code yX3_refresh cX3_refresh 2 none ∈ ax_all := (ax_t2 (i := 26) rfl rfl)
theorem okX3_upTo : ax_ok mX3_upTo := ⟨by decide +kernel, by decide +kernel, by decide +kernel, by decide +kernel, by decide, (ax_t1 (i := 3) rfl rfl)⟩
theorem cdX3_upTo : Cond.code yX3_upTo cX3_upTo 3 (some .int) ∈ ax_all := (ax_t2 (i := 102) rfl rfl)
theorem okX3_valueAt : ax_ok mX3_valueAt := ⟨by decide +kernel, by decide +kernel, by decide +kernel, by decide +kernel, by decide, (ax_t1 (i := 3) rfl rfl)⟩
theorem cdX3_valueAt : Cond.code yX3_valueAt cX3_valueAt 3 (some (.object "DataMaker$Value")) ∈ ax_all := (ax_t2 (i := 106) rfl rfl)
theorem okX4_append : ax_ok mX4_append := ⟨by decide +kernel, by decide +kernel, by decide +kernel, by decide +kernel, by decide, (ax_t1 (i := 5) rfl rfl)⟩
theorem cdX4_append : Cond.code yX4_append cX4_append 2 none ∈ ax_all := (ax_t3 (i := 150) rfl rfl)
theorem okX4_init : ax_ok mX4_init := ⟨by decide +kernel, by decide +kernel, by decide +kernel, by decide +kernel, by decide, (ax_t1 (i := 5) rfl rfl)⟩
theorem cdX4_init : Cond.code yX4_init cX4_init 3 none ∈ ax_all := (ax_t1 (i := 183) rfl rfl)
theorem okX4_next : ax_ok mX4_next := ⟨by decide +kernel, by decide +kernel, by decide +kernel, by decide +kernel, by decide, (ax_t1 (i := 5) rfl rfl)⟩
theorem cdX4_next : Cond.code yX4_next cX4_next 1 (some .int) ∈ ax_all := (ax_t3 (i := 169) rfl rfl)
theorem okX4_parse : ax_ok mX4_parse := ⟨by decide +kernel, by decide +kernel, by decide +kernel, by decide +kernel, by decide, (ax_t1 (i := 5) rfl rfl)⟩
theorem cdX4_parse : Cond.code yX4_parse cX4_parse 3 (some (.object "DataMaker$Value")) ∈ ax_all := (ax_t3 (i := 161) rfl rfl)
theorem okX4_parseArgument : ax_ok mX4_parseArgument := ⟨by decide +kernel, by decide +kernel, by decide +kernel, by decide +kernel, by decide, (ax_t1 (i := 5) rfl rfl)⟩
theorem cdX4_parseArgument : Cond.code yX4_parseArgument cX4_parseArgument 4 (some .boolean) ∈ ax_all := (ax_t3 (i := 177) rfl rfl)
theorem okX4_parseValue : ax_ok mX4_parseValue := ⟨by decide +kernel, by decide +kernel, by decide +kernel, by decide +kernel, by decide, (ax_t1 (i := 5) rfl rfl)⟩
theorem cdX4_parseValue : Cond.code yX4_parseValue cX4_parseValue 6 (some (.object "DataMaker$Value")) ∈ ax_all := (ax_t3 (i := 165) rfl rfl)
theorem okX5_addNumber : ax_ok mX5_addNumber := ⟨by decide +kernel, by decide +kernel, by decide +kernel, by decide +kernel, by decide, (ax_t1 (i := 4) rfl rfl)⟩
theorem cdX5_addNumber : Cond.code yX5_addNumber cX5_addNumber 2 none ∈ ax_all := (ax_t2 (i := 90) rfl rfl)
theorem okX5_addPart : ax_ok mX5_addPart := ⟨by decide +kernel, by decide +kernel, by decide +kernel, by decide +kernel, by decide, (ax_t1 (i := 4) rfl rfl)⟩
theorem cdX5_addPart : Cond.code yX5_addPart cX5_addPart 2 none ∈ ax_all := (ax_t2 (i := 117) rfl rfl)
theorem okX5_begin : ax_ok mX5_begin := ⟨by decide +kernel, by decide +kernel, by decide +kernel, by decide +kernel, by decide, (ax_t1 (i := 4) rfl rfl)⟩
theorem cdX5_begin : Cond.code yX5_begin cX5_begin 3 none ∈ ax_all := (ax_t2 (i := 42) rfl rfl)
theorem okX5_clashesWith : ax_ok mX5_clashesWith := ⟨by decide +kernel, by decide +kernel, by decide +kernel, by decide +kernel, by decide, (ax_t1 (i := 4) rfl rfl)⟩
theorem cdX5_clashesWith : Cond.code yX5_clashesWith cX5_clashesWith 3 (some .boolean) ∈ ax_all := (ax_t2 (i := 110) rfl rfl)
theorem okX5_codeLength : ax_ok mX5_codeLength := ⟨by decide +kernel, by decide +kernel, by decide +kernel, by decide +kernel, by decide, (ax_t1 (i := 4) rfl rfl)⟩
theorem cdX5_codeLength : Cond.code yX5_codeLength cX5_codeLength 1 (some .int) ∈ ax_all := (ax_t3 (i := 209) rfl rfl)
theorem okX5_copyFrom : ax_ok mX5_copyFrom := ⟨by decide +kernel, by decide +kernel, by decide +kernel, by decide +kernel, by decide, (ax_t1 (i := 4) rfl rfl)⟩
theorem cdX5_copyFrom : Cond.code yX5_copyFrom cX5_copyFrom 3 none ∈ ax_all := (ax_t2 (i := 78) rfl rfl)
theorem okX5_differsFrom : ax_ok mX5_differsFrom := ⟨by decide +kernel, by decide +kernel, by decide +kernel, by decide +kernel, by decide, (ax_t1 (i := 4) rfl rfl)⟩
theorem cdX5_differsFrom : Cond.code yX5_differsFrom cX5_differsFrom 2 (some .int) ∈ ax_all := (ax_t3 (i := 190) rfl rfl)
theorem okX5_distance : ax_ok mX5_distance := ⟨by decide +kernel, by decide +kernel, by decide +kernel, by decide +kernel, by decide, (ax_t1 (i := 4) rfl rfl)⟩
theorem cdX5_distance : Cond.code yX5_distance cX5_distance 5 (some .int) ∈ ax_all := (ax_t3 (i := 193) rfl rfl)
theorem okX5_fits : ax_ok mX5_fits := ⟨by decide +kernel, by decide +kernel, by decide +kernel, by decide +kernel, by decide, (ax_t1 (i := 4) rfl rfl)⟩
theorem cdX5_fits : Cond.code yX5_fits cX5_fits 2 (some .boolean) ∈ ax_all := (ax_t2 (i := 66) rfl rfl)
theorem okX5_init : ax_ok mX5_init := ⟨by decide +kernel, by decide +kernel, by decide +kernel, by decide +kernel, by decide, (ax_t1 (i := 4) rfl rfl)⟩
theorem cdX5_init : Cond.code yX5_init cX5_init 1 none ∈ ax_all := (ax_t1 (i := 78) rfl rfl)
theorem okX5_joinInts : ax_ok mX5_joinInts := ⟨by decide +kernel, by decide +kernel, by decide +kernel, by decide +kernel, by decide, (ax_t1 (i := 4) rfl rfl)⟩
theorem cdX5_joinInts : Cond.code yX5_joinInts cX5_joinInts 4 none ∈ ax_all := (ax_t2 (i := 94) rfl rfl)
theorem okX5_partAt : ax_ok mX5_partAt := ⟨by decide +kernel, by decide +kernel, by decide +kernel, by decide +kernel, by decide, (ax_t1 (i := 4) rfl rfl)⟩
theorem cdX5_partAt : Cond.code yX5_partAt cX5_partAt 2 (some (.object "DataMaker$Value")) ∈ ax_all := (ax_t2 (i := 146) rfl rfl)
theorem okX5_partsDiffer : ax_ok mX5_partsDiffer := ⟨by decide +kernel, by decide +kernel, by decide +kernel, by decide +kernel, by decide, (ax_t1 (i := 4) rfl rfl)⟩
theorem cdX5_partsDiffer : Cond.code yX5_partsDiffer cX5_partsDiffer 1 (some .int) ∈ ax_all := (ax_t2 (i := 70) rfl rfl)
theorem okX6_addConstructor : ax_ok mX6_addConstructor := ⟨by decide +kernel, by decide +kernel, by decide +kernel, by decide +kernel, by decide, (ax_t1 (i := 1) rfl rfl)⟩
theorem cdX6_addConstructor : Cond.code yX6_addConstructor cX6_addConstructor 6 (some .int) ∈ ax_all := (ax_t3 (i := 23) rfl rfl)
theorem okX6_addType : ax_ok mX6_addType := ⟨by decide +kernel, by decide +kernel, by decide +kernel, by decide +kernel, by decide, (ax_t1 (i := 1) rfl rfl)⟩
theorem cdX6_addType : Cond.code yX6_addType cX6_addType 1 (some .int) ∈ ax_all := (ax_t2 (i := 239) rfl rfl)
theorem okX6_chosen : ax_ok mX6_chosen := ⟨by decide +kernel, by decide +kernel, by decide +kernel, by decide +kernel, by decide, (ax_t1 (i := 1) rfl rfl)⟩
theorem cdX6_chosen : Cond.code yX6_chosen cX6_chosen 1 (some (.object "DataMaker$Value")) ∈ ax_all := (ax_t3 (i := 204) rfl rfl)
theorem okX6_code : ax_ok mX6_code := ⟨by decide +kernel, by decide +kernel, by decide +kernel, by decide +kernel, by decide, (ax_t1 (i := 1) rfl rfl)⟩
theorem cdX6_code : Cond.code yX6_code cX6_code 3 (some .int) ∈ ax_all := (ax_t3 (i := 216) rfl rfl)
theorem okX6_count : ax_ok mX6_count := ⟨by decide +kernel, by decide +kernel, by decide +kernel, by decide +kernel, by decide, (ax_t1 (i := 1) rfl rfl)⟩
theorem cdX6_count : Cond.code yX6_count cX6_count 3 (some .int) ∈ ax_all := (ax_t3 (i := 70) rfl rfl)
theorem okX6_digest : ax_ok mX6_digest := ⟨by decide +kernel, by decide +kernel, by decide +kernel, by decide +kernel, by decide, (ax_t1 (i := 1) rfl rfl)⟩
theorem cdX6_digest : Cond.code yX6_digest cX6_digest 5 (some .long) ∈ ax_all := (ax_t2 (i := 125) rfl rfl)
theorem okX6_draw : ax_ok mX6_draw := ⟨by decide +kernel, by decide +kernel, by decide +kernel, by decide +kernel, by decide, (ax_t1 (i := 1) rfl rfl)⟩
theorem cdX6_draw : Cond.code yX6_draw cX6_draw 10 (some .int) ∈ ax_all := (ax_t3 (i := 119) rfl rfl)
theorem okX6_firstAgainst : ax_ok mX6_firstAgainst := ⟨by decide +kernel, by decide +kernel, by decide +kernel, by decide +kernel, by decide, (ax_t1 (i := 1) rfl rfl)⟩
theorem cdX6_firstAgainst : Cond.code yX6_firstAgainst cX6_firstAgainst 7 (some .int) ∈ ax_all := (ax_t3 (i := 95) rfl rfl)
theorem okX6_forgetValues : ax_ok mX6_forgetValues := ⟨by decide +kernel, by decide +kernel, by decide +kernel, by decide +kernel, by decide, (ax_t1 (i := 1) rfl rfl)⟩
theorem cdX6_forgetValues : Cond.code yX6_forgetValues cX6_forgetValues 1 none ∈ ax_all := (ax_t2 (i := 231) rfl rfl)
theorem okX6_height : ax_ok mX6_height := ⟨by decide +kernel, by decide +kernel, by decide +kernel, by decide +kernel, by decide, (ax_t1 (i := 1) rfl rfl)⟩
theorem cdX6_height : Cond.code yX6_height cX6_height 1 (some .int) ∈ ax_all := (ax_t3 (i := 231) rfl rfl)
theorem okX6_holds : ax_ok mX6_holds := ⟨by decide +kernel, by decide +kernel, by decide +kernel, by decide +kernel, by decide, (ax_t1 (i := 1) rfl rfl)⟩
theorem cdX6_holds : Cond.code yX6_holds cX6_holds 3 (some .boolean) ∈ ax_all := (ax_t4 (i := 5) rfl rfl)
theorem okX6_horizon : ax_ok mX6_horizon := ⟨by decide +kernel, by decide +kernel, by decide +kernel, by decide +kernel, by decide, (ax_t1 (i := 1) rfl rfl)⟩
theorem cdX6_horizon : Cond.code yX6_horizon cX6_horizon 1 (some .int) ∈ ax_all := (ax_t2 (i := 22) rfl rfl)
theorem okX6_init : ax_ok mX6_init := ⟨by decide +kernel, by decide +kernel, by decide +kernel, by decide +kernel, by decide, (ax_t1 (i := 1) rfl rfl)⟩
theorem cdX6_init : Cond.code yX6_init cX6_init 1 none ∈ ax_all := (ax_t1 (i := 22) rfl rfl)
theorem okX6_length : ax_ok mX6_length := ⟨by decide +kernel, by decide +kernel, by decide +kernel, by decide +kernel, by decide, (ax_t1 (i := 1) rfl rfl)⟩
theorem cdX6_length : Cond.code yX6_length cX6_length 1 (some .int) ∈ ax_all := (ax_t3 (i := 200) rfl rfl)
theorem okX6_mean : ax_ok mX6_mean := ⟨by decide +kernel, by decide +kernel, by decide +kernel, by decide +kernel, by decide, (ax_t1 (i := 1) rfl rfl)⟩
theorem cdX6_mean : Cond.code yX6_mean cX6_mean 2 (some .double) ∈ ax_all := (ax_t3 (i := 238) rfl rfl)
theorem okX6_number : ax_ok mX6_number := ⟨by decide +kernel, by decide +kernel, by decide +kernel, by decide +kernel, by decide, (ax_t1 (i := 1) rfl rfl)⟩
theorem cdX6_number : Cond.code yX6_number cX6_number 1 (some .int) ∈ ax_all := (ax_t3 (i := 224) rfl rfl)
theorem okX6_read : ax_ok mX6_read := ⟨by decide +kernel, by decide +kernel, by decide +kernel, by decide +kernel, by decide, (ax_t1 (i := 1) rfl rfl)⟩
theorem cdX6_read : Cond.code yX6_read cX6_read 4 (some .int) ∈ ax_all := (ax_t3 (i := 157) rfl rfl)
theorem okX6_reduce : ax_ok mX6_reduce := ⟨by decide +kernel, by decide +kernel, by decide +kernel, by decide +kernel, by decide, (ax_t1 (i := 1) rfl rfl)⟩
theorem cdX6_reduce : Cond.code yX6_reduce cX6_reduce 5 (some .int) ∈ ax_all := (ax_t4 (i := 52) rfl rfl)
theorem okX6_reduction : ax_ok mX6_reduction := ⟨by decide +kernel, by decide +kernel, by decide +kernel, by decide +kernel, by decide, (ax_t1 (i := 1) rfl rfl)⟩
theorem cdX6_reduction : Cond.code yX6_reduction cX6_reduction 3 (some .int) ∈ ax_all := (ax_t4 (i := 43) rfl rfl)
theorem okX6_reductionCount : ax_ok mX6_reductionCount := ⟨by decide +kernel, by decide +kernel, by decide +kernel, by decide +kernel, by decide, (ax_t1 (i := 1) rfl rfl)⟩
theorem cdX6_reductionCount : Cond.code yX6_reductionCount cX6_reductionCount 1 (some .int) ∈ ax_all := (ax_t4 (i := 12) rfl rfl)
theorem okX6_requireKnown : ax_ok mX6_requireKnown := ⟨by decide +kernel, by decide +kernel, by decide +kernel, by decide +kernel, by decide, (ax_t1 (i := 1) rfl rfl)⟩
theorem cdX6_requireKnown : Cond.code yX6_requireKnown cX6_requireKnown 2 none ∈ ax_all := (ax_t3 (i := 79) rfl rfl)
theorem okX6_requireProperty : ax_ok mX6_requireProperty := ⟨by decide +kernel, by decide +kernel, by decide +kernel, by decide +kernel, by decide, (ax_t1 (i := 1) rfl rfl)⟩
theorem cdX6_requireProperty : Cond.code yX6_requireProperty cX6_requireProperty 2 none ∈ ax_all := (ax_t3 (i := 99) rfl rfl)
theorem okX6_requireSize : ax_ok mX6_requireSize := ⟨by decide +kernel, by decide +kernel, by decide +kernel, by decide +kernel, by decide, (ax_t1 (i := 1) rfl rfl)⟩
theorem cdX6_requireSize : Cond.code yX6_requireSize cX6_requireSize 2 none ∈ ax_all := (ax_t3 (i := 74) rfl rfl)
theorem okX6_requireType : ax_ok mX6_requireType := ⟨by decide +kernel, by decide +kernel, by decide +kernel, by decide +kernel, by decide, (ax_t1 (i := 1) rfl rfl)⟩
theorem cdX6_requireType : Cond.code yX6_requireType cX6_requireType 2 none ∈ ax_all := (ax_t3 (i := 27) rfl rfl)
theorem okX6_select : ax_ok mX6_select := ⟨by decide +kernel, by decide +kernel, by decide +kernel, by decide +kernel, by decide, (ax_t1 (i := 1) rfl rfl)⟩
theorem cdX6_select : Cond.code yX6_select cX6_select 4 (some .int) ∈ ax_all := (ax_t3 (i := 109) rfl rfl)
theorem okX6_setRange : ax_ok mX6_setRange := ⟨by decide +kernel, by decide +kernel, by decide +kernel, by decide +kernel, by decide, (ax_t1 (i := 1) rfl rfl)⟩
theorem cdX6_setRange : Cond.code yX6_setRange cX6_setRange 4 (some .boolean) ∈ ax_all := (ax_t2 (i := 158) rfl rfl)
theorem okX6_tell : ax_ok mX6_tell := ⟨by decide +kernel, by decide +kernel, by decide +kernel, by decide +kernel, by decide, (ax_t1 (i := 1) rfl rfl)⟩
theorem cdX6_tell : Cond.code yX6_tell cX6_tell 4 (some .int) ∈ ax_all := (ax_t3 (i := 144) rfl rfl)
theorem okX6_total : ax_ok mX6_total := ⟨by decide +kernel, by decide +kernel, by decide +kernel, by decide +kernel, by decide, (ax_t1 (i := 1) rfl rfl)⟩
theorem cdX6_total : Cond.code yX6_total cX6_total 3 (some .int) ∈ ax_all := (ax_t3 (i := 88) rfl rfl)
theorem okX6_typeCount : ax_ok mX6_typeCount := ⟨by decide +kernel, by decide +kernel, by decide +kernel, by decide +kernel, by decide, (ax_t1 (i := 1) rfl rfl)⟩
theorem cdX6_typeCount : Cond.code yX6_typeCount cX6_typeCount 1 (some .int) ∈ ax_all := (ax_t2 (i := 18) rfl rfl)
theorem okX7_add : ax_ok mX7_add := ⟨by decide +kernel, by decide +kernel, by decide +kernel, by decide +kernel, by decide, (ax_t1 (i := 8) rfl rfl)⟩
theorem cdX7_add : Cond.code yX7_add cX7_add 4 none ∈ ax_all := (ax_t5 (i := 74) rfl rfl)
theorem okX7_addConstructor : ax_ok mX7_addConstructor := ⟨by decide +kernel, by decide +kernel, by decide +kernel, by decide +kernel, by decide, (ax_t1 (i := 8) rfl rfl)⟩
theorem cdX7_addConstructor : Cond.code yX7_addConstructor cX7_addConstructor 10 (some .int) ∈ ax_all := (ax_t4 (i := 165) rfl rfl)
theorem okX7_addType : ax_ok mX7_addType := ⟨by decide +kernel, by decide +kernel, by decide +kernel, by decide +kernel, by decide, (ax_t1 (i := 8) rfl rfl)⟩
theorem cdX7_addType : Cond.code yX7_addType cX7_addType 1 (some .int) ∈ ax_all := (ax_t4 (i := 157) rfl rfl)
theorem okX7_asks : ax_ok mX7_asks := ⟨by decide +kernel, by decide +kernel, by decide +kernel, by decide +kernel, by decide, (ax_t1 (i := 8) rfl rfl)⟩
theorem cdX7_asks : Cond.code yX7_asks cX7_asks 3 (some .boolean) ∈ ax_all := (ax_t4 (i := 228) rfl rfl)
theorem okX7_change : ax_ok mX7_change := ⟨by decide +kernel, by decide +kernel, by decide +kernel, by decide +kernel, by decide, (ax_t1 (i := 8) rfl rfl)⟩
theorem cdX7_change : Cond.code yX7_change cX7_change 1 none ∈ ax_all := (ax_t4 (i := 153) rfl rfl)
theorem okX7_choices : ax_ok mX7_choices := ⟨by decide +kernel, by decide +kernel, by decide +kernel, by decide +kernel, by decide, (ax_t1 (i := 8) rfl rfl)⟩
theorem cdX7_choices : Cond.code yX7_choices cX7_choices 6 (some (.array (.array .int))) ∈ ax_all := (ax_t4 (i := 192) rfl rfl)
theorem okX7_choose : ax_ok mX7_choose := ⟨by decide +kernel, by decide +kernel, by decide +kernel, by decide +kernel, by decide, (ax_t1 (i := 8) rfl rfl)⟩
theorem cdX7_choose : Cond.code yX7_choose cX7_choose 3 none ∈ ax_all := (ax_t5 (i := 12) rfl rfl)
theorem okX7_code : ax_ok mX7_code := ⟨by decide +kernel, by decide +kernel, by decide +kernel, by decide +kernel, by decide, (ax_t1 (i := 8) rfl rfl)⟩
theorem cdX7_code : Cond.code yX7_code cX7_code 3 (some .int) ∈ ax_all := (ax_t5 (i := 46) rfl rfl)
theorem okX7_constructorsIn : ax_ok mX7_constructorsIn := ⟨by decide +kernel, by decide +kernel, by decide +kernel, by decide +kernel, by decide, (ax_t1 (i := 8) rfl rfl)⟩
theorem cdX7_constructorsIn : Cond.code yX7_constructorsIn cX7_constructorsIn 3 (some .int) ∈ ax_all := (ax_t4 (i := 199) rfl rfl)
theorem okX7_count : ax_ok mX7_count := ⟨by decide +kernel, by decide +kernel, by decide +kernel, by decide +kernel, by decide, (ax_t1 (i := 8) rfl rfl)⟩
theorem cdX7_count : Cond.code yX7_count cX7_count 3 (some .int) ∈ ax_all := (ax_t4 (i := 224) rfl rfl)
theorem okX7_current : ax_ok mX7_current := ⟨by decide +kernel, by decide +kernel, by decide +kernel, by decide +kernel, by decide, (ax_t1 (i := 8) rfl rfl)⟩
theorem cdX7_current : Cond.code yX7_current cX7_current 1 (some .int) ∈ ax_all := (ax_t5 (i := 42) rfl rfl)
theorem okX7_digest : ax_ok mX7_digest := ⟨by decide +kernel, by decide +kernel, by decide +kernel, by decide +kernel, by decide, (ax_t1 (i := 8) rfl rfl)⟩
theorem cdX7_digest : Cond.code yX7_digest cX7_digest 7 (some .long) ∈ ax_all := (ax_t5 (i := 86) rfl rfl)
theorem okX7_draw : ax_ok mX7_draw := ⟨by decide +kernel, by decide +kernel, by decide +kernel, by decide +kernel, by decide, (ax_t1 (i := 8) rfl rfl)⟩
theorem cdX7_draw : Cond.code yX7_draw cX7_draw 9 (some .int) ∈ ax_all := (ax_t5 (i := 16) rfl rfl)
theorem okX7_end : ax_ok mX7_end := ⟨by decide +kernel, by decide +kernel, by decide +kernel, by decide +kernel, by decide, (ax_t1 (i := 8) rfl rfl)⟩
theorem cdX7_end : Cond.code yX7_end cX7_end 6 (some .int) ∈ ax_all := (ax_t4 (i := 220) rfl rfl)
theorem okX7_fail : ax_ok mX7_fail := ⟨by decide +kernel, by decide +kernel, by decide +kernel, by decide +kernel, by decide, (ax_t1 (i := 8) rfl rfl)⟩
theorem cdX7_fail : Cond.code yX7_fail cX7_fail 2 (some .int) ∈ ax_all := (ax_t4 (i := 161) rfl rfl)
theorem okX7_find : ax_ok mX7_find := ⟨by decide +kernel, by decide +kernel, by decide +kernel, by decide +kernel, by decide, (ax_t1 (i := 8) rfl rfl)⟩
theorem cdX7_find : Cond.code yX7_find cX7_find 8 (some .int) ∈ ax_all := (ax_t5 (i := 30) rfl rfl)
theorem okX7_findReductions : ax_ok mX7_findReductions := ⟨by decide +kernel, by decide +kernel, by decide +kernel, by decide +kernel, by decide, (ax_t1 (i := 8) rfl rfl)⟩
theorem cdX7_findReductions : Cond.code yX7_findReductions cX7_findReductions 6 none ∈ ax_all := (ax_t5 (i := 70) rfl rfl)
theorem okX7_firstAgainst : ax_ok mX7_firstAgainst := ⟨by decide +kernel, by decide +kernel, by decide +kernel, by decide +kernel, by decide, (ax_t1 (i := 8) rfl rfl)⟩
theorem cdX7_firstAgainst : Cond.code yX7_firstAgainst cX7_firstAgainst 6 (some .int) ∈ ax_all := (ax_t5 (i := 0) rfl rfl)
theorem okX7_has : ax_ok mX7_has := ⟨by decide +kernel, by decide +kernel, by decide +kernel, by decide +kernel, by decide, (ax_t1 (i := 8) rfl rfl)⟩
theorem cdX7_has : Cond.code yX7_has cX7_has 1 (some .boolean) ∈ ax_all := (ax_t5 (i := 38) rfl rfl)
theorem okX7_height : ax_ok mX7_height := ⟨by decide +kernel, by decide +kernel, by decide +kernel, by decide +kernel, by decide, (ax_t1 (i := 8) rfl rfl)⟩
theorem cdX7_height : Cond.code yX7_height cX7_height 1 (some .int) ∈ ax_all := (ax_t5 (i := 54) rfl rfl)
theorem okX7_holds : ax_ok mX7_holds := ⟨by decide +kernel, by decide +kernel, by decide +kernel, by decide +kernel, by decide, (ax_t1 (i := 8) rfl rfl)⟩
theorem cdX7_holds : Cond.code yX7_holds cX7_holds 2 (some .boolean) ∈ ax_all := (ax_t5 (i := 62) rfl rfl)
theorem okX7_horizon : ax_ok mX7_horizon := ⟨by decide +kernel, by decide +kernel, by decide +kernel, by decide +kernel, by decide, (ax_t1 (i := 8) rfl rfl)⟩
theorem cdX7_horizon : Cond.code yX7_horizon cX7_horizon 1 (some .int) ∈ ax_all := (ax_t4 (i := 180) rfl rfl)
theorem okX7_init : ax_ok mX7_init := ⟨by decide +kernel, by decide +kernel, by decide +kernel, by decide +kernel, by decide, (ax_t1 (i := 8) rfl rfl)⟩
theorem cdX7_init : Cond.code yX7_init cX7_init 1 none ∈ ax_all := (ax_t4 (i := 62) rfl rfl)
theorem okX7_isIn : ax_ok mX7_isIn := ⟨by decide +kernel, by decide +kernel, by decide +kernel, by decide +kernel, by decide, (ax_t1 (i := 8) rfl rfl)⟩
theorem cdX7_isIn : Cond.code yX7_isIn cX7_isIn 3 (some .boolean) ∈ ax_all := (ax_t4 (i := 172) rfl rfl)
theorem okX7_isTrue : ax_ok mX7_isTrue := ⟨by decide +kernel, by decide +kernel, by decide +kernel, by decide +kernel, by decide, (ax_t1 (i := 8) rfl rfl)⟩
theorem cdX7_isTrue : Cond.code yX7_isTrue cX7_isTrue 15 (some .boolean) ∈ ax_all := (ax_t4 (i := 216) rfl rfl)
theorem okX7_isTrueOf : ax_ok mX7_isTrueOf := ⟨by decide +kernel, by decide +kernel, by decide +kernel, by decide +kernel, by decide, (ax_t1 (i := 8) rfl rfl)⟩
theorem cdX7_isTrueOf : Cond.code yX7_isTrueOf cX7_isTrueOf 10 (some .boolean) ∈ ax_all := (ax_t5 (i := 4) rfl rfl)
theorem okX7_isType : ax_ok mX7_isType := ⟨by decide +kernel, by decide +kernel, by decide +kernel, by decide +kernel, by decide, (ax_t1 (i := 8) rfl rfl)⟩
theorem cdX7_isType : Cond.code yX7_isType cX7_isType 2 (some .boolean) ∈ ax_all := (ax_t4 (i := 169) rfl rfl)
theorem okX7_length : ax_ok mX7_length := ⟨by decide +kernel, by decide +kernel, by decide +kernel, by decide +kernel, by decide, (ax_t1 (i := 8) rfl rfl)⟩
theorem cdX7_length : Cond.code yX7_length cX7_length 1 (some .int) ∈ ax_all := (ax_t5 (i := 34) rfl rfl)
theorem okX7_look : ax_ok mX7_look := ⟨by decide +kernel, by decide +kernel, by decide +kernel, by decide +kernel, by decide, (ax_t1 (i := 8) rfl rfl)⟩
theorem cdX7_look : Cond.code yX7_look cX7_look 12 (some .int) ∈ ax_all := (ax_t4 (i := 206) rfl rfl)
theorem okX7_make : ax_ok mX7_make := ⟨by decide +kernel, by decide +kernel, by decide +kernel, by decide +kernel, by decide, (ax_t1 (i := 8) rfl rfl)⟩
theorem cdX7_make : Cond.code yX7_make cX7_make 5 none ∈ ax_all := (ax_t4 (i := 184) rfl rfl)
theorem okX7_mean : ax_ok mX7_mean := ⟨by decide +kernel, by decide +kernel, by decide +kernel, by decide +kernel, by decide, (ax_t1 (i := 8) rfl rfl)⟩
theorem cdX7_mean : Cond.code yX7_mean cX7_mean 7 (some .double) ∈ ax_all := (ax_t5 (i := 58) rfl rfl)
theorem okX7_number : ax_ok mX7_number := ⟨by decide +kernel, by decide +kernel, by decide +kernel, by decide +kernel, by decide, (ax_t1 (i := 8) rfl rfl)⟩
theorem cdX7_number : Cond.code yX7_number cX7_number 1 (some .int) ∈ ax_all := (ax_t5 (i := 50) rfl rfl)
theorem okX7_read : ax_ok mX7_read := ⟨by decide +kernel, by decide +kernel, by decide +kernel, by decide +kernel, by decide, (ax_t1 (i := 8) rfl rfl)⟩
theorem cdX7_read : Cond.code yX7_read cX7_read 5 (some .int) ∈ ax_all := (ax_t5 (i := 26) rfl rfl)
theorem okX7_reduce : ax_ok mX7_reduce := ⟨by decide +kernel, by decide +kernel, by decide +kernel, by decide +kernel, by decide, (ax_t1 (i := 8) rfl rfl)⟩
theorem cdX7_reduce : Cond.code yX7_reduce cX7_reduce 6 (some .int) ∈ ax_all := (ax_t5 (i := 82) rfl rfl)
theorem okX7_reduction : ax_ok mX7_reduction := ⟨by decide +kernel, by decide +kernel, by decide +kernel, by decide +kernel, by decide, (ax_t1 (i := 8) rfl rfl)⟩
theorem cdX7_reduction : Cond.code yX7_reduction cX7_reduction 2 (some .int) ∈ ax_all := (ax_t5 (i := 78) rfl rfl)
theorem okX7_reductionCount : ax_ok mX7_reductionCount := ⟨by decide +kernel, by decide +kernel, by decide +kernel, by decide +kernel, by decide, (ax_t1 (i := 8) rfl rfl)⟩
theorem cdX7_reductionCount : Cond.code yX7_reductionCount cX7_reductionCount 1 (some .int) ∈ ax_all := (ax_t5 (i := 66) rfl rfl)
theorem okX7_select : ax_ok mX7_select := ⟨by decide +kernel, by decide +kernel, by decide +kernel, by decide +kernel, by decide, (ax_t1 (i := 8) rfl rfl)⟩
theorem cdX7_select : Cond.code yX7_select cX7_select 3 (some .int) ∈ ax_all := (ax_t5 (i := 8) rfl rfl)
theorem okX7_setRange : ax_ok mX7_setRange := ⟨by decide +kernel, by decide +kernel, by decide +kernel, by decide +kernel, by decide, (ax_t1 (i := 8) rfl rfl)⟩
theorem cdX7_setRange : Cond.code yX7_setRange cX7_setRange 4 (some .boolean) ∈ ax_all := (ax_t4 (i := 149) rfl rfl)
theorem okX7_tell : ax_ok mX7_tell := ⟨by decide +kernel, by decide +kernel, by decide +kernel, by decide +kernel, by decide, (ax_t1 (i := 8) rfl rfl)⟩
theorem cdX7_tell : Cond.code yX7_tell cX7_tell 2 (some .int) ∈ ax_all := (ax_t5 (i := 22) rfl rfl)
theorem okX7_thrown : ax_ok mX7_thrown := ⟨by decide +kernel, by decide +kernel, by decide +kernel, by decide +kernel, by decide, (ax_t1 (i := 8) rfl rfl)⟩
theorem cdX7_thrown : Cond.code yX7_thrown cX7_thrown 1 (some .int) ∈ ax_all := (ax_t4 (i := 145) rfl rfl)
theorem okX7_total : ax_ok mX7_total := ⟨by decide +kernel, by decide +kernel, by decide +kernel, by decide +kernel, by decide, (ax_t1 (i := 8) rfl rfl)⟩
theorem cdX7_total : Cond.code yX7_total cX7_total 3 (some .int) ∈ ax_all := (ax_t4 (i := 236) rfl rfl)
theorem okX7_typeCount : ax_ok mX7_typeCount := ⟨by decide +kernel, by decide +kernel, by decide +kernel, by decide +kernel, by decide, (ax_t1 (i := 8) rfl rfl)⟩
theorem cdX7_typeCount : Cond.code yX7_typeCount cX7_typeCount 1 (some .int) ∈ ax_all := (ax_t4 (i := 176) rfl rfl)
theorem okX7_upTo : ax_ok mX7_upTo := ⟨by decide +kernel, by decide +kernel, by decide +kernel, by decide +kernel, by decide, (ax_t1 (i := 8) rfl rfl)⟩
theorem cdX7_upTo : Cond.code yX7_upTo cX7_upTo 5 (some .int) ∈ ax_all := (ax_t4 (i := 232) rfl rfl)
theorem okX7_value : ax_ok mX7_value := ⟨by decide +kernel, by decide +kernel, by decide +kernel, by decide +kernel, by decide, (ax_t1 (i := 8) rfl rfl)⟩
theorem cdX7_value : Cond.code yX7_value cX7_value 3 (some .int) ∈ ax_all := (ax_t4 (i := 196) rfl rfl)
theorem okX7_write : ax_ok mX7_write := ⟨by decide +kernel, by decide +kernel, by decide +kernel, by decide +kernel, by decide, (ax_t1 (i := 8) rfl rfl)⟩
theorem cdX7_write : Cond.code yX7_write cX7_write 21 (some .boolean) ∈ ax_all := (ax_t4 (i := 188) rfl rfl)
theorem flX0_9 : Cond.fieldLink RX0 9 (TX0 0).1 (TX0 0).2.1 (TX0 0).2.2.1 ∈ ax_all := (ax_t1 (i := 213) rfl rfl)
theorem fkX0_9 : ax_fk RX0 9 0 0 := ⟨RX0, TX0, 2, rfl, by decide, flX0_9, inA0⟩
theorem flX0_15 : Cond.fieldLink RX0 15 (TX0 1).1 (TX0 1).2.1 (TX0 1).2.2.1 ∈ ax_all := (ax_t1 (i := 214) rfl rfl)
theorem fkX0_15 : ax_fk RX0 15 0 1 := ⟨RX0, TX0, 2, rfl, by decide, flX0_15, inA0⟩
theorem flX0_23 : Cond.fieldLink RX0 23 (TX5 2).1 (TX5 2).2.1 (TX5 2).2.2.1 ∈ ax_all := (ax_t1 (i := 89) rfl rfl)
theorem fkX0_23 : ax_fk RX0 23 5 2 := ⟨RX5, TX5, 16, rfl, by decide, flX0_23, inA5⟩
theorem flX0_32 : Cond.fieldLink RX0 32 (TX5 3).1 (TX5 3).2.1 (TX5 3).2.2.1 ∈ ax_all := (ax_t1 (i := 92) rfl rfl)
theorem fkX0_32 : ax_fk RX0 32 5 3 := ⟨RX5, TX5, 16, rfl, by decide, flX0_32, inA5⟩
theorem flX0_39 : Cond.fieldLink RX0 39 (TX5 4).1 (TX5 4).2.1 (TX5 4).2.2.1 ∈ ax_all := (ax_t1 (i := 95) rfl rfl)
theorem fkX0_39 : ax_fk RX0 39 5 4 := ⟨RX5, TX5, 16, rfl, by decide, flX0_39, inA5⟩
theorem flX1_9 : Cond.fieldLink RX1 9 (TX1 0).1 (TX1 0).2.1 (TX1 0).2.2.1 ∈ ax_all := (ax_t1 (i := 32) rfl rfl)
theorem fkX1_9 : ax_fk RX1 9 1 0 := ⟨RX1, TX1, 8, rfl, by decide, flX1_9, inA1⟩
theorem flX1_15 : Cond.fieldLink RX1 15 (TX1 1).1 (TX1 1).2.1 (TX1 1).2.2.1 ∈ ax_all := (ax_t1 (i := 36) rfl rfl)
theorem fkX1_15 : ax_fk RX1 15 1 1 := ⟨RX1, TX1, 8, rfl, by decide, flX1_15, inA1⟩
theorem flX1_18 : Cond.fieldLink RX1 18 (TX1 2).1 (TX1 2).2.1 (TX1 2).2.2.1 ∈ ax_all := (ax_t1 (i := 40) rfl rfl)
theorem fkX1_18 : ax_fk RX1 18 1 2 := ⟨RX1, TX1, 8, rfl, by decide, flX1_18, inA1⟩
theorem flX1_21 : Cond.fieldLink RX1 21 (TX1 3).1 (TX1 3).2.1 (TX1 3).2.2.1 ∈ ax_all := (ax_t1 (i := 42) rfl rfl)
theorem fkX1_21 : ax_fk RX1 21 1 3 := ⟨RX1, TX1, 8, rfl, by decide, flX1_21, inA1⟩
theorem flX1_24 : Cond.fieldLink RX1 24 (TX1 4).1 (TX1 4).2.1 (TX1 4).2.2.1 ∈ ax_all := (ax_t1 (i := 45) rfl rfl)
theorem fkX1_24 : ax_fk RX1 24 1 4 := ⟨RX1, TX1, 8, rfl, by decide, flX1_24, inA1⟩
theorem flX1_28 : Cond.fieldLink RX1 28 (TX1 5).1 (TX1 5).2.1 (TX1 5).2.2.1 ∈ ax_all := (ax_t1 (i := 46) rfl rfl)
theorem fkX1_28 : ax_fk RX1 28 1 5 := ⟨RX1, TX1, 8, rfl, by decide, flX1_28, inA1⟩
theorem flX1_31 : Cond.fieldLink RX1 31 (TX1 6).1 (TX1 6).2.1 (TX1 6).2.2.1 ∈ ax_all := (ax_t1 (i := 47) rfl rfl)
theorem fkX1_31 : ax_fk RX1 31 1 6 := ⟨RX1, TX1, 8, rfl, by decide, flX1_31, inA1⟩
theorem flX1_34 : Cond.fieldLink RX1 34 (TX1 7).1 (TX1 7).2.1 (TX1 7).2.2.1 ∈ ax_all := (ax_t1 (i := 48) rfl rfl)
theorem fkX1_34 : ax_fk RX1 34 1 7 := ⟨RX1, TX1, 8, rfl, by decide, flX1_34, inA1⟩
theorem flX2_11 : Cond.fieldLink RX2 11 (TX2 0).1 (TX2 0).2.1 (TX2 0).2.2.1 ∈ ax_all := (ax_t1 (i := 228) rfl rfl)
theorem fkX2_11 : ax_fk RX2 11 2 0 := ⟨RX2, TX2, 2, rfl, by decide, flX2_11, inA2⟩
theorem flX2_17 : Cond.fieldLink RX2 17 (TX2 1).1 (TX2 1).2.1 (TX2 1).2.2.1 ∈ ax_all := (ax_t1 (i := 229) rfl rfl)
theorem fkX2_17 : ax_fk RX2 17 2 1 := ⟨RX2, TX2, 2, rfl, by decide, flX2_17, inA2⟩
theorem flX2_29 : Cond.fieldLink RX2 29 (TX5 0).1 (TX5 0).2.1 (TX5 0).2.2.1 ∈ ax_all := (ax_t1 (i := 83) rfl rfl)
theorem fkX2_29 : ax_fk RX2 29 5 0 := ⟨RX5, TX5, 16, rfl, by decide, flX2_29, inA5⟩
theorem flX2_36 : Cond.fieldLink RX2 36 (TX5 6).1 (TX5 6).2.1 (TX5 6).2.2.1 ∈ ax_all := (ax_t1 (i := 99) rfl rfl)
theorem fkX2_36 : ax_fk RX2 36 5 6 := ⟨RX5, TX5, 16, rfl, by decide, flX2_36, inA5⟩
theorem flX2_45 : Cond.fieldLink RX2 45 (TX5 1).1 (TX5 1).2.1 (TX5 1).2.2.1 ∈ ax_all := (ax_t1 (i := 85) rfl rfl)
theorem fkX2_45 : ax_fk RX2 45 5 1 := ⟨RX5, TX5, 16, rfl, by decide, flX2_45, inA5⟩
theorem flX3_9 : Cond.fieldLink RX3 9 (TX3 0).1 (TX3 0).2.1 (TX3 0).2.2.1 ∈ ax_all := (ax_t1 (i := 146) rfl rfl)
theorem fkX3_9 : ax_fk RX3 9 3 0 := ⟨RX3, TX3, 10, rfl, by decide, flX3_9, inA3⟩
theorem flX3_17 : Cond.fieldLink RX3 17 (TX3 1).1 (TX3 1).2.1 (TX3 1).2.2.1 ∈ ax_all := (ax_t1 (i := 147) rfl rfl)
theorem fkX3_17 : ax_fk RX3 17 3 1 := ⟨RX3, TX3, 10, rfl, by decide, flX3_17, inA3⟩
theorem flX3_22 : Cond.fieldLink RX3 22 (TX3 2).1 (TX3 2).2.1 (TX3 2).2.2.1 ∈ ax_all := (ax_t1 (i := 148) rfl rfl)
theorem fkX3_22 : ax_fk RX3 22 3 2 := ⟨RX3, TX3, 10, rfl, by decide, flX3_22, inA3⟩
theorem flX3_25 : Cond.fieldLink RX3 25 (TX3 3).1 (TX3 3).2.1 (TX3 3).2.2.1 ∈ ax_all := (ax_t1 (i := 149) rfl rfl)
theorem fkX3_25 : ax_fk RX3 25 3 3 := ⟨RX3, TX3, 10, rfl, by decide, flX3_25, inA3⟩
theorem flX3_29 : Cond.fieldLink RX3 29 (TX3 4).1 (TX3 4).2.1 (TX3 4).2.2.1 ∈ ax_all := (ax_t1 (i := 150) rfl rfl)
theorem fkX3_29 : ax_fk RX3 29 3 4 := ⟨RX3, TX3, 10, rfl, by decide, flX3_29, inA3⟩
theorem flX3_32 : Cond.fieldLink RX3 32 (TX3 5).1 (TX3 5).2.1 (TX3 5).2.2.1 ∈ ax_all := (ax_t1 (i := 151) rfl rfl)
theorem fkX3_32 : ax_fk RX3 32 3 5 := ⟨RX3, TX3, 10, rfl, by decide, flX3_32, inA3⟩
theorem flX3_35 : Cond.fieldLink RX3 35 (TX3 6).1 (TX3 6).2.1 (TX3 6).2.2.1 ∈ ax_all := (ax_t1 (i := 152) rfl rfl)
theorem fkX3_35 : ax_fk RX3 35 3 6 := ⟨RX3, TX3, 10, rfl, by decide, flX3_35, inA3⟩
theorem flX3_39 : Cond.fieldLink RX3 39 (TX3 7).1 (TX3 7).2.1 (TX3 7).2.2.1 ∈ ax_all := (ax_t1 (i := 153) rfl rfl)
theorem fkX3_39 : ax_fk RX3 39 3 7 := ⟨RX3, TX3, 10, rfl, by decide, flX3_39, inA3⟩
theorem flX3_43 : Cond.fieldLink RX3 43 (TX3 8).1 (TX3 8).2.1 (TX3 8).2.2.1 ∈ ax_all := (ax_t1 (i := 154) rfl rfl)
theorem fkX3_43 : ax_fk RX3 43 3 8 := ⟨RX3, TX3, 10, rfl, by decide, flX3_43, inA3⟩
theorem flX3_46 : Cond.fieldLink RX3 46 (TX3 9).1 (TX3 9).2.1 (TX3 9).2.2.1 ∈ ax_all := (ax_t1 (i := 156) rfl rfl)
theorem fkX3_46 : ax_fk RX3 46 3 9 := ⟨RX3, TX3, 10, rfl, by decide, flX3_46, inA3⟩
theorem flX3_49 : Cond.fieldLink RX3 49 (TX5 0).1 (TX5 0).2.1 (TX5 0).2.2.1 ∈ ax_all := (ax_t1 (i := 82) rfl rfl)
theorem fkX3_49 : ax_fk RX3 49 5 0 := ⟨RX5, TX5, 16, rfl, by decide, flX3_49, inA5⟩
theorem flX3_52 : Cond.fieldLink RX3 52 (TX5 6).1 (TX5 6).2.1 (TX5 6).2.2.1 ∈ ax_all := (ax_t1 (i := 98) rfl rfl)
theorem fkX3_52 : ax_fk RX3 52 5 6 := ⟨RX5, TX5, 16, rfl, by decide, flX3_52, inA5⟩
theorem flX3_74 : Cond.fieldLink RX3 74 (TX1 3).1 (TX1 3).2.1 (TX1 3).2.2.1 ∈ ax_all := (ax_t1 (i := 44) rfl rfl)
theorem fkX3_74 : ax_fk RX3 74 1 3 := ⟨RX1, TX1, 8, rfl, by decide, flX3_74, inA1⟩
theorem flX3_91 : Cond.fieldLink RX3 91 (TX5 2).1 (TX5 2).2.1 (TX5 2).2.2.1 ∈ ax_all := (ax_t1 (i := 90) rfl rfl)
theorem fkX3_91 : ax_fk RX3 91 5 2 := ⟨RX5, TX5, 16, rfl, by decide, flX3_91, inA5⟩
theorem flX3_94 : Cond.fieldLink RX3 94 (TX5 3).1 (TX5 3).2.1 (TX5 3).2.2.1 ∈ ax_all := (ax_t1 (i := 93) rfl rfl)
theorem fkX3_94 : ax_fk RX3 94 5 3 := ⟨RX5, TX5, 16, rfl, by decide, flX3_94, inA5⟩
theorem flX3_125 : Cond.fieldLink RX3 125 (TX1 0).1 (TX1 0).2.1 (TX1 0).2.2.1 ∈ ax_all := (ax_t1 (i := 35) rfl rfl)
theorem fkX3_125 : ax_fk RX3 125 1 0 := ⟨RX1, TX1, 8, rfl, by decide, flX3_125, inA1⟩
theorem flX3_128 : Cond.fieldLink RX3 128 (TX1 1).1 (TX1 1).2.1 (TX1 1).2.2.1 ∈ ax_all := (ax_t1 (i := 39) rfl rfl)
theorem fkX3_128 : ax_fk RX3 128 1 1 := ⟨RX1, TX1, 8, rfl, by decide, flX3_128, inA1⟩
theorem flX3_148 : Cond.fieldLink RX3 148 (TX5 1).1 (TX5 1).2.1 (TX5 1).2.2.1 ∈ ax_all := (ax_t1 (i := 87) rfl rfl)
theorem fkX3_148 : ax_fk RX3 148 5 1 := ⟨RX5, TX5, 16, rfl, by decide, flX3_148, inA5⟩
theorem flX4_9 : Cond.fieldLink RX4 9 (TX4 0).1 (TX4 0).2.1 (TX4 0).2.2.1 ∈ ax_all := (ax_t1 (i := 187) rfl rfl)
theorem fkX4_9 : ax_fk RX4 9 4 0 := ⟨RX4, TX4, 6, rfl, by decide, flX4_9, inA4⟩
theorem flX4_15 : Cond.fieldLink RX4 15 (TX4 1).1 (TX4 1).2.1 (TX4 1).2.2.1 ∈ ax_all := (ax_t1 (i := 188) rfl rfl)
theorem fkX4_15 : ax_fk RX4 15 4 1 := ⟨RX4, TX4, 6, rfl, by decide, flX4_15, inA4⟩
theorem flX4_21 : Cond.fieldLink RX4 21 (TX4 2).1 (TX4 2).2.1 (TX4 2).2.2.1 ∈ ax_all := (ax_t1 (i := 189) rfl rfl)
theorem fkX4_21 : ax_fk RX4 21 4 2 := ⟨RX4, TX4, 6, rfl, by decide, flX4_21, inA4⟩
theorem flX4_26 : Cond.fieldLink RX4 26 (TX4 3).1 (TX4 3).2.1 (TX4 3).2.2.1 ∈ ax_all := (ax_t1 (i := 190) rfl rfl)
theorem fkX4_26 : ax_fk RX4 26 4 3 := ⟨RX4, TX4, 6, rfl, by decide, flX4_26, inA4⟩
theorem flX4_30 : Cond.fieldLink RX4 30 (TX4 4).1 (TX4 4).2.1 (TX4 4).2.2.1 ∈ ax_all := (ax_t1 (i := 191) rfl rfl)
theorem fkX4_30 : ax_fk RX4 30 4 4 := ⟨RX4, TX4, 6, rfl, by decide, flX4_30, inA4⟩
theorem flX4_33 : Cond.fieldLink RX4 33 (TX4 5).1 (TX4 5).2.1 (TX4 5).2.2.1 ∈ ax_all := (ax_t1 (i := 192) rfl rfl)
theorem fkX4_33 : ax_fk RX4 33 4 5 := ⟨RX4, TX4, 6, rfl, by decide, flX4_33, inA4⟩
theorem flX4_72 : Cond.fieldLink RX4 72 (TX1 0).1 (TX1 0).2.1 (TX1 0).2.2.1 ∈ ax_all := (ax_t1 (i := 34) rfl rfl)
theorem fkX4_72 : ax_fk RX4 72 1 0 := ⟨RX1, TX1, 8, rfl, by decide, flX4_72, inA1⟩
theorem flX4_75 : Cond.fieldLink RX4 75 (TX1 1).1 (TX1 1).2.1 (TX1 1).2.2.1 ∈ ax_all := (ax_t1 (i := 38) rfl rfl)
theorem fkX4_75 : ax_fk RX4 75 1 1 := ⟨RX1, TX1, 8, rfl, by decide, flX4_75, inA1⟩
theorem flX5_9 : Cond.fieldLink RX5 9 (TX5 4).1 (TX5 4).2.1 (TX5 4).2.2.1 ∈ ax_all := (ax_t1 (i := 94) rfl rfl)
theorem fkX5_9 : ax_fk RX5 9 5 4 := ⟨RX5, TX5, 16, rfl, by decide, flX5_9, inA5⟩
theorem flX5_15 : Cond.fieldLink RX5 15 (TX5 5).1 (TX5 5).2.1 (TX5 5).2.2.1 ∈ ax_all := (ax_t1 (i := 96) rfl rfl)
theorem fkX5_15 : ax_fk RX5 15 5 5 := ⟨RX5, TX5, 16, rfl, by decide, flX5_15, inA5⟩
theorem flX5_19 : Cond.fieldLink RX5 19 (TX5 0).1 (TX5 0).2.1 (TX5 0).2.2.1 ∈ ax_all := (ax_t1 (i := 81) rfl rfl)
theorem fkX5_19 : ax_fk RX5 19 5 0 := ⟨RX5, TX5, 16, rfl, by decide, flX5_19, inA5⟩
theorem flX5_23 : Cond.fieldLink RX5 23 (TX5 1).1 (TX5 1).2.1 (TX5 1).2.2.1 ∈ ax_all := (ax_t1 (i := 84) rfl rfl)
theorem fkX5_23 : ax_fk RX5 23 5 1 := ⟨RX5, TX5, 16, rfl, by decide, flX5_23, inA5⟩
theorem flX5_26 : Cond.fieldLink RX5 26 (TX5 2).1 (TX5 2).2.1 (TX5 2).2.2.1 ∈ ax_all := (ax_t1 (i := 88) rfl rfl)
theorem fkX5_26 : ax_fk RX5 26 5 2 := ⟨RX5, TX5, 16, rfl, by decide, flX5_26, inA5⟩
theorem flX5_29 : Cond.fieldLink RX5 29 (TX5 3).1 (TX5 3).2.1 (TX5 3).2.2.1 ∈ ax_all := (ax_t1 (i := 91) rfl rfl)
theorem fkX5_29 : ax_fk RX5 29 5 3 := ⟨RX5, TX5, 16, rfl, by decide, flX5_29, inA5⟩
theorem flX5_32 : Cond.fieldLink RX5 32 (TX5 6).1 (TX5 6).2.1 (TX5 6).2.2.1 ∈ ax_all := (ax_t1 (i := 97) rfl rfl)
theorem fkX5_32 : ax_fk RX5 32 5 6 := ⟨RX5, TX5, 16, rfl, by decide, flX5_32, inA5⟩
theorem flX5_35 : Cond.fieldLink RX5 35 (TX5 7).1 (TX5 7).2.1 (TX5 7).2.2.1 ∈ ax_all := (ax_t1 (i := 101) rfl rfl)
theorem fkX5_35 : ax_fk RX5 35 5 7 := ⟨RX5, TX5, 16, rfl, by decide, flX5_35, inA5⟩
theorem flX5_38 : Cond.fieldLink RX5 38 (TX5 8).1 (TX5 8).2.1 (TX5 8).2.2.1 ∈ ax_all := (ax_t1 (i := 103) rfl rfl)
theorem fkX5_38 : ax_fk RX5 38 5 8 := ⟨RX5, TX5, 16, rfl, by decide, flX5_38, inA5⟩
theorem flX5_41 : Cond.fieldLink RX5 41 (TX5 9).1 (TX5 9).2.1 (TX5 9).2.2.1 ∈ ax_all := (ax_t1 (i := 104) rfl rfl)
theorem fkX5_41 : ax_fk RX5 41 5 9 := ⟨RX5, TX5, 16, rfl, by decide, flX5_41, inA5⟩
theorem flX5_44 : Cond.fieldLink RX5 44 (TX5 10).1 (TX5 10).2.1 (TX5 10).2.2.1 ∈ ax_all := (ax_t1 (i := 105) rfl rfl)
theorem fkX5_44 : ax_fk RX5 44 5 10 := ⟨RX5, TX5, 16, rfl, by decide, flX5_44, inA5⟩
theorem flX5_47 : Cond.fieldLink RX5 47 (TX5 11).1 (TX5 11).2.1 (TX5 11).2.2.1 ∈ ax_all := (ax_t1 (i := 107) rfl rfl)
theorem fkX5_47 : ax_fk RX5 47 5 11 := ⟨RX5, TX5, 16, rfl, by decide, flX5_47, inA5⟩
theorem flX5_50 : Cond.fieldLink RX5 50 (TX5 12).1 (TX5 12).2.1 (TX5 12).2.2.1 ∈ ax_all := (ax_t1 (i := 109) rfl rfl)
theorem fkX5_50 : ax_fk RX5 50 5 12 := ⟨RX5, TX5, 16, rfl, by decide, flX5_50, inA5⟩
theorem flX5_53 : Cond.fieldLink RX5 53 (TX5 14).1 (TX5 14).2.1 (TX5 14).2.2.1 ∈ ax_all := (ax_t1 (i := 111) rfl rfl)
theorem fkX5_53 : ax_fk RX5 53 5 14 := ⟨RX5, TX5, 16, rfl, by decide, flX5_53, inA5⟩
theorem flX5_56 : Cond.fieldLink RX5 56 (TX5 13).1 (TX5 13).2.1 (TX5 13).2.2.1 ∈ ax_all := (ax_t1 (i := 110) rfl rfl)
theorem fkX5_56 : ax_fk RX5 56 5 13 := ⟨RX5, TX5, 16, rfl, by decide, flX5_56, inA5⟩
theorem flX5_59 : Cond.fieldLink RX5 59 (TX5 15).1 (TX5 15).2.1 (TX5 15).2.2.1 ∈ ax_all := (ax_t1 (i := 112) rfl rfl)
theorem fkX5_59 : ax_fk RX5 59 5 15 := ⟨RX5, TX5, 16, rfl, by decide, flX5_59, inA5⟩
theorem flX6_10 : Cond.fieldLink RX6 10 (TX6 0).1 (TX6 0).2.1 (TX6 0).2.2.1 ∈ ax_all := (ax_t1 (i := 236) rfl rfl)
theorem fkX6_10 : ax_fk RX6 10 6 0 := ⟨RX6, TX6, 6, rfl, by decide, flX6_10, inA6⟩
theorem flX6_21 : Cond.fieldLink RX6 21 (TX6 1).1 (TX6 1).2.1 (TX6 1).2.2.1 ∈ ax_all := (ax_t1 (i := 237) rfl rfl)
theorem fkX6_21 : ax_fk RX6 21 6 1 := ⟨RX6, TX6, 6, rfl, by decide, flX6_21, inA6⟩
theorem flX6_28 : Cond.fieldLink RX6 28 (TX6 2).1 (TX6 2).2.1 (TX6 2).2.2.1 ∈ ax_all := (ax_t1 (i := 238) rfl rfl)
theorem fkX6_28 : ax_fk RX6 28 6 2 := ⟨RX6, TX6, 6, rfl, by decide, flX6_28, inA6⟩
theorem flX6_35 : Cond.fieldLink RX6 35 (TX6 3).1 (TX6 3).2.1 (TX6 3).2.2.1 ∈ ax_all := (ax_t1 (i := 239) rfl rfl)
theorem fkX6_35 : ax_fk RX6 35 6 3 := ⟨RX6, TX6, 6, rfl, by decide, flX6_35, inA6⟩
theorem flX6_42 : Cond.fieldLink RX6 42 (TX6 4).1 (TX6 4).2.1 (TX6 4).2.2.1 ∈ ax_all := (ax_t2 (i := 0) rfl rfl)
theorem fkX6_42 : ax_fk RX6 42 6 4 := ⟨RX6, TX6, 6, rfl, by decide, flX6_42, inA6⟩
theorem flX6_46 : Cond.fieldLink RX6 46 (TX6 5).1 (TX6 5).2.1 (TX6 5).2.2.1 ∈ ax_all := (ax_t2 (i := 1) rfl rfl)
theorem fkX6_46 : ax_fk RX6 46 6 5 := ⟨RX6, TX6, 6, rfl, by decide, flX6_46, inA6⟩
theorem flX6_57 : Cond.fieldLink RX6 57 (TX1 0).1 (TX1 0).2.1 (TX1 0).2.2.1 ∈ ax_all := (ax_t1 (i := 33) rfl rfl)
theorem fkX6_57 : ax_fk RX6 57 1 0 := ⟨RX1, TX1, 8, rfl, by decide, flX6_57, inA1⟩
theorem flX6_61 : Cond.fieldLink RX6 61 (TX1 1).1 (TX1 1).2.1 (TX1 1).2.2.1 ∈ ax_all := (ax_t1 (i := 37) rfl rfl)
theorem fkX6_61 : ax_fk RX6 61 1 1 := ⟨RX1, TX1, 8, rfl, by decide, flX6_61, inA1⟩
theorem flX6_67 : Cond.fieldLink RX6 67 (TX1 2).1 (TX1 2).2.1 (TX1 2).2.2.1 ∈ ax_all := (ax_t1 (i := 41) rfl rfl)
theorem fkX6_67 : ax_fk RX6 67 1 2 := ⟨RX1, TX1, 8, rfl, by decide, flX6_67, inA1⟩
theorem flX6_87 : Cond.fieldLink RX6 87 (TX1 3).1 (TX1 3).2.1 (TX1 3).2.2.1 ∈ ax_all := (ax_t1 (i := 43) rfl rfl)
theorem fkX6_87 : ax_fk RX6 87 1 3 := ⟨RX1, TX1, 8, rfl, by decide, flX6_87, inA1⟩
theorem flX6_99 : Cond.fieldLink RX6 99 (TX3 8).1 (TX3 8).2.1 (TX3 8).2.2.1 ∈ ax_all := (ax_t1 (i := 155) rfl rfl)
theorem fkX6_99 : ax_fk RX6 99 3 8 := ⟨RX3, TX3, 10, rfl, by decide, flX6_99, inA3⟩
theorem flX6_132 : Cond.fieldLink RX6 132 (TX5 6).1 (TX5 6).2.1 (TX5 6).2.2.1 ∈ ax_all := (ax_t1 (i := 100) rfl rfl)
theorem fkX6_132 : ax_fk RX6 132 5 6 := ⟨RX5, TX5, 16, rfl, by decide, flX6_132, inA5⟩
theorem flX6_146 : Cond.fieldLink RX6 146 (TX4 5).1 (TX4 5).2.1 (TX4 5).2.2.1 ∈ ax_all := (ax_t1 (i := 193) rfl rfl)
theorem fkX6_146 : ax_fk RX6 146 4 5 := ⟨RX4, TX4, 6, rfl, by decide, flX6_146, inA4⟩
theorem flX6_163 : Cond.fieldLink RX6 163 (TX5 1).1 (TX5 1).2.1 (TX5 1).2.2.1 ∈ ax_all := (ax_t1 (i := 86) rfl rfl)
theorem fkX6_163 : ax_fk RX6 163 5 1 := ⟨RX5, TX5, 16, rfl, by decide, flX6_163, inA5⟩
theorem flX6_184 : Cond.fieldLink RX6 184 (TX5 7).1 (TX5 7).2.1 (TX5 7).2.2.1 ∈ ax_all := (ax_t1 (i := 102) rfl rfl)
theorem fkX6_184 : ax_fk RX6 184 5 7 := ⟨RX5, TX5, 16, rfl, by decide, flX6_184, inA5⟩
theorem flX6_187 : Cond.fieldLink RX6 187 (TX5 10).1 (TX5 10).2.1 (TX5 10).2.2.1 ∈ ax_all := (ax_t1 (i := 106) rfl rfl)
theorem fkX6_187 : ax_fk RX6 187 5 10 := ⟨RX5, TX5, 16, rfl, by decide, flX6_187, inA5⟩
theorem flX6_190 : Cond.fieldLink RX6 190 (TX5 11).1 (TX5 11).2.1 (TX5 11).2.2.1 ∈ ax_all := (ax_t1 (i := 108) rfl rfl)
theorem fkX6_190 : ax_fk RX6 190 5 11 := ⟨RX5, TX5, 16, rfl, by decide, flX6_190, inA5⟩
theorem flX6_197 : Cond.fieldLink RX6 197 (TX2 1).1 (TX2 1).2.1 (TX2 1).2.2.1 ∈ ax_all := (ax_t1 (i := 230) rfl rfl)
theorem fkX6_197 : ax_fk RX6 197 2 1 := ⟨RX2, TX2, 2, rfl, by decide, flX6_197, inA2⟩
theorem flX6_218 : Cond.fieldLink RX6 218 (TX0 1).1 (TX0 1).2.1 (TX0 1).2.2.1 ∈ ax_all := (ax_t1 (i := 215) rfl rfl)
theorem fkX6_218 : ax_fk RX6 218 0 1 := ⟨RX0, TX0, 2, rfl, by decide, flX6_218, inA0⟩
theorem flX6_219 : Cond.fieldLink RX6 219 (TX3 9).1 (TX3 9).2.1 (TX3 9).2.2.1 ∈ ax_all := (ax_t1 (i := 157) rfl rfl)
theorem fkX6_219 : ax_fk RX6 219 3 9 := ⟨RX3, TX3, 10, rfl, by decide, flX6_219, inA3⟩
theorem flX7_7 : Cond.fieldLink RX7 7 (TX7 2).1 (TX7 2).2.1 (TX7 2).2.2.1 ∈ ax_all := (ax_t4 (i := 68) rfl rfl)
theorem fkX7_7 : ax_fk RX7 7 7 2 := ⟨RX7, TX7, 25, rfl, by decide, flX7_7, inA7⟩
theorem flX7_13 : Cond.fieldLink RX7 13 (TX7 5).1 (TX7 5).2.1 (TX7 5).2.2.1 ∈ ax_all := (ax_t4 (i := 71) rfl rfl)
theorem fkX7_13 : ax_fk RX7 13 7 5 := ⟨RX7, TX7, 25, rfl, by decide, flX7_13, inA7⟩
theorem flX7_17 : Cond.fieldLink RX7 17 (TX7 6).1 (TX7 6).2.1 (TX7 6).2.2.1 ∈ ax_all := (ax_t4 (i := 72) rfl rfl)
theorem fkX7_17 : ax_fk RX7 17 7 6 := ⟨RX7, TX7, 25, rfl, by decide, flX7_17, inA7⟩
theorem flX7_20 : Cond.fieldLink RX7 20 (TX7 7).1 (TX7 7).2.1 (TX7 7).2.2.1 ∈ ax_all := (ax_t4 (i := 73) rfl rfl)
theorem fkX7_20 : ax_fk RX7 20 7 7 := ⟨RX7, TX7, 25, rfl, by decide, flX7_20, inA7⟩
theorem flX7_23 : Cond.fieldLink RX7 23 (TX7 9).1 (TX7 9).2.1 (TX7 9).2.2.1 ∈ ax_all := (ax_t4 (i := 75) rfl rfl)
theorem fkX7_23 : ax_fk RX7 23 7 9 := ⟨RX7, TX7, 25, rfl, by decide, flX7_23, inA7⟩
theorem flX7_26 : Cond.fieldLink RX7 26 (TX7 10).1 (TX7 10).2.1 (TX7 10).2.2.1 ∈ ax_all := (ax_t4 (i := 76) rfl rfl)
theorem fkX7_26 : ax_fk RX7 26 7 10 := ⟨RX7, TX7, 25, rfl, by decide, flX7_26, inA7⟩
theorem flX7_30 : Cond.fieldLink RX7 30 (TX7 15).1 (TX7 15).2.1 (TX7 15).2.2.1 ∈ ax_all := (ax_t4 (i := 81) rfl rfl)
theorem fkX7_30 : ax_fk RX7 30 7 15 := ⟨RX7, TX7, 25, rfl, by decide, flX7_30, inA7⟩
theorem flX7_34 : Cond.fieldLink RX7 34 (TX7 16).1 (TX7 16).2.1 (TX7 16).2.2.1 ∈ ax_all := (ax_t4 (i := 82) rfl rfl)
theorem fkX7_34 : ax_fk RX7 34 7 16 := ⟨RX7, TX7, 25, rfl, by decide, flX7_34, inA7⟩
theorem flX7_37 : Cond.fieldLink RX7 37 (TX7 17).1 (TX7 17).2.1 (TX7 17).2.2.1 ∈ ax_all := (ax_t4 (i := 83) rfl rfl)
theorem fkX7_37 : ax_fk RX7 37 7 17 := ⟨RX7, TX7, 25, rfl, by decide, flX7_37, inA7⟩
theorem flX7_40 : Cond.fieldLink RX7 40 (TX7 18).1 (TX7 18).2.1 (TX7 18).2.2.1 ∈ ax_all := (ax_t4 (i := 84) rfl rfl)
theorem fkX7_40 : ax_fk RX7 40 7 18 := ⟨RX7, TX7, 25, rfl, by decide, flX7_40, inA7⟩
theorem flX7_43 : Cond.fieldLink RX7 43 (TX7 19).1 (TX7 19).2.1 (TX7 19).2.2.1 ∈ ax_all := (ax_t4 (i := 85) rfl rfl)
theorem fkX7_43 : ax_fk RX7 43 7 19 := ⟨RX7, TX7, 25, rfl, by decide, flX7_43, inA7⟩
theorem flX7_46 : Cond.fieldLink RX7 46 (TX7 22).1 (TX7 22).2.1 (TX7 22).2.2.1 ∈ ax_all := (ax_t4 (i := 88) rfl rfl)
theorem fkX7_46 : ax_fk RX7 46 7 22 := ⟨RX7, TX7, 25, rfl, by decide, flX7_46, inA7⟩
theorem flX7_49 : Cond.fieldLink RX7 49 (TX7 24).1 (TX7 24).2.1 (TX7 24).2.2.1 ∈ ax_all := (ax_t4 (i := 90) rfl rfl)
theorem fkX7_49 : ax_fk RX7 49 7 24 := ⟨RX7, TX7, 25, rfl, by decide, flX7_49, inA7⟩
theorem flX7_52 : Cond.fieldLink RX7 52 (TX7 0).1 (TX7 0).2.1 (TX7 0).2.2.1 ∈ ax_all := (ax_t4 (i := 66) rfl rfl)
theorem fkX7_52 : ax_fk RX7 52 7 0 := ⟨RX7, TX7, 25, rfl, by decide, flX7_52, inA7⟩
theorem flX7_55 : Cond.fieldLink RX7 55 (TX7 3).1 (TX7 3).2.1 (TX7 3).2.2.1 ∈ ax_all := (ax_t4 (i := 69) rfl rfl)
theorem fkX7_55 : ax_fk RX7 55 7 3 := ⟨RX7, TX7, 25, rfl, by decide, flX7_55, inA7⟩
theorem flX7_62 : Cond.fieldLink RX7 62 (TX7 12).1 (TX7 12).2.1 (TX7 12).2.2.1 ∈ ax_all := (ax_t4 (i := 78) rfl rfl)
theorem fkX7_62 : ax_fk RX7 62 7 12 := ⟨RX7, TX7, 25, rfl, by decide, flX7_62, inA7⟩
theorem flX7_66 : Cond.fieldLink RX7 66 (TX7 1).1 (TX7 1).2.1 (TX7 1).2.2.1 ∈ ax_all := (ax_t4 (i := 67) rfl rfl)
theorem fkX7_66 : ax_fk RX7 66 7 1 := ⟨RX7, TX7, 25, rfl, by decide, flX7_66, inA7⟩
theorem flX7_80 : Cond.fieldLink RX7 80 (TX7 4).1 (TX7 4).2.1 (TX7 4).2.2.1 ∈ ax_all := (ax_t4 (i := 70) rfl rfl)
theorem fkX7_80 : ax_fk RX7 80 7 4 := ⟨RX7, TX7, 25, rfl, by decide, flX7_80, inA7⟩
theorem flX7_87 : Cond.fieldLink RX7 87 (TX7 20).1 (TX7 20).2.1 (TX7 20).2.2.1 ∈ ax_all := (ax_t4 (i := 86) rfl rfl)
theorem fkX7_87 : ax_fk RX7 87 7 20 := ⟨RX7, TX7, 25, rfl, by decide, flX7_87, inA7⟩
theorem flX7_90 : Cond.fieldLink RX7 90 (TX7 21).1 (TX7 21).2.1 (TX7 21).2.2.1 ∈ ax_all := (ax_t4 (i := 87) rfl rfl)
theorem fkX7_90 : ax_fk RX7 90 7 21 := ⟨RX7, TX7, 25, rfl, by decide, flX7_90, inA7⟩
theorem flX7_127 : Cond.fieldLink RX7 127 (TX7 14).1 (TX7 14).2.1 (TX7 14).2.2.1 ∈ ax_all := (ax_t4 (i := 80) rfl rfl)
theorem fkX7_127 : ax_fk RX7 127 7 14 := ⟨RX7, TX7, 25, rfl, by decide, flX7_127, inA7⟩
theorem flX7_130 : Cond.fieldLink RX7 130 (TX7 13).1 (TX7 13).2.1 (TX7 13).2.2.1 ∈ ax_all := (ax_t4 (i := 79) rfl rfl)
theorem fkX7_130 : ax_fk RX7 130 7 13 := ⟨RX7, TX7, 25, rfl, by decide, flX7_130, inA7⟩
theorem flX7_149 : Cond.fieldLink RX7 149 (TX7 11).1 (TX7 11).2.1 (TX7 11).2.2.1 ∈ ax_all := (ax_t4 (i := 77) rfl rfl)
theorem fkX7_149 : ax_fk RX7 149 7 11 := ⟨RX7, TX7, 25, rfl, by decide, flX7_149, inA7⟩
theorem flX7_160 : Cond.fieldLink RX7 160 (TX7 8).1 (TX7 8).2.1 (TX7 8).2.2.1 ∈ ax_all := (ax_t4 (i := 74) rfl rfl)
theorem fkX7_160 : ax_fk RX7 160 7 8 := ⟨RX7, TX7, 25, rfl, by decide, flX7_160, inA7⟩
theorem flX7_175 : Cond.fieldLink RX7 175 (TX7 23).1 (TX7 23).2.1 (TX7 23).2.2.1 ∈ ax_all := (ax_t4 (i := 89) rfl rfl)
theorem fkX7_175 : ax_fk RX7 175 7 23 := ⟨RX7, TX7, 25, rfl, by decide, flX7_175, inA7⟩
theorem fFX0_9 : ax_fF RX0 9 0 0 (.array .int) := ⟨RX0, TX0, 2, tyX0, rfl, by decide, flX0_9, inA0, tyX0_ok, nmX0, by decide +kernel, rfl, rfl⟩
theorem fpX0_15 : ax_fp RX0 15 0 1 .int := ⟨RX0, TX0, 2, tyX0, rfl, by decide, flX0_15, inA0, tyX0_ok, nmX0, by decide +kernel, rfl⟩
theorem fpX1_9 : ax_fp RX1 9 1 0 .int := ⟨RX1, TX1, 8, tyX1, rfl, by decide, flX1_9, inA1, tyX1_ok, nmX1, by decide +kernel, rfl⟩
theorem fpX1_15 : ax_fp RX1 15 1 1 .int := ⟨RX1, TX1, 8, tyX1, rfl, by decide, flX1_15, inA1, tyX1_ok, nmX1, by decide +kernel, rfl⟩
theorem fpX1_18 : ax_fp RX1 18 1 2 .int := ⟨RX1, TX1, 8, tyX1, rfl, by decide, flX1_18, inA1, tyX1_ok, nmX1, by decide +kernel, rfl⟩
theorem fpX1_21 : ax_fp RX1 21 1 3 .int := ⟨RX1, TX1, 8, tyX1, rfl, by decide, flX1_21, inA1, tyX1_ok, nmX1, by decide +kernel, rfl⟩
theorem fFX1_24 : ax_fF RX1 24 1 4 (.array .int) := ⟨RX1, TX1, 8, tyX1, rfl, by decide, flX1_24, inA1, tyX1_ok, nmX1, by decide +kernel, rfl, rfl⟩
theorem fFX1_28 : ax_fF RX1 28 1 5 (.array .int) := ⟨RX1, TX1, 8, tyX1, rfl, by decide, flX1_28, inA1, tyX1_ok, nmX1, by decide +kernel, rfl, rfl⟩
theorem fFX1_31 : ax_fF RX1 31 1 6 (.array .int) := ⟨RX1, TX1, 8, tyX1, rfl, by decide, flX1_31, inA1, tyX1_ok, nmX1, by decide +kernel, rfl, rfl⟩
theorem fFX1_34 : ax_fF RX1 34 1 7 (.array .int) := ⟨RX1, TX1, 8, tyX1, rfl, by decide, flX1_34, inA1, tyX1_ok, nmX1, by decide +kernel, rfl, rfl⟩
theorem fFX2_11 : ax_fF RX2 11 2 0 (.array (.object "DataMaker$Value")) := ⟨RX2, TX2, 2, tyX2, rfl, by decide, flX2_11, inA2, tyX2_ok, nmX2, by decide +kernel, rfl, rfl⟩
theorem fpX2_17 : ax_fp RX2 17 2 1 .int := ⟨RX2, TX2, 2, tyX2, rfl, by decide, flX2_17, inA2, tyX2_ok, nmX2, by decide +kernel, rfl⟩
theorem fFX3_9 : ax_fF RX3 9 3 0 (.object "DataMaker$Grammar") := ⟨RX3, TX3, 10, tyX3, rfl, by decide, flX3_9, inA3, tyX3_ok, nmX3, by decide +kernel, rfl, rfl⟩
theorem fFX3_17 : ax_fF RX3 17 3 1 (.array (.object "DataMaker$Value")) := ⟨RX3, TX3, 10, tyX3, rfl, by decide, flX3_17, inA3, tyX3_ok, nmX3, by decide +kernel, rfl, rfl⟩
theorem fFX3_22 : ax_fF RX3 22 3 2 (.array (.object "DataMaker$Value")) := ⟨RX3, TX3, 10, tyX3, rfl, by decide, flX3_22, inA3, tyX3_ok, nmX3, by decide +kernel, rfl, rfl⟩
theorem fFX3_25 : ax_fF RX3 25 3 3 (.array .int) := ⟨RX3, TX3, 10, tyX3, rfl, by decide, flX3_25, inA3, tyX3_ok, nmX3, by decide +kernel, rfl, rfl⟩
theorem fFX3_29 : ax_fF RX3 29 3 4 (.array .int) := ⟨RX3, TX3, 10, tyX3, rfl, by decide, flX3_29, inA3, tyX3_ok, nmX3, by decide +kernel, rfl, rfl⟩
theorem fFX3_32 : ax_fF RX3 32 3 5 (.array (.object "DataMaker$Value")) := ⟨RX3, TX3, 10, tyX3, rfl, by decide, flX3_32, inA3, tyX3_ok, nmX3, by decide +kernel, rfl, rfl⟩
theorem fpX3_35 : ax_fp RX3 35 3 6 .int := ⟨RX3, TX3, 10, tyX3, rfl, by decide, flX3_35, inA3, tyX3_ok, nmX3, by decide +kernel, rfl⟩
theorem fpX3_39 : ax_fp RX3 39 3 7 .boolean := ⟨RX3, TX3, 10, tyX3, rfl, by decide, flX3_39, inA3, tyX3_ok, nmX3, by decide +kernel, rfl⟩
theorem fpX3_43 : ax_fp RX3 43 3 8 .int := ⟨RX3, TX3, 10, tyX3, rfl, by decide, flX3_43, inA3, tyX3_ok, nmX3, by decide +kernel, rfl⟩
theorem fpX3_46 : ax_fp RX3 46 3 9 .boolean := ⟨RX3, TX3, 10, tyX3, rfl, by decide, flX3_46, inA3, tyX3_ok, nmX3, by decide +kernel, rfl⟩
theorem fpX3_148 : ax_fp RX3 148 5 1 .int := ⟨RX5, TX5, 16, tyX5, rfl, by decide, flX3_148, inA5, tyX5_ok, nmX5, by decide +kernel, rfl⟩
theorem fFX4_9 : ax_fF RX4 9 4 0 (.object "DataMaker$Grammar") := ⟨RX4, TX4, 6, tyX4, rfl, by decide, flX4_9, inA4, tyX4_ok, nmX4, by decide +kernel, rfl, rfl⟩
theorem fFX4_15 : ax_fF RX4 15 4 1 (.array .int) := ⟨RX4, TX4, 6, tyX4, rfl, by decide, flX4_15, inA4, tyX4_ok, nmX4, by decide +kernel, rfl, rfl⟩
theorem fFX4_21 : ax_fF RX4 21 4 2 (.array (.object "DataMaker$Value")) := ⟨RX4, TX4, 6, tyX4, rfl, by decide, flX4_21, inA4, tyX4_ok, nmX4, by decide +kernel, rfl, rfl⟩
theorem fpX4_26 : ax_fp RX4 26 4 3 .int := ⟨RX4, TX4, 6, tyX4, rfl, by decide, flX4_26, inA4, tyX4_ok, nmX4, by decide +kernel, rfl⟩
theorem fpX4_30 : ax_fp RX4 30 4 4 .int := ⟨RX4, TX4, 6, tyX4, rfl, by decide, flX4_30, inA4, tyX4_ok, nmX4, by decide +kernel, rfl⟩
theorem fpX4_33 : ax_fp RX4 33 4 5 .int := ⟨RX4, TX4, 6, tyX4, rfl, by decide, flX4_33, inA4, tyX4_ok, nmX4, by decide +kernel, rfl⟩
theorem fFX5_9 : ax_fF RX5 9 5 4 (.array .int) := ⟨RX5, TX5, 16, tyX5, rfl, by decide, flX5_9, inA5, tyX5_ok, nmX5, by decide +kernel, rfl, rfl⟩
theorem fFX5_15 : ax_fF RX5 15 5 5 (.array (.object "DataMaker$Value")) := ⟨RX5, TX5, 16, tyX5, rfl, by decide, flX5_15, inA5, tyX5_ok, nmX5, by decide +kernel, rfl, rfl⟩
theorem fpX5_19 : ax_fp RX5 19 5 0 .int := ⟨RX5, TX5, 16, tyX5, rfl, by decide, flX5_19, inA5, tyX5_ok, nmX5, by decide +kernel, rfl⟩
theorem fpX5_23 : ax_fp RX5 23 5 1 .int := ⟨RX5, TX5, 16, tyX5, rfl, by decide, flX5_23, inA5, tyX5_ok, nmX5, by decide +kernel, rfl⟩
theorem fpX5_26 : ax_fp RX5 26 5 2 .int := ⟨RX5, TX5, 16, tyX5, rfl, by decide, flX5_26, inA5, tyX5_ok, nmX5, by decide +kernel, rfl⟩
theorem fpX5_29 : ax_fp RX5 29 5 3 .int := ⟨RX5, TX5, 16, tyX5, rfl, by decide, flX5_29, inA5, tyX5_ok, nmX5, by decide +kernel, rfl⟩
theorem fpX5_32 : ax_fp RX5 32 5 6 .int := ⟨RX5, TX5, 16, tyX5, rfl, by decide, flX5_32, inA5, tyX5_ok, nmX5, by decide +kernel, rfl⟩
theorem fpX5_35 : ax_fp RX5 35 5 7 .int := ⟨RX5, TX5, 16, tyX5, rfl, by decide, flX5_35, inA5, tyX5_ok, nmX5, by decide +kernel, rfl⟩
theorem fpX5_38 : ax_fp RX5 38 5 8 .int := ⟨RX5, TX5, 16, tyX5, rfl, by decide, flX5_38, inA5, tyX5_ok, nmX5, by decide +kernel, rfl⟩
theorem fpX5_41 : ax_fp RX5 41 5 9 .int := ⟨RX5, TX5, 16, tyX5, rfl, by decide, flX5_41, inA5, tyX5_ok, nmX5, by decide +kernel, rfl⟩
theorem fpX5_44 : ax_fp RX5 44 5 10 .int := ⟨RX5, TX5, 16, tyX5, rfl, by decide, flX5_44, inA5, tyX5_ok, nmX5, by decide +kernel, rfl⟩
theorem fpX5_47 : ax_fp RX5 47 5 11 .int := ⟨RX5, TX5, 16, tyX5, rfl, by decide, flX5_47, inA5, tyX5_ok, nmX5, by decide +kernel, rfl⟩
theorem fpX5_50 : ax_fp RX5 50 5 12 .int := ⟨RX5, TX5, 16, tyX5, rfl, by decide, flX5_50, inA5, tyX5_ok, nmX5, by decide +kernel, rfl⟩
theorem fpX5_53 : ax_fp RX5 53 5 14 .int := ⟨RX5, TX5, 16, tyX5, rfl, by decide, flX5_53, inA5, tyX5_ok, nmX5, by decide +kernel, rfl⟩
theorem fpX5_56 : ax_fp RX5 56 5 13 .int := ⟨RX5, TX5, 16, tyX5, rfl, by decide, flX5_56, inA5, tyX5_ok, nmX5, by decide +kernel, rfl⟩
theorem fpX5_59 : ax_fp RX5 59 5 15 .boolean := ⟨RX5, TX5, 16, tyX5, rfl, by decide, flX5_59, inA5, tyX5_ok, nmX5, by decide +kernel, rfl⟩
theorem fFX6_10 : ax_fF RX6 10 6 0 (.object "DataMaker$Grammar") := ⟨RX6, TX6, 6, tyX6, rfl, by decide, flX6_10, inA6, tyX6_ok, nmX6, by decide +kernel, rfl, rfl⟩
theorem fFX6_21 : ax_fF RX6 21 6 1 (.object "DataMaker$Stock") := ⟨RX6, TX6, 6, tyX6, rfl, by decide, flX6_21, inA6, tyX6_ok, nmX6, by decide +kernel, rfl, rfl⟩
theorem fFX6_28 : ax_fF RX6 28 6 2 (.object "DataMaker$Told") := ⟨RX6, TX6, 6, tyX6, rfl, by decide, flX6_28, inA6, tyX6_ok, nmX6, by decide +kernel, rfl, rfl⟩
theorem fFX6_35 : ax_fF RX6 35 6 3 (.object "DataMaker$Code") := ⟨RX6, TX6, 6, tyX6, rfl, by decide, flX6_35, inA6, tyX6_ok, nmX6, by decide +kernel, rfl, rfl⟩
theorem fFX6_42 : ax_fF RX6 42 6 4 (.object "DataMaker$Reductions") := ⟨RX6, TX6, 6, tyX6, rfl, by decide, flX6_42, inA6, tyX6_ok, nmX6, by decide +kernel, rfl, rfl⟩
theorem fpX6_46 : ax_fp RX6 46 6 5 (.object "DataMaker$Value") := ⟨RX6, TX6, 6, tyX6, rfl, by decide, flX6_46, inA6, tyX6_ok, nmX6, by decide +kernel, rfl⟩
theorem fpX6_57 : ax_fp RX6 57 1 0 .int := ⟨RX1, TX1, 8, tyX1, rfl, by decide, flX6_57, inA1, tyX1_ok, nmX1, by decide +kernel, rfl⟩
theorem fpX6_61 : ax_fp RX6 61 1 1 .int := ⟨RX1, TX1, 8, tyX1, rfl, by decide, flX6_61, inA1, tyX1_ok, nmX1, by decide +kernel, rfl⟩
theorem fpX6_67 : ax_fp RX6 67 1 2 .int := ⟨RX1, TX1, 8, tyX1, rfl, by decide, flX6_67, inA1, tyX1_ok, nmX1, by decide +kernel, rfl⟩
theorem fpX6_146 : ax_fp RX6 146 4 5 .int := ⟨RX4, TX4, 6, tyX4, rfl, by decide, flX6_146, inA4, tyX4_ok, nmX4, by decide +kernel, rfl⟩
theorem fpX6_219 : ax_fp RX6 219 3 9 .boolean := ⟨RX3, TX3, 10, tyX3, rfl, by decide, flX6_219, inA3, tyX3_ok, nmX3, by decide +kernel, rfl⟩
theorem fpX7_7 : ax_fp RX7 7 7 2 .int := ⟨RX7, TX7, 25, tyX7, rfl, by decide, flX7_7, inA7, tyX7_ok, nmX7, by decide +kernel, rfl⟩
theorem fFX7_13 : ax_fF RX7 13 7 5 (.array .int) := ⟨RX7, TX7, 25, tyX7, rfl, by decide, flX7_13, inA7, tyX7_ok, nmX7, by decide +kernel, rfl, rfl⟩
theorem fFX7_17 : ax_fF RX7 17 7 6 (.array .int) := ⟨RX7, TX7, 25, tyX7, rfl, by decide, flX7_17, inA7, tyX7_ok, nmX7, by decide +kernel, rfl, rfl⟩
theorem fFX7_20 : ax_fF RX7 20 7 7 (.array .int) := ⟨RX7, TX7, 25, tyX7, rfl, by decide, flX7_20, inA7, tyX7_ok, nmX7, by decide +kernel, rfl, rfl⟩
theorem fFX7_23 : ax_fF RX7 23 7 9 (.array .int) := ⟨RX7, TX7, 25, tyX7, rfl, by decide, flX7_23, inA7, tyX7_ok, nmX7, by decide +kernel, rfl, rfl⟩
theorem fpX7_26 : ax_fp RX7 26 7 10 .int := ⟨RX7, TX7, 25, tyX7, rfl, by decide, flX7_26, inA7, tyX7_ok, nmX7, by decide +kernel, rfl⟩
theorem fFX7_30 : ax_fF RX7 30 7 15 (.array (.array .int)) := ⟨RX7, TX7, 25, tyX7, rfl, by decide, flX7_30, inA7, tyX7_ok, nmX7, by decide +kernel, rfl, rfl⟩
theorem fFX7_34 : ax_fF RX7 34 7 16 (.array .int) := ⟨RX7, TX7, 25, tyX7, rfl, by decide, flX7_34, inA7, tyX7_ok, nmX7, by decide +kernel, rfl, rfl⟩
theorem fFX7_37 : ax_fF RX7 37 7 17 (.array .int) := ⟨RX7, TX7, 25, tyX7, rfl, by decide, flX7_37, inA7, tyX7_ok, nmX7, by decide +kernel, rfl, rfl⟩
theorem fFX7_40 : ax_fF RX7 40 7 18 (.array .int) := ⟨RX7, TX7, 25, tyX7, rfl, by decide, flX7_40, inA7, tyX7_ok, nmX7, by decide +kernel, rfl, rfl⟩
theorem fFX7_43 : ax_fF RX7 43 7 19 (.array .int) := ⟨RX7, TX7, 25, tyX7, rfl, by decide, flX7_43, inA7, tyX7_ok, nmX7, by decide +kernel, rfl, rfl⟩
theorem fFX7_46 : ax_fF RX7 46 7 22 (.array .int) := ⟨RX7, TX7, 25, tyX7, rfl, by decide, flX7_46, inA7, tyX7_ok, nmX7, by decide +kernel, rfl, rfl⟩
theorem fFX7_49 : ax_fF RX7 49 7 24 (.array .int) := ⟨RX7, TX7, 25, tyX7, rfl, by decide, flX7_49, inA7, tyX7_ok, nmX7, by decide +kernel, rfl, rfl⟩
theorem fpX7_52 : ax_fp RX7 52 7 0 .int := ⟨RX7, TX7, 25, tyX7, rfl, by decide, flX7_52, inA7, tyX7_ok, nmX7, by decide +kernel, rfl⟩
theorem fpX7_55 : ax_fp RX7 55 7 3 .int := ⟨RX7, TX7, 25, tyX7, rfl, by decide, flX7_55, inA7, tyX7_ok, nmX7, by decide +kernel, rfl⟩
theorem fpX7_62 : ax_fp RX7 62 7 12 .boolean := ⟨RX7, TX7, 25, tyX7, rfl, by decide, flX7_62, inA7, tyX7_ok, nmX7, by decide +kernel, rfl⟩
theorem fpX7_66 : ax_fp RX7 66 7 1 .int := ⟨RX7, TX7, 25, tyX7, rfl, by decide, flX7_66, inA7, tyX7_ok, nmX7, by decide +kernel, rfl⟩
theorem fpX7_80 : ax_fp RX7 80 7 4 .int := ⟨RX7, TX7, 25, tyX7, rfl, by decide, flX7_80, inA7, tyX7_ok, nmX7, by decide +kernel, rfl⟩
theorem fpX7_87 : ax_fp RX7 87 7 20 .int := ⟨RX7, TX7, 25, tyX7, rfl, by decide, flX7_87, inA7, tyX7_ok, nmX7, by decide +kernel, rfl⟩
theorem fpX7_90 : ax_fp RX7 90 7 21 .int := ⟨RX7, TX7, 25, tyX7, rfl, by decide, flX7_90, inA7, tyX7_ok, nmX7, by decide +kernel, rfl⟩
theorem fpX7_127 : ax_fp RX7 127 7 14 .int := ⟨RX7, TX7, 25, tyX7, rfl, by decide, flX7_127, inA7, tyX7_ok, nmX7, by decide +kernel, rfl⟩
theorem fpX7_130 : ax_fp RX7 130 7 13 .int := ⟨RX7, TX7, 25, tyX7, rfl, by decide, flX7_130, inA7, tyX7_ok, nmX7, by decide +kernel, rfl⟩
theorem fpX7_149 : ax_fp RX7 149 7 11 .int := ⟨RX7, TX7, 25, tyX7, rfl, by decide, flX7_149, inA7, tyX7_ok, nmX7, by decide +kernel, rfl⟩
theorem fpX7_160 : ax_fp RX7 160 7 8 .int := ⟨RX7, TX7, 25, tyX7, rfl, by decide, flX7_160, inA7, tyX7_ok, nmX7, by decide +kernel, rfl⟩
theorem fpX7_175 : ax_fp RX7 175 7 23 .int := ⟨RX7, TX7, 25, tyX7, rfl, by decide, flX7_175, inA7, tyX7_ok, nmX7, by decide +kernel, rfl⟩
theorem mkL_8 : ax_mk RL 8 6 [.null, .null, .null, .null, .null, .null] := ⟨RX6, TX6, 6, tyX6, rfl, inA6, tyX6_ok, (ax_t1 (i := 18) rfl rfl), (ax_t1 (i := 19) rfl rfl), (ax_t1 (i := 1) rfl rfl), by decide +kernel, rfl⟩
theorem mkL_84 : ax_mk RL 84 7 [.int 0, .int 0, .int 0, .int 0, .int 0, .null, .null, .null, .int 0, .null, .int 0, .int 0, .int 0, .int 0, .int 0, .null, .null, .null, .null, .null, .int 0, .int 0, .null, .int 0, .null] := ⟨RX7, TX7, 25, tyX7, rfl, inA7, tyX7_ok, (ax_t4 (i := 58) rfl rfl), (ax_t4 (i := 59) rfl rfl), (ax_t1 (i := 8) rfl rfl), by decide +kernel, rfl⟩
theorem mkX3_15 : ax_mk RX3 15 5 [.int 0, .int 0, .int 0, .int 0, .null, .null, .int 0, .int 0, .int 0, .int 0, .int 0, .int 0, .int 0, .int 0, .int 0, .int 0] := ⟨RX5, TX5, 16, tyX5, rfl, inA5, tyX5_ok, (ax_t1 (i := 73) rfl rfl), (ax_t1 (i := 75) rfl rfl), (ax_t1 (i := 4) rfl rfl), by decide +kernel, rfl⟩
theorem mkX4_19 : ax_mk RX4 19 5 [.int 0, .int 0, .int 0, .int 0, .null, .null, .int 0, .int 0, .int 0, .int 0, .int 0, .int 0, .int 0, .int 0, .int 0, .int 0] := ⟨RX5, TX5, 16, tyX5, rfl, inA5, tyX5_ok, (ax_t1 (i := 185) rfl rfl), (ax_t1 (i := 75) rfl rfl), (ax_t1 (i := 4) rfl rfl), by decide +kernel, rfl⟩
theorem mkX6_7 : ax_mk RX6 7 1 [.int 0, .int 0, .int 0, .int 0, .null, .null, .null, .null] := ⟨RX1, TX1, 8, tyX1, rfl, inA1, tyX1_ok, (ax_t1 (i := 26) rfl rfl), (ax_t1 (i := 27) rfl rfl), (ax_t1 (i := 2) rfl rfl), by decide +kernel, rfl⟩
theorem mkX6_16 : ax_mk RX6 16 3 [.null, .null, .null, .null, .null, .null, .int 0, .int 0, .int 0, .int 0] := ⟨RX3, TX3, 10, tyX3, rfl, inA3, tyX3_ok, (ax_t1 (i := 67) rfl rfl), (ax_t1 (i := 68) rfl rfl), (ax_t1 (i := 3) rfl rfl), by decide +kernel, rfl⟩
theorem mkX6_25 : ax_mk RX6 25 4 [.null, .null, .null, .int 0, .int 0, .int 0] := ⟨RX4, TX4, 6, tyX4, rfl, inA4, tyX4_ok, (ax_t1 (i := 179) rfl rfl), (ax_t1 (i := 180) rfl rfl), (ax_t1 (i := 5) rfl rfl), by decide +kernel, rfl⟩
theorem mkX6_32 : ax_mk RX6 32 0 [.null, .int 0] := ⟨RX0, TX0, 2, tyX0, rfl, inA0, tyX0_ok, (ax_t1 (i := 207) rfl rfl), (ax_t1 (i := 208) rfl rfl), (ax_t1 (i := 6) rfl rfl), by decide +kernel, rfl⟩
theorem mkX6_39 : ax_mk RX6 39 2 [.null, .int 0] := ⟨RX2, TX2, 2, tyX2, rfl, inA2, tyX2_ok, (ax_t1 (i := 221) rfl rfl), (ax_t1 (i := 222) rfl rfl), (ax_t1 (i := 7) rfl rfl), by decide +kernel, rfl⟩
theorem lkL_7 : ax_lkV RL 7 mX6_setRange 6 := ⟨okX6_setRange, rfl, cdX6_setRange, (ax_t2 (i := 155) rfl rfl), (ax_t2 (i := 156) rfl rfl), (ax_t2 (i := 157) rfl rfl), TX6, 6, rfl⟩
theorem lkL_15 : ax_lkV RL 15 mX6_addType 6 := ⟨okX6_addType, rfl, cdX6_addType, (ax_t2 (i := 236) rfl rfl), (ax_t2 (i := 237) rfl rfl), (ax_t2 (i := 238) rfl rfl), TX6, 6, rfl⟩
theorem lkL_21 : ax_lkV RL 21 mX6_addConstructor 6 := ⟨okX6_addConstructor, rfl, cdX6_addConstructor, (ax_t3 (i := 20) rfl rfl), (ax_t3 (i := 21) rfl rfl), (ax_t3 (i := 22) rfl rfl), TX6, 6, rfl⟩
theorem lkL_27 : ax_lkV RL 27 mX6_count 6 := ⟨okX6_count, rfl, cdX6_count, (ax_t3 (i := 67) rfl rfl), (ax_t3 (i := 68) rfl rfl), (ax_t3 (i := 69) rfl rfl), TX6, 6, rfl⟩
theorem lkL_31 : ax_lkV RL 31 mX6_total 6 := ⟨okX6_total, rfl, cdX6_total, (ax_t3 (i := 85) rfl rfl), (ax_t3 (i := 86) rfl rfl), (ax_t3 (i := 87) rfl rfl), TX6, 6, rfl⟩
theorem lkL_34 : ax_lkV RL 34 mX6_firstAgainst 6 := ⟨okX6_firstAgainst, rfl, cdX6_firstAgainst, (ax_t3 (i := 92) rfl rfl), (ax_t3 (i := 93) rfl rfl), (ax_t3 (i := 94) rfl rfl), TX6, 6, rfl⟩
theorem lkL_38 : ax_lkV RL 38 mX6_select 6 := ⟨okX6_select, rfl, cdX6_select, (ax_t3 (i := 106) rfl rfl), (ax_t3 (i := 107) rfl rfl), (ax_t3 (i := 108) rfl rfl), TX6, 6, rfl⟩
theorem lkL_41 : ax_lkV RL 41 mX6_draw 6 := ⟨okX6_draw, rfl, cdX6_draw, (ax_t3 (i := 116) rfl rfl), (ax_t3 (i := 117) rfl rfl), (ax_t3 (i := 118) rfl rfl), TX6, 6, rfl⟩
theorem lkL_47 : ax_lkV RL 47 mX6_tell 6 := ⟨okX6_tell, rfl, cdX6_tell, (ax_t3 (i := 141) rfl rfl), (ax_t3 (i := 142) rfl rfl), (ax_t3 (i := 143) rfl rfl), TX6, 6, rfl⟩
theorem lkL_51 : ax_lkV RL 51 mX6_read 6 := ⟨okX6_read, rfl, cdX6_read, (ax_t3 (i := 154) rfl rfl), (ax_t3 (i := 155) rfl rfl), (ax_t3 (i := 156) rfl rfl), TX6, 6, rfl⟩
theorem lkL_54 : ax_lkV RL 54 mX6_length 6 := ⟨okX6_length, rfl, cdX6_length, (ax_t3 (i := 197) rfl rfl), (ax_t3 (i := 198) rfl rfl), (ax_t3 (i := 199) rfl rfl), TX6, 6, rfl⟩
theorem lkL_57 : ax_lkV RL 57 mX6_code 6 := ⟨okX6_code, rfl, cdX6_code, (ax_t3 (i := 213) rfl rfl), (ax_t3 (i := 214) rfl rfl), (ax_t3 (i := 215) rfl rfl), TX6, 6, rfl⟩
theorem lkL_60 : ax_lkV RL 60 mX6_number 6 := ⟨okX6_number, rfl, cdX6_number, (ax_t3 (i := 221) rfl rfl), (ax_t3 (i := 222) rfl rfl), (ax_t3 (i := 223) rfl rfl), TX6, 6, rfl⟩
theorem lkL_63 : ax_lkV RL 63 mX6_height 6 := ⟨okX6_height, rfl, cdX6_height, (ax_t3 (i := 228) rfl rfl), (ax_t3 (i := 229) rfl rfl), (ax_t3 (i := 230) rfl rfl), TX6, 6, rfl⟩
theorem lkL_66 : ax_lkV RL 66 mX6_mean 6 := ⟨okX6_mean, rfl, cdX6_mean, (ax_t3 (i := 235) rfl rfl), (ax_t3 (i := 236) rfl rfl), (ax_t3 (i := 237) rfl rfl), TX6, 6, rfl⟩
theorem lkL_70 : ax_lkV RL 70 mX6_holds 6 := ⟨okX6_holds, rfl, cdX6_holds, (ax_t4 (i := 2) rfl rfl), (ax_t4 (i := 3) rfl rfl), (ax_t4 (i := 4) rfl rfl), TX6, 6, rfl⟩
theorem lkL_74 : ax_lkV RL 74 mX6_reductionCount 6 := ⟨okX6_reductionCount, rfl, cdX6_reductionCount, (ax_t4 (i := 9) rfl rfl), (ax_t4 (i := 10) rfl rfl), (ax_t4 (i := 11) rfl rfl), TX6, 6, rfl⟩
theorem lkL_77 : ax_lkV RL 77 mX6_reduction 6 := ⟨okX6_reduction, rfl, cdX6_reduction, (ax_t4 (i := 40) rfl rfl), (ax_t4 (i := 41) rfl rfl), (ax_t4 (i := 42) rfl rfl), TX6, 6, rfl⟩
theorem lkL_80 : ax_lkV RL 80 mX6_reduce 6 := ⟨okX6_reduce, rfl, cdX6_reduce, (ax_t4 (i := 49) rfl rfl), (ax_t4 (i := 50) rfl rfl), (ax_t4 (i := 51) rfl rfl), TX6, 6, rfl⟩
theorem lkL_83 : ax_lkI RL 83 mX6_init := ⟨okX6_init, rfl, rfl, rfl, cdX6_init, (ax_t1 (i := 20) rfl rfl), (ax_t1 (i := 21) rfl rfl)⟩
theorem lkL_86 : ax_lkI RL 86 mX7_init := ⟨okX7_init, rfl, rfl, rfl, cdX7_init, (ax_t4 (i := 60) rfl rfl), (ax_t4 (i := 61) rfl rfl)⟩
theorem lkL_87 : ax_lkH RL 87 mL_setRange := ⟨okL_setRange, cdL_setRange, (ax_t2 (i := 151) rfl rfl), (ax_t2 (i := 152) rfl rfl)⟩
theorem lkL_92 : ax_lkV RL 92 mX7_setRange 7 := ⟨okX7_setRange, rfl, cdX7_setRange, (ax_t4 (i := 146) rfl rfl), (ax_t4 (i := 147) rfl rfl), (ax_t4 (i := 148) rfl rfl), TX7, 25, rfl⟩
theorem lkL_93 : ax_lkV RL 93 mX7_thrown 7 := ⟨okX7_thrown, rfl, cdX7_thrown, (ax_t4 (i := 142) rfl rfl), (ax_t4 (i := 143) rfl rfl), (ax_t4 (i := 144) rfl rfl), TX7, 25, rfl⟩
theorem lkL_96 : ax_lkH RL 96 mL_addType := ⟨okL_addType, cdL_addType, (ax_t2 (i := 232) rfl rfl), (ax_t2 (i := 233) rfl rfl)⟩
theorem lkL_99 : ax_lkV RL 99 mX7_addType 7 := ⟨okX7_addType, rfl, cdX7_addType, (ax_t4 (i := 154) rfl rfl), (ax_t4 (i := 155) rfl rfl), (ax_t4 (i := 156) rfl rfl), TX7, 25, rfl⟩
theorem lkL_100 : ax_lkH RL 100 mL_addConstructor := ⟨okL_addConstructor, cdL_addConstructor, (ax_t3 (i := 16) rfl rfl), (ax_t3 (i := 17) rfl rfl)⟩
theorem lkL_103 : ax_lkV RL 103 mX7_addConstructor 7 := ⟨okX7_addConstructor, rfl, cdX7_addConstructor, (ax_t4 (i := 162) rfl rfl), (ax_t4 (i := 163) rfl rfl), (ax_t4 (i := 164) rfl rfl), TX7, 25, rfl⟩
theorem lkL_104 : ax_lkV RL 104 mX6_typeCount 6 := ⟨okX6_typeCount, rfl, cdX6_typeCount, (ax_t2 (i := 15) rfl rfl), (ax_t2 (i := 16) rfl rfl), (ax_t2 (i := 17) rfl rfl), TX6, 6, rfl⟩
theorem lkL_107 : ax_lkV RL 107 mX7_typeCount 7 := ⟨okX7_typeCount, rfl, cdX7_typeCount, (ax_t4 (i := 173) rfl rfl), (ax_t4 (i := 174) rfl rfl), (ax_t4 (i := 175) rfl rfl), TX7, 25, rfl⟩
theorem lkL_108 : ax_lkV RL 108 mX6_horizon 6 := ⟨okX6_horizon, rfl, cdX6_horizon, (ax_t2 (i := 19) rfl rfl), (ax_t2 (i := 20) rfl rfl), (ax_t2 (i := 21) rfl rfl), TX6, 6, rfl⟩
theorem lkL_111 : ax_lkV RL 111 mX7_horizon 7 := ⟨okX7_horizon, rfl, cdX7_horizon, (ax_t4 (i := 177) rfl rfl), (ax_t4 (i := 178) rfl rfl), (ax_t4 (i := 179) rfl rfl), TX7, 25, rfl⟩
theorem lkL_112 : ax_lkH RL 112 mL_count := ⟨okL_count, cdL_count, (ax_t3 (i := 64) rfl rfl), (ax_t3 (i := 65) rfl rfl)⟩
theorem lkL_114 : ax_lkV RL 114 mX7_count 7 := ⟨okX7_count, rfl, cdX7_count, (ax_t4 (i := 221) rfl rfl), (ax_t4 (i := 222) rfl rfl), (ax_t4 (i := 223) rfl rfl), TX7, 25, rfl⟩
theorem lkL_115 : ax_lkH RL 115 mL_total := ⟨okL_total, cdL_total, (ax_t3 (i := 82) rfl rfl), (ax_t3 (i := 83) rfl rfl)⟩
theorem lkL_117 : ax_lkV RL 117 mX7_total 7 := ⟨okX7_total, rfl, cdX7_total, (ax_t4 (i := 233) rfl rfl), (ax_t4 (i := 234) rfl rfl), (ax_t4 (i := 235) rfl rfl), TX7, 25, rfl⟩
theorem lkL_118 : ax_lkH RL 118 mL_firstAgainst := ⟨okL_firstAgainst, cdL_firstAgainst, (ax_t3 (i := 89) rfl rfl), (ax_t3 (i := 90) rfl rfl)⟩
theorem lkL_121 : ax_lkV RL 121 mX7_firstAgainst 7 := ⟨okX7_firstAgainst, rfl, cdX7_firstAgainst, (ax_t4 (i := 237) rfl rfl), (ax_t4 (i := 238) rfl rfl), (ax_t4 (i := 239) rfl rfl), TX7, 25, rfl⟩
theorem lkL_122 : ax_lkH RL 122 mL_select := ⟨okL_select, cdL_select, (ax_t3 (i := 103) rfl rfl), (ax_t3 (i := 104) rfl rfl)⟩
theorem lkL_124 : ax_lkV RL 124 mX7_select 7 := ⟨okX7_select, rfl, cdX7_select, (ax_t5 (i := 5) rfl rfl), (ax_t5 (i := 6) rfl rfl), (ax_t5 (i := 7) rfl rfl), TX7, 25, rfl⟩
theorem lkL_127 : ax_lkH RL 127 mL_draw := ⟨okL_draw, cdL_draw, (ax_t3 (i := 112) rfl rfl), (ax_t3 (i := 113) rfl rfl)⟩
theorem lkL_130 : ax_lkV RL 130 mX7_draw 7 := ⟨okX7_draw, rfl, cdX7_draw, (ax_t5 (i := 13) rfl rfl), (ax_t5 (i := 14) rfl rfl), (ax_t5 (i := 15) rfl rfl), TX7, 25, rfl⟩
theorem lkL_131 : ax_lkH RL 131 mL_tell := ⟨okL_tell, cdL_tell, (ax_t3 (i := 138) rfl rfl), (ax_t3 (i := 139) rfl rfl)⟩
theorem lkL_134 : ax_lkV RL 134 mX7_tell 7 := ⟨okX7_tell, rfl, cdX7_tell, (ax_t5 (i := 19) rfl rfl), (ax_t5 (i := 20) rfl rfl), (ax_t5 (i := 21) rfl rfl), TX7, 25, rfl⟩
theorem lkL_135 : ax_lkH RL 135 mL_read := ⟨okL_read, cdL_read, (ax_t3 (i := 151) rfl rfl), (ax_t3 (i := 152) rfl rfl)⟩
theorem lkL_137 : ax_lkV RL 137 mX7_read 7 := ⟨okX7_read, rfl, cdX7_read, (ax_t5 (i := 23) rfl rfl), (ax_t5 (i := 24) rfl rfl), (ax_t5 (i := 25) rfl rfl), TX7, 25, rfl⟩
theorem lkL_138 : ax_lkH RL 138 mL_length := ⟨okL_length, cdL_length, (ax_t3 (i := 194) rfl rfl), (ax_t3 (i := 195) rfl rfl)⟩
theorem lkL_140 : ax_lkV RL 140 mX7_length 7 := ⟨okX7_length, rfl, cdX7_length, (ax_t5 (i := 31) rfl rfl), (ax_t5 (i := 32) rfl rfl), (ax_t5 (i := 33) rfl rfl), TX7, 25, rfl⟩
theorem lkL_141 : ax_lkH RL 141 mL_code := ⟨okL_code, cdL_code, (ax_t3 (i := 210) rfl rfl), (ax_t3 (i := 211) rfl rfl)⟩
theorem lkL_143 : ax_lkV RL 143 mX7_code 7 := ⟨okX7_code, rfl, cdX7_code, (ax_t5 (i := 43) rfl rfl), (ax_t5 (i := 44) rfl rfl), (ax_t5 (i := 45) rfl rfl), TX7, 25, rfl⟩
theorem lkL_144 : ax_lkH RL 144 mL_number := ⟨okL_number, cdL_number, (ax_t3 (i := 218) rfl rfl), (ax_t3 (i := 219) rfl rfl)⟩
theorem lkL_146 : ax_lkV RL 146 mX7_number 7 := ⟨okX7_number, rfl, cdX7_number, (ax_t5 (i := 47) rfl rfl), (ax_t5 (i := 48) rfl rfl), (ax_t5 (i := 49) rfl rfl), TX7, 25, rfl⟩
theorem lkL_147 : ax_lkH RL 147 mL_height := ⟨okL_height, cdL_height, (ax_t3 (i := 225) rfl rfl), (ax_t3 (i := 226) rfl rfl)⟩
theorem lkL_149 : ax_lkV RL 149 mX7_height 7 := ⟨okX7_height, rfl, cdX7_height, (ax_t5 (i := 51) rfl rfl), (ax_t5 (i := 52) rfl rfl), (ax_t5 (i := 53) rfl rfl), TX7, 25, rfl⟩
theorem lkL_150 : ax_lkH RL 150 mL_mean := ⟨okL_mean, cdL_mean, (ax_t3 (i := 232) rfl rfl), (ax_t3 (i := 233) rfl rfl)⟩
theorem lkL_153 : ax_lkV RL 153 mX7_mean 7 := ⟨okX7_mean, rfl, cdX7_mean, (ax_t5 (i := 55) rfl rfl), (ax_t5 (i := 56) rfl rfl), (ax_t5 (i := 57) rfl rfl), TX7, 25, rfl⟩
theorem lkL_154 : ax_lkH RL 154 mL_holds := ⟨okL_holds, cdL_holds, (ax_t3 (i := 239) rfl rfl), (ax_t4 (i := 0) rfl rfl)⟩
theorem lkL_156 : ax_lkV RL 156 mX7_holds 7 := ⟨okX7_holds, rfl, cdX7_holds, (ax_t5 (i := 59) rfl rfl), (ax_t5 (i := 60) rfl rfl), (ax_t5 (i := 61) rfl rfl), TX7, 25, rfl⟩
theorem lkL_157 : ax_lkH RL 157 mL_reductionCount := ⟨okL_reductionCount, cdL_reductionCount, (ax_t4 (i := 6) rfl rfl), (ax_t4 (i := 7) rfl rfl)⟩
theorem lkL_159 : ax_lkV RL 159 mX7_reductionCount 7 := ⟨okX7_reductionCount, rfl, cdX7_reductionCount, (ax_t5 (i := 63) rfl rfl), (ax_t5 (i := 64) rfl rfl), (ax_t5 (i := 65) rfl rfl), TX7, 25, rfl⟩
theorem lkL_160 : ax_lkH RL 160 mL_reduction := ⟨okL_reduction, cdL_reduction, (ax_t4 (i := 37) rfl rfl), (ax_t4 (i := 38) rfl rfl)⟩
theorem lkL_162 : ax_lkV RL 162 mX7_reduction 7 := ⟨okX7_reduction, rfl, cdX7_reduction, (ax_t5 (i := 75) rfl rfl), (ax_t5 (i := 76) rfl rfl), (ax_t5 (i := 77) rfl rfl), TX7, 25, rfl⟩
theorem lkL_163 : ax_lkH RL 163 mL_reduce := ⟨okL_reduce, cdL_reduce, (ax_t4 (i := 46) rfl rfl), (ax_t4 (i := 47) rfl rfl)⟩
theorem lkL_165 : ax_lkV RL 165 mX7_reduce 7 := ⟨okX7_reduce, rfl, cdX7_reduce, (ax_t5 (i := 79) rfl rfl), (ax_t5 (i := 80) rfl rfl), (ax_t5 (i := 81) rfl rfl), TX7, 25, rfl⟩
theorem lkL_166 : ax_lkV RL 166 mX6_digest 6 := ⟨okX6_digest, rfl, cdX6_digest, (ax_t2 (i := 122) rfl rfl), (ax_t2 (i := 123) rfl rfl), (ax_t2 (i := 124) rfl rfl), TX6, 6, rfl⟩
theorem lkL_170 : ax_lkV RL 170 mX7_digest 7 := ⟨okX7_digest, rfl, cdX7_digest, (ax_t5 (i := 83) rfl rfl), (ax_t5 (i := 84) rfl rfl), (ax_t5 (i := 85) rfl rfl), TX7, 25, rfl⟩
theorem lkX0_19 : ax_lkV RX0 19 mX0_appendValue 0 := ⟨okX0_appendValue, rfl, cdX0_appendValue, (ax_t2 (i := 135) rfl rfl), (ax_t2 (i := 137) rfl rfl), (ax_tp1 (i := 10) rfl rfl), TX0, 2, rfl⟩
theorem lkX0_28 : ax_lkV RX0 28 mX0_append 0 := ⟨okX0_append, rfl, cdX0_append, (ax_t2 (i := 139) rfl rfl), (ax_t2 (i := 141) rfl rfl), (ax_tp1 (i := 11) rfl rfl), TX0, 2, rfl⟩
theorem lkX0_35 : ax_lkV RX0 35 mX5_partAt 5 := ⟨okX5_partAt, rfl, cdX5_partAt, (ax_t2 (i := 143) rfl rfl), (ax_t2 (i := 144) rfl rfl), (ax_t2 (i := 145) rfl rfl), TX5, 16, rfl⟩
theorem lkX1_37 : ax_lkV RX1 37 mX1_isParameter 1 := ⟨okX1_isParameter, rfl, cdX1_isParameter, (ax_t3 (i := 52) rfl rfl), (ax_t3 (i := 54) rfl rfl), (ax_tp1 (i := 15) rfl rfl), TX1, 8, rfl⟩
theorem lkX1_41 : ax_lkV RX1 41 mX1_hasType 1 := ⟨okX1_hasType, rfl, cdX1_hasType, (ax_t3 (i := 56) rfl rfl), (ax_t3 (i := 29) rfl rfl), (ax_t3 (i := 30) rfl rfl), TX1, 8, rfl⟩
theorem lkX1_44 : ax_lkV RX1 44 mX1_hasConstructor 1 := ⟨okX1_hasConstructor, rfl, cdX1_hasConstructor, (ax_t2 (i := 35) rfl rfl), (ax_t2 (i := 36) rfl rfl), (ax_t2 (i := 37) rfl rfl), TX1, 8, rfl⟩
theorem lkX2_21 : ax_lkV RX2 21 mX2_at 2 := ⟨okX2_at, rfl, cdX2_at, (ax_t4 (i := 26) rfl rfl), (ax_t4 (i := 27) rfl rfl), (ax_t4 (i := 28) rfl rfl), TX2, 2, rfl⟩
theorem lkX2_25 : ax_lkV RX2 25 mX5_fits 5 := ⟨okX5_fits, rfl, cdX5_fits, (ax_t4 (i := 57) rfl rfl), (ax_t2 (i := 64) rfl rfl), (ax_t2 (i := 65) rfl rfl), TX5, 16, rfl⟩
theorem lkX2_32 : ax_lkV RX2 32 mX2_addPartsOf 2 := ⟨okX2_addPartsOf, rfl, cdX2_addPartsOf, (ax_t4 (i := 17) rfl rfl), (ax_t4 (i := 19) rfl rfl), (ax_tp2 (i := 7) rfl rfl), TX2, 2, rfl⟩
theorem lkX2_39 : ax_lkV RX2 39 mX3_upTo 3 := ⟨okX3_upTo, rfl, cdX3_upTo, (ax_t4 (i := 34) rfl rfl), (ax_t2 (i := 100) rfl rfl), (ax_t2 (i := 101) rfl rfl), TX3, 10, rfl⟩
theorem lkX2_48 : ax_lkV RX2 48 mX3_valueAt 3 := ⟨okX3_valueAt, rfl, cdX3_valueAt, (ax_t4 (i := 35) rfl rfl), (ax_t2 (i := 104) rfl rfl), (ax_t2 (i := 105) rfl rfl), TX3, 10, rfl⟩
theorem lkX2_52 : ax_lkV RX2 52 mX5_differsFrom 5 := ⟨okX5_differsFrom, rfl, cdX5_differsFrom, (ax_t4 (i := 36) rfl rfl), (ax_t3 (i := 188) rfl rfl), (ax_t3 (i := 189) rfl rfl), TX5, 16, rfl⟩
theorem lkX2_56 : ax_lkV RX2 56 mX2_append 2 := ⟨okX2_append, rfl, cdX2_append, (ax_t4 (i := 30) rfl rfl), (ax_t4 (i := 32) rfl rfl), (ax_tp2 (i := 9) rfl rfl), TX2, 2, rfl⟩
theorem lkX2_60 : ax_lkV RX2 60 mX5_partAt 5 := ⟨okX5_partAt, rfl, cdX5_partAt, (ax_t4 (i := 21) rfl rfl), (ax_t2 (i := 144) rfl rfl), (ax_t2 (i := 145) rfl rfl), TX5, 16, rfl⟩
theorem lkX2_63 : ax_lkV RX2 63 mX2_has 2 := ⟨okX2_has, rfl, cdX2_has, (ax_t4 (i := 22) rfl rfl), (ax_t4 (i := 24) rfl rfl), (ax_tp2 (i := 8) rfl rfl), TX2, 2, rfl⟩
theorem lkX3_21 : ax_lkI RX3 21 mX5_init := ⟨okX5_init, rfl, rfl, rfl, cdX5_init, (ax_t1 (i := 76) rfl rfl), (ax_t1 (i := 77) rfl rfl)⟩
theorem lkX3_55 : ax_lkV RX3 55 mX3_upTo 3 := ⟨okX3_upTo, rfl, cdX3_upTo, (ax_t2 (i := 99) rfl rfl), (ax_t2 (i := 100) rfl rfl), (ax_t2 (i := 101) rfl rfl), TX3, 10, rfl⟩
theorem lkX3_59 : ax_lkV RX3 59 mX3_valueAt 3 := ⟨okX3_valueAt, rfl, cdX3_valueAt, (ax_t2 (i := 103) rfl rfl), (ax_t2 (i := 104) rfl rfl), (ax_t2 (i := 105) rfl rfl), TX3, 10, rfl⟩
theorem lkX3_63 : ax_lkV RX3 63 mX5_differsFrom 5 := ⟨okX5_differsFrom, rfl, cdX5_differsFrom, (ax_t3 (i := 187) rfl rfl), (ax_t3 (i := 188) rfl rfl), (ax_t3 (i := 189) rfl rfl), TX5, 16, rfl⟩
theorem lkX3_67 : ax_lkV RX3 67 mX3_makeSize 3 := ⟨okX3_makeSize, rfl, cdX3_makeSize, (ax_t2 (i := 27) rfl rfl), (ax_t2 (i := 29) rfl rfl), (ax_tp1 (i := 0) rfl rfl), TX3, 10, rfl⟩
theorem lkX3_71 : ax_lkV RX3 71 mX3_closeSize 3 := ⟨okX3_closeSize, rfl, cdX3_closeSize, (ax_t2 (i := 118) rfl rfl), (ax_t2 (i := 120) rfl rfl), (ax_tp1 (i := 9) rfl rfl), TX3, 10, rfl⟩
theorem lkX3_79 : ax_lkV RX3 79 mX1_typeOf 1 := ⟨okX1_typeOf, rfl, cdX1_typeOf, (ax_t2 (i := 31) rfl rfl), (ax_t2 (i := 32) rfl rfl), (ax_t2 (i := 33) rfl rfl), TX1, 8, rfl⟩
theorem lkX3_83 : ax_lkV RX3 83 mX5_begin 5 := ⟨okX5_begin, rfl, cdX5_begin, (ax_t2 (i := 39) rfl rfl), (ax_t2 (i := 40) rfl rfl), (ax_t2 (i := 41) rfl rfl), TX5, 16, rfl⟩
theorem lkX3_87 : ax_lkV RX3 87 mX3_extend 3 := ⟨okX3_extend, rfl, cdX3_extend, (ax_t2 (i := 43) rfl rfl), (ax_t2 (i := 45) rfl rfl), (ax_tp1 (i := 1) rfl rfl), TX3, 10, rfl⟩
theorem lkX3_97 : ax_lkV RX3 97 mX1_parameter 1 := ⟨okX1_parameter, rfl, cdX1_parameter, (ax_t2 (i := 47) rfl rfl), (ax_t2 (i := 48) rfl rfl), (ax_t2 (i := 49) rfl rfl), TX1, 8, rfl⟩
theorem lkX3_100 : ax_lkV RX3 100 mX1_typesFrom 1 := ⟨okX1_typesFrom, rfl, cdX1_typesFrom, (ax_t2 (i := 51) rfl rfl), (ax_t2 (i := 52) rfl rfl), (ax_t2 (i := 53) rfl rfl), TX1, 8, rfl⟩
theorem lkX3_103 : ax_lkV RX3 103 mX3_isHopeless 3 := ⟨okX3_isHopeless, rfl, cdX3_isHopeless, (ax_t2 (i := 55) rfl rfl), (ax_t2 (i := 57) rfl rfl), (ax_tp1 (i := 2) rfl rfl), TX3, 10, rfl⟩
theorem lkX3_107 : ax_lkV RX3 107 mX3_keep 3 := ⟨okX3_keep, rfl, cdX3_keep, (ax_t2 (i := 71) rfl rfl), (ax_t2 (i := 73) rfl rfl), (ax_tp1 (i := 4) rfl rfl), TX3, 10, rfl⟩
theorem lkX3_111 : ax_lkV RX3 111 mX3_extendByNumbers 3 := ⟨okX3_extendByNumbers, rfl, cdX3_extendByNumbers, (ax_t2 (i := 79) rfl rfl), (ax_t2 (i := 81) rfl rfl), (ax_tp1 (i := 5) rfl rfl), TX3, 10, rfl⟩
theorem lkX3_114 : ax_lkV RX3 114 mX3_extendByParts 3 := ⟨okX3_extendByParts, rfl, cdX3_extendByParts, (ax_t2 (i := 95) rfl rfl), (ax_t2 (i := 97) rfl rfl), (ax_tp1 (i := 8) rfl rfl), TX3, 10, rfl⟩
theorem lkX3_118 : ax_lkV RX3 118 mX1_conditionOf 1 := ⟨okX1_conditionOf, rfl, cdX1_conditionOf, (ax_t2 (i := 59) rfl rfl), (ax_t2 (i := 60) rfl rfl), (ax_t2 (i := 61) rfl rfl), TX1, 8, rfl⟩
theorem lkX3_121 : ax_lkV RX3 121 mX5_fits 5 := ⟨okX5_fits, rfl, cdX5_fits, (ax_t2 (i := 63) rfl rfl), (ax_t2 (i := 64) rfl rfl), (ax_t2 (i := 65) rfl rfl), TX5, 16, rfl⟩
theorem lkX3_131 : ax_lkV RX3 131 mX3_copyToExtend 3 := ⟨okX3_copyToExtend, rfl, cdX3_copyToExtend, (ax_t2 (i := 83) rfl rfl), (ax_t2 (i := 85) rfl rfl), (ax_tp1 (i := 6) rfl rfl), TX3, 10, rfl⟩
theorem lkX3_135 : ax_lkV RX3 135 mX5_addNumber 5 := ⟨okX5_addNumber, rfl, cdX5_addNumber, (ax_t2 (i := 87) rfl rfl), (ax_t2 (i := 88) rfl rfl), (ax_t2 (i := 89) rfl rfl), TX5, 16, rfl⟩
theorem lkX3_138 : ax_lkV RX3 138 mX5_clashesWith 5 := ⟨okX5_clashesWith, rfl, cdX5_clashesWith, (ax_t2 (i := 107) rfl rfl), (ax_t2 (i := 108) rfl rfl), (ax_t2 (i := 109) rfl rfl), TX5, 16, rfl⟩
theorem lkX3_142 : ax_lkV RX3 142 mX5_addPart 5 := ⟨okX5_addPart, rfl, cdX5_addPart, (ax_t2 (i := 114) rfl rfl), (ax_t2 (i := 115) rfl rfl), (ax_t2 (i := 116) rfl rfl), TX5, 16, rfl⟩
theorem lkX3_145 : ax_lkV RX3 145 mX5_copyFrom 5 := ⟨okX5_copyFrom, rfl, cdX5_copyFrom, (ax_t2 (i := 75) rfl rfl), (ax_t2 (i := 76) rfl rfl), (ax_t2 (i := 77) rfl rfl), TX5, 16, rfl⟩
theorem lkX4_25 : ax_lkI RX4 25 mX5_init := ⟨okX5_init, rfl, rfl, rfl, cdX5_init, (ax_t1 (i := 186) rfl rfl), (ax_t1 (i := 77) rfl rfl)⟩
theorem lkX4_36 : ax_lkV RX4 36 mX4_parseValue 4 := ⟨okX4_parseValue, rfl, cdX4_parseValue, (ax_t3 (i := 162) rfl rfl), (ax_t3 (i := 164) rfl rfl), (ax_tp2 (i := 3) rfl rfl), TX4, 6, rfl⟩
theorem lkX4_40 : ax_lkV RX4 40 mX4_next 4 := ⟨okX4_next, rfl, cdX4_next, (ax_t3 (i := 166) rfl rfl), (ax_t3 (i := 168) rfl rfl), (ax_tp2 (i := 4) rfl rfl), TX4, 6, rfl⟩
theorem lkX4_44 : ax_lkV RX4 44 mX1_hasConstructor 1 := ⟨okX1_hasConstructor, rfl, cdX1_hasConstructor, (ax_t3 (i := 170) rfl rfl), (ax_t2 (i := 36) rfl rfl), (ax_t2 (i := 37) rfl rfl), TX1, 8, rfl⟩
theorem lkX4_50 : ax_lkV RX4 50 mX1_typeOf 1 := ⟨okX1_typeOf, rfl, cdX1_typeOf, (ax_t3 (i := 171) rfl rfl), (ax_t2 (i := 32) rfl rfl), (ax_t2 (i := 33) rfl rfl), TX1, 8, rfl⟩
theorem lkX4_54 : ax_lkV RX4 54 mX5_begin 5 := ⟨okX5_begin, rfl, cdX5_begin, (ax_t3 (i := 172) rfl rfl), (ax_t2 (i := 40) rfl rfl), (ax_t2 (i := 41) rfl rfl), TX5, 16, rfl⟩
theorem lkX4_58 : ax_lkV RX4 58 mX1_parameter 1 := ⟨okX1_parameter, rfl, cdX1_parameter, (ax_t3 (i := 173) rfl rfl), (ax_t2 (i := 48) rfl rfl), (ax_t2 (i := 49) rfl rfl), TX1, 8, rfl⟩
theorem lkX4_62 : ax_lkV RX4 62 mX4_parseArgument 4 := ⟨okX4_parseArgument, rfl, cdX4_parseArgument, (ax_t3 (i := 174) rfl rfl), (ax_t3 (i := 176) rfl rfl), (ax_tp2 (i := 5) rfl rfl), TX4, 6, rfl⟩
theorem lkX4_66 : ax_lkV RX4 66 mX1_conditionOf 1 := ⟨okX1_conditionOf, rfl, cdX1_conditionOf, (ax_t3 (i := 180) rfl rfl), (ax_t2 (i := 60) rfl rfl), (ax_t2 (i := 61) rfl rfl), TX1, 8, rfl⟩
theorem lkX4_69 : ax_lkV RX4 69 mX5_fits 5 := ⟨okX5_fits, rfl, cdX5_fits, (ax_t3 (i := 181) rfl rfl), (ax_t2 (i := 64) rfl rfl), (ax_t2 (i := 65) rfl rfl), TX5, 16, rfl⟩
theorem lkX4_78 : ax_lkV RX4 78 mX5_addNumber 5 := ⟨okX5_addNumber, rfl, cdX5_addNumber, (ax_t3 (i := 178) rfl rfl), (ax_t2 (i := 88) rfl rfl), (ax_t2 (i := 89) rfl rfl), TX5, 16, rfl⟩
theorem lkX4_82 : ax_lkV RX4 82 mX5_addPart 5 := ⟨okX5_addPart, rfl, cdX5_addPart, (ax_t3 (i := 179) rfl rfl), (ax_t2 (i := 115) rfl rfl), (ax_t2 (i := 116) rfl rfl), TX5, 16, rfl⟩
theorem lkX5_63 : ax_lkV RX5 63 mX5_joinInts 5 := ⟨okX5_joinInts, rfl, cdX5_joinInts, (ax_t2 (i := 91) rfl rfl), (ax_t2 (i := 93) rfl rfl), (ax_tp1 (i := 7) rfl rfl), TX5, 16, rfl⟩
theorem lkX5_67 : ax_lkV RX5 67 mX5_partsDiffer 5 := ⟨okX5_partsDiffer, rfl, cdX5_partsDiffer, (ax_t2 (i := 67) rfl rfl), (ax_t2 (i := 69) rfl rfl), (ax_tp1 (i := 3) rfl rfl), TX5, 16, rfl⟩
theorem lkX5_77 : ax_lkS RX5 77 mX5_distance := ⟨okX5_distance, rfl, cdX5_distance, (ax_t3 (i := 191) rfl rfl), (ax_t3 (i := 192) rfl rfl), rfl⟩
theorem lkX6_9 : ax_lkI RX6 9 mX1_init := ⟨okX1_init, rfl, rfl, rfl, cdX1_init, (ax_t1 (i := 28) rfl rfl), (ax_t1 (i := 29) rfl rfl)⟩
theorem lkX6_18 : ax_lkI RX6 18 mX3_init := ⟨okX3_init, rfl, rfl, rfl, cdX3_init, (ax_t1 (i := 69) rfl rfl), (ax_t1 (i := 70) rfl rfl)⟩
theorem lkX6_27 : ax_lkI RX6 27 mX4_init := ⟨okX4_init, rfl, rfl, rfl, cdX4_init, (ax_t1 (i := 181) rfl rfl), (ax_t1 (i := 182) rfl rfl)⟩
theorem lkX6_34 : ax_lkI RX6 34 mX0_init := ⟨okX0_init, rfl, rfl, rfl, cdX0_init, (ax_t1 (i := 209) rfl rfl), (ax_t1 (i := 210) rfl rfl)⟩
theorem lkX6_41 : ax_lkI RX6 41 mX2_init := ⟨okX2_init, rfl, rfl, rfl, cdX2_init, (ax_t1 (i := 223) rfl rfl), (ax_t1 (i := 224) rfl rfl)⟩
theorem lkX6_64 : ax_lkV RX6 64 mX6_forgetValues 6 := ⟨okX6_forgetValues, rfl, cdX6_forgetValues, (ax_t2 (i := 228) rfl rfl), (ax_t2 (i := 230) rfl rfl), (ax_tp1 (i := 13) rfl rfl), TX6, 6, rfl⟩
theorem lkX6_75 : ax_lkV RX6 75 mX6_requireType 6 := ⟨okX6_requireType, rfl, cdX6_requireType, (ax_t3 (i := 24) rfl rfl), (ax_t3 (i := 26) rfl rfl), (ax_tp1 (i := 14) rfl rfl), TX6, 6, rfl⟩
theorem lkX6_79 : ax_lkV RX6 79 mX1_allowsParameters 1 := ⟨okX1_allowsParameters, rfl, cdX1_allowsParameters, (ax_t3 (i := 48) rfl rfl), (ax_t3 (i := 49) rfl rfl), (ax_t3 (i := 50) rfl rfl), TX1, 8, rfl⟩
theorem lkX6_92 : ax_lkV RX6 92 mX1_append 1 := ⟨okX1_append, rfl, cdX1_append, (ax_t3 (i := 60) rfl rfl), (ax_t3 (i := 61) rfl rfl), (ax_t3 (i := 62) rfl rfl), TX1, 8, rfl⟩
theorem lkX6_96 : ax_lkV RX6 96 mX3_refresh 3 := ⟨okX3_refresh, rfl, cdX3_refresh, (ax_t2 (i := 23) rfl rfl), (ax_t2 (i := 24) rfl rfl), (ax_t2 (i := 25) rfl rfl), TX3, 10, rfl⟩
theorem lkX6_102 : ax_lkV RX6 102 mX6_requireSize 6 := ⟨okX6_requireSize, rfl, cdX6_requireSize, (ax_t3 (i := 71) rfl rfl), (ax_t3 (i := 73) rfl rfl), (ax_tp2 (i := 0) rfl rfl), TX6, 6, rfl⟩
theorem lkX6_105 : ax_lkV RX6 105 mX6_requireKnown 6 := ⟨okX6_requireKnown, rfl, cdX6_requireKnown, (ax_t3 (i := 76) rfl rfl), (ax_t3 (i := 78) rfl rfl), (ax_tp2 (i := 1) rfl rfl), TX6, 6, rfl⟩
theorem lkX6_108 : ax_lkV RX6 108 mX3_upTo 3 := ⟨okX3_upTo, rfl, cdX3_upTo, (ax_t3 (i := 81) rfl rfl), (ax_t2 (i := 100) rfl rfl), (ax_t2 (i := 101) rfl rfl), TX3, 10, rfl⟩
theorem lkX6_112 : ax_lkV RX6 112 mX6_requireProperty 6 := ⟨okX6_requireProperty, rfl, cdX6_requireProperty, (ax_t3 (i := 96) rfl rfl), (ax_t3 (i := 98) rfl rfl), (ax_tp2 (i := 2) rfl rfl), TX6, 6, rfl⟩
theorem lkX6_115 : ax_lkV RX6 115 mX3_valueAt 3 := ⟨okX3_valueAt, rfl, cdX3_valueAt, (ax_t3 (i := 101) rfl rfl), (ax_t2 (i := 104) rfl rfl), (ax_t2 (i := 105) rfl rfl), TX3, 10, rfl⟩
theorem lkX6_119 : ax_lkV RX6 119 mX5_fits 5 := ⟨okX5_fits, rfl, cdX5_fits, (ax_t3 (i := 102) rfl rfl), (ax_t2 (i := 64) rfl rfl), (ax_t2 (i := 65) rfl rfl), TX5, 16, rfl⟩
theorem lkX6_151 : ax_lkV RX6 151 mX4_append 4 := ⟨okX4_append, rfl, cdX4_append, (ax_t3 (i := 147) rfl rfl), (ax_t3 (i := 148) rfl rfl), (ax_t3 (i := 149) rfl rfl), TX4, 6, rfl⟩
theorem lkX6_153 : ax_lkV RX6 153 mX4_parse 4 := ⟨okX4_parse, rfl, cdX4_parse, (ax_t3 (i := 158) rfl rfl), (ax_t3 (i := 159) rfl rfl), (ax_t3 (i := 160) rfl rfl), TX4, 6, rfl⟩
theorem lkX6_159 : ax_lkV RX6 159 mX3_find 3 := ⟨okX3_find, rfl, cdX3_find, (ax_t3 (i := 183) rfl rfl), (ax_t3 (i := 184) rfl rfl), (ax_t3 (i := 185) rfl rfl), TX3, 10, rfl⟩
theorem lkX6_166 : ax_lkV RX6 166 mX6_chosen 6 := ⟨okX6_chosen, rfl, cdX6_chosen, (ax_t3 (i := 201) rfl rfl), (ax_t3 (i := 203) rfl rfl), (ax_tp2 (i := 6) rfl rfl), TX6, 6, rfl⟩
theorem lkX6_170 : ax_lkV RX6 170 mX5_codeLength 5 := ⟨okX5_codeLength, rfl, cdX5_codeLength, (ax_t3 (i := 206) rfl rfl), (ax_t3 (i := 207) rfl rfl), (ax_t3 (i := 208) rfl rfl), TX5, 16, rfl⟩
theorem lkX6_176 : ax_lkV RX6 176 mX0_write 0 := ⟨okX0_write, rfl, cdX0_write, (ax_t2 (i := 131) rfl rfl), (ax_t2 (i := 132) rfl rfl), (ax_t2 (i := 133) rfl rfl), TX0, 2, rfl⟩
theorem lkX6_180 : ax_lkV RX6 180 mX0_at 0 := ⟨okX0_at, rfl, cdX0_at, (ax_t2 (i := 147) rfl rfl), (ax_t2 (i := 148) rfl rfl), (ax_t2 (i := 149) rfl rfl), TX0, 2, rfl⟩
theorem lkX6_193 : ax_lkV RX6 193 mX2_collect 2 := ⟨okX2_collect, rfl, cdX2_collect, (ax_t4 (i := 13) rfl rfl), (ax_t4 (i := 14) rfl rfl), (ax_t4 (i := 15) rfl rfl), TX2, 2, rfl⟩
theorem lkX6_198 : ax_lkV RX6 198 mX2_at 2 := ⟨okX2_at, rfl, cdX2_at, (ax_t4 (i := 44) rfl rfl), (ax_t4 (i := 27) rfl rfl), (ax_t4 (i := 28) rfl rfl), TX2, 2, rfl⟩
theorem lkX6_202 : ax_lkV RX6 202 mX2_firstUnfit 2 := ⟨okX2_firstUnfit, rfl, cdX2_firstUnfit, (ax_t4 (i := 53) rfl rfl), (ax_t4 (i := 54) rfl rfl), (ax_t4 (i := 55) rfl rfl), TX2, 2, rfl⟩
theorem lkX6_209 : ax_lkV RX6 209 mX1_typeOf 1 := ⟨okX1_typeOf, rfl, cdX1_typeOf, (ax_t2 (i := 128) rfl rfl), (ax_t2 (i := 32) rfl rfl), (ax_t2 (i := 33) rfl rfl), TX1, 8, rfl⟩
theorem lkX6_212 : ax_lkV RX6 212 mX1_parameter 1 := ⟨okX1_parameter, rfl, cdX1_parameter, (ax_t2 (i := 129) rfl rfl), (ax_t2 (i := 48) rfl rfl), (ax_t2 (i := 49) rfl rfl), TX1, 8, rfl⟩
theorem lkX6_215 : ax_lkV RX6 215 mX1_conditionOf 1 := ⟨okX1_conditionOf, rfl, cdX1_conditionOf, (ax_t2 (i := 130) rfl rfl), (ax_t2 (i := 60) rfl rfl), (ax_t2 (i := 61) rfl rfl), TX1, 8, rfl⟩
theorem lkX6_225 : ax_lkV RX6 225 mX1_hasType 1 := ⟨okX1_hasType, rfl, cdX1_hasType, (ax_t3 (i := 28) rfl rfl), (ax_t3 (i := 29) rfl rfl), (ax_t3 (i := 30) rfl rfl), TX1, 8, rfl⟩
theorem lkX7_58 : ax_lkS RX7 58 mX7_isIn := ⟨okX7_isIn, rfl, cdX7_isIn, (ax_t4 (i := 170) rfl rfl), (ax_t4 (i := 171) rfl rfl), rfl⟩
theorem lkX7_69 : ax_lkV RX7 69 mX7_change 7 := ⟨okX7_change, rfl, cdX7_change, (ax_t4 (i := 150) rfl rfl), (ax_t4 (i := 152) rfl rfl), (ax_tp2 (i := 10) rfl rfl), TX7, 25, rfl⟩
theorem lkX7_72 : ax_lkV RX7 72 mX7_fail 7 := ⟨okX7_fail, rfl, cdX7_fail, (ax_t4 (i := 158) rfl rfl), (ax_t4 (i := 160) rfl rfl), (ax_tp2 (i := 11) rfl rfl), TX7, 25, rfl⟩
theorem lkX7_76 : ax_lkV RX7 76 mX7_isType 7 := ⟨okX7_isType, rfl, cdX7_isType, (ax_t4 (i := 166) rfl rfl), (ax_t4 (i := 168) rfl rfl), (ax_tp2 (i := 12) rfl rfl), TX7, 25, rfl⟩
theorem lkX7_83 : ax_lkV RX7 83 mX7_look 7 := ⟨okX7_look, rfl, cdX7_look, (ax_t4 (i := 203) rfl rfl), (ax_t4 (i := 205) rfl rfl), (ax_tp3 (i := 1) rfl rfl), TX7, 25, rfl⟩
theorem lkX7_102 : ax_lkV RX7 102 mX7_isTrue 7 := ⟨okX7_isTrue, rfl, cdX7_isTrue, (ax_t4 (i := 213) rfl rfl), (ax_t4 (i := 215) rfl rfl), (ax_tp3 (i := 2) rfl rfl), TX7, 25, rfl⟩
theorem lkX7_106 : ax_lkV RX7 106 mX7_end 7 := ⟨okX7_end, rfl, cdX7_end, (ax_t4 (i := 217) rfl rfl), (ax_t4 (i := 219) rfl rfl), (ax_tp3 (i := 3) rfl rfl), TX7, 25, rfl⟩
theorem lkX7_110 : ax_lkV RX7 110 mX7_value 7 := ⟨okX7_value, rfl, cdX7_value, (ax_t4 (i := 193) rfl rfl), (ax_t4 (i := 195) rfl rfl), (ax_tp3 (i := 0) rfl rfl), TX7, 25, rfl⟩
theorem lkX7_113 : ax_lkV RX7 113 mX7_choices 7 := ⟨okX7_choices, rfl, cdX7_choices, (ax_t4 (i := 189) rfl rfl), (ax_t4 (i := 191) rfl rfl), (ax_tp2 (i := 15) rfl rfl), TX7, 25, rfl⟩
theorem lkX7_117 : ax_lkS RX7 117 mX7_constructorsIn := ⟨okX7_constructorsIn, rfl, cdX7_constructorsIn, (ax_t4 (i := 197) rfl rfl), (ax_t4 (i := 198) rfl rfl), rfl⟩
theorem lkX7_133 : ax_lkV RX7 133 mX7_write 7 := ⟨okX7_write, rfl, cdX7_write, (ax_t4 (i := 185) rfl rfl), (ax_t4 (i := 187) rfl rfl), (ax_tp2 (i := 14) rfl rfl), TX7, 25, rfl⟩
theorem lkX7_137 : ax_lkV RX7 137 mX7_make 7 := ⟨okX7_make, rfl, cdX7_make, (ax_t4 (i := 181) rfl rfl), (ax_t4 (i := 183) rfl rfl), (ax_tp2 (i := 13) rfl rfl), TX7, 25, rfl⟩
theorem lkX7_140 : ax_lkV RX7 140 mX7_asks 7 := ⟨okX7_asks, rfl, cdX7_asks, (ax_t4 (i := 225) rfl rfl), (ax_t4 (i := 227) rfl rfl), (ax_tp3 (i := 4) rfl rfl), TX7, 25, rfl⟩
theorem lkX7_143 : ax_lkV RX7 143 mX7_upTo 7 := ⟨okX7_upTo, rfl, cdX7_upTo, (ax_t4 (i := 229) rfl rfl), (ax_t4 (i := 231) rfl rfl), (ax_tp3 (i := 5) rfl rfl), TX7, 25, rfl⟩
theorem lkX7_146 : ax_lkV RX7 146 mX7_isTrueOf 7 := ⟨okX7_isTrueOf, rfl, cdX7_isTrueOf, (ax_t5 (i := 1) rfl rfl), (ax_t5 (i := 3) rfl rfl), (ax_tp3 (i := 6) rfl rfl), TX7, 25, rfl⟩
theorem lkX7_152 : ax_lkV RX7 152 mX7_choose 7 := ⟨okX7_choose, rfl, cdX7_choose, (ax_t5 (i := 9) rfl rfl), (ax_t5 (i := 11) rfl rfl), (ax_tp3 (i := 7) rfl rfl), TX7, 25, rfl⟩
theorem lkX7_163 : ax_lkV RX7 163 mX7_find 7 := ⟨okX7_find, rfl, cdX7_find, (ax_t5 (i := 27) rfl rfl), (ax_t5 (i := 29) rfl rfl), (ax_tp3 (i := 8) rfl rfl), TX7, 25, rfl⟩
theorem lkX7_167 : ax_lkV RX7 167 mX7_has 7 := ⟨okX7_has, rfl, cdX7_has, (ax_t5 (i := 35) rfl rfl), (ax_t5 (i := 37) rfl rfl), (ax_tp3 (i := 9) rfl rfl), TX7, 25, rfl⟩
theorem lkX7_171 : ax_lkV RX7 171 mX7_current 7 := ⟨okX7_current, rfl, cdX7_current, (ax_t5 (i := 39) rfl rfl), (ax_t5 (i := 41) rfl rfl), (ax_tp3 (i := 10) rfl rfl), TX7, 25, rfl⟩
theorem lkX7_178 : ax_lkV RX7 178 mX7_add 7 := ⟨okX7_add, rfl, cdX7_add, (ax_t5 (i := 71) rfl rfl), (ax_t5 (i := 73) rfl rfl), (ax_tp3 (i := 12) rfl rfl), TX7, 25, rfl⟩
theorem lkX7_182 : ax_lkV RX7 182 mX7_findReductions 7 := ⟨okX7_findReductions, rfl, cdX7_findReductions, (ax_t5 (i := 67) rfl rfl), (ax_t5 (i := 69) rfl rfl), (ax_tp3 (i := 11) rfl rfl), TX7, 25, rfl⟩
theorem oiX0_3 : Cond.methodLink RX0 3 Lib.objectInit ∈ ax_all := (ax_t1 (i := 212) rfl rfl)
theorem oiX1_3 : Cond.methodLink RX1 3 Lib.objectInit ∈ ax_all := (ax_t1 (i := 31) rfl rfl)
theorem oiX2_3 : Cond.methodLink RX2 3 Lib.objectInit ∈ ax_all := (ax_t1 (i := 226) rfl rfl)
theorem oiX3_3 : Cond.methodLink RX3 3 Lib.objectInit ∈ ax_all := (ax_t1 (i := 72) rfl rfl)
theorem oiX4_3 : Cond.methodLink RX4 3 Lib.objectInit ∈ ax_all := (ax_t1 (i := 184) rfl rfl)
theorem oiX5_3 : Cond.methodLink RX5 3 Lib.objectInit ∈ ax_all := (ax_t1 (i := 79) rfl rfl)
theorem oiX6_1 : Cond.methodLink RX6 1 Lib.objectInit ∈ ax_all := (ax_t1 (i := 23) rfl rfl)
theorem oiX7_1 : Cond.methodLink RX7 1 Lib.objectInit ∈ ax_all := (ax_t4 (i := 63) rfl rfl)
theorem ax_oiI : Cond.instanceMethod Lib.objectInit ∈ ax_all := (ax_t1 (i := 24) rfl rfl)
theorem ax_oiC : Cond.code Lib.objectInit ⟨#[0xb1]⟩ 1 none ∈ ax_all := (ax_t1 (i := 25) rfl rfl)
theorem mlX5_71 : Cond.methodLink RX5 71 Lib.Math.abs.name ∈ ax_all := (ax_t2 (i := 111) rfl rfl)
theorem mlX7_93 : Cond.methodLink RX7 93 Lib.Math.min.name ∈ ax_all := (ax_t4 (i := 207) rfl rfl)
theorem mlX7_99 : Cond.methodLink RX7 99 Lib.Math.max.name ∈ ax_all := (ax_t4 (i := 210) rfl rfl)
theorem mlX7_121 : Cond.methodLink RX7 121 arraycopyName ∈ ax_all := (ax_t4 (i := 200) rfl rfl)
theorem ax_mS_min : Cond.static Lib.Math.min.name ∈ ax_all := (ax_t4 (i := 208) rfl rfl)
theorem ax_mC_min : Cond.code Lib.Math.min.name Lib.Math.min.code 2 (some .int) ∈ ax_all := (ax_t4 (i := 209) rfl rfl)
theorem ax_mS_max : Cond.static Lib.Math.max.name ∈ ax_all := (ax_t4 (i := 211) rfl rfl)
theorem ax_mC_max : Cond.code Lib.Math.max.name Lib.Math.max.code 2 (some .int) ∈ ax_all := (ax_t4 (i := 212) rfl rfl)
theorem ax_mS_abs : Cond.static Lib.Math.abs.name ∈ ax_all := (ax_t2 (i := 112) rfl rfl)
theorem ax_mC_abs : Cond.code Lib.Math.abs.name Lib.Math.abs.code 1 (some .int) ∈ ax_all := (ax_t2 (i := 113) rfl rfl)
theorem ax_iMath : Cond.initialized "java/lang/Math" ∈ ax_all := (ax_t1 (i := 15) rfl rfl)
theorem ax_iSys : Cond.initialized "java/lang/System" ∈ ax_all := (ax_t1 (i := 16) rfl rfl)
theorem ax_cN : Cond.native arraycopyName ∈ ax_all := (ax_t4 (i := 202) rfl rfl)
theorem ax_cS : Cond.static arraycopyName ∈ ax_all := (ax_t4 (i := 201) rfl rfl)
theorem ax_aI : Cond.arrayClass .int ∈ ax_all := (ax_t1 (i := 66) rfl rfl)
theorem ax_aJ : Cond.arrayClass .long ∈ ax_all := (ax_t5 (i := 90) rfl rfl)
theorem ax_aD : Cond.arrayClass .double ∈ ax_all := (ax_t5 (i := 91) rfl rfl)
theorem anX2_9 : Cond.classLink RX2 9 "DataMaker$Value" ∈ ax_all := (ax_t1 (i := 227) rfl rfl)
theorem anX3_15 : Cond.classLink RX3 15 "DataMaker$Value" ∈ ax_all := (ax_t1 (i := 73) rfl rfl)
theorem anX4_19 : Cond.classLink RX4 19 "DataMaker$Value" ∈ ax_all := (ax_t1 (i := 185) rfl rfl)
theorem anX5_10 : Cond.classLink RX5 10 "DataMaker$Value" ∈ ax_all := (ax_t1 (i := 80) rfl rfl)
theorem anX7_29 : Cond.classLink RX7 29 (FieldType.array .int).toString ∈ ax_all := (ax_t4 (i := 64) rfl rfl)
theorem lcL_125 : Cond.constantLong RL 125 4294967295 ∈ ax_all := (ax_t5 (i := 89) rfl rfl)
theorem lcX6_140 : Cond.constantLong RX6 140 6364136223846793005 ∈ ax_all := (ax_t3 (i := 136) rfl rfl)
theorem lcX6_142 : Cond.constantLong RX6 142 1442695040888963407 ∈ ax_all := (ax_t3 (i := 137) rfl rfl)
theorem lcX6_205 : Cond.constantLong RX6 205 137 ∈ ax_all := (ax_t2 (i := 126) rfl rfl)
theorem lcX6_207 : Cond.constantLong RX6 207 31 ∈ ax_all := (ax_t2 (i := 127) rfl rfl)
theorem lcX7_156 : Cond.constantLong RX7 156 6364136223846793005 ∈ ax_all := (ax_t5 (i := 17) rfl rfl)
theorem lcX7_158 : Cond.constantLong RX7 158 1442695040888963407 ∈ ax_all := (ax_t5 (i := 18) rfl rfl)
theorem lcX7_185 : Cond.constantLong RX7 185 4247 ∈ ax_all := (ax_t5 (i := 87) rfl rfl)
theorem lcX7_187 : Cond.constantLong RX7 187 31 ∈ ax_all := (ax_t5 (i := 88) rfl rfl)
theorem tkIAE : Cond.classLink RX6 50 "java/lang/IllegalArgumentException" ∈ ax_all := (ax_t2 (i := 159) rfl rfl)
theorem tiIAE : Cond.initialized "java/lang/IllegalArgumentException" ∈ ax_all := (ax_t1 (i := 12) rfl rfl)
theorem tkISE : Cond.classLink RX6 70 "java/lang/IllegalStateException" ∈ ax_all := (ax_t3 (i := 0) rfl rfl)
theorem tiISE : Cond.initialized "java/lang/IllegalStateException" ∈ ax_all := (ax_t1 (i := 13) rfl rfl)
theorem tkIOB : Cond.classLink RX6 125 "java/lang/IndexOutOfBoundsException" ∈ ax_all := (ax_t3 (i := 32) rfl rfl)
theorem tiIOB : Cond.initialized "java/lang/IndexOutOfBoundsException" ∈ ax_all := (ax_t1 (i := 14) rfl rfl)
theorem tkNSE : Cond.classLink RX6 135 "java/util/NoSuchElementException" ∈ ax_all := (ax_t3 (i := 120) rfl rfl)
theorem tiNSE : Cond.initialized "java/util/NoSuchElementException" ∈ ax_all := (ax_t1 (i := 17) rfl rfl)
theorem hkIAE : Cond.classLink RL 13 "java/lang/IllegalArgumentException" ∈ ax_all := (ax_t2 (i := 154) rfl rfl)
theorem hkISE : Cond.classLink RL 19 "java/lang/IllegalStateException" ∈ ax_all := (ax_t2 (i := 235) rfl rfl)
theorem hkIOB : Cond.classLink RL 25 "java/lang/IndexOutOfBoundsException" ∈ ax_all := (ax_t3 (i := 19) rfl rfl)
theorem hkNSE : Cond.classLink RL 45 "java/util/NoSuchElementException" ∈ ax_all := (ax_t3 (i := 115) rfl rfl)
end
section
theorem ax_atS_of {own cls : String} {ic : Nat} (h1 : ∀ w ∈ (vx_atS own ic cls ax_nms).filter goodWord, w ∈ lw_tbl) (h2 : ∀ w ∈ (vx_atS own ic cls ax_nms).filter (fun w => !goodWord w), w ∈ ax_bad) : ∀ w ∈ vx_atS own ic cls ax_nms, w ∈ ax_all ∨ w ∈ ax_bad := by
  intro w hw
  by_cases hg : goodWord w = true
  · exact Or.inl (List.mem_filter.mpr ⟨h1 w (List.mem_filter.mpr ⟨hw, hg⟩), hg⟩)
  · exact Or.inr (h2 w (List.mem_filter.mpr ⟨hw, by simpa using hg⟩))
theorem atIAE : ∀ w ∈ vx_atS RX6 54 "java/lang/IllegalArgumentException" ax_nms, w ∈ ax_all ∨ w ∈ ax_bad := ax_atS_of (by decide +kernel) (by decide +kernel)
theorem thIAE {is : Nat} {text : String} (h : (RX6, is, text) ∈ ax_strs) : ax_th RX6 50 is 54 "java/lang/IllegalArgumentException" text := ⟨by decide +kernel, by decide +kernel, tkIAE, tiIAE, h, atIAE⟩
theorem atISE : ∀ w ∈ vx_atS RX6 74 "java/lang/IllegalStateException" ax_nms, w ∈ ax_all ∨ w ∈ ax_bad := ax_atS_of (by decide +kernel) (by decide +kernel)
theorem thISE {is : Nat} {text : String} (h : (RX6, is, text) ∈ ax_strs) : ax_th RX6 70 is 74 "java/lang/IllegalStateException" text := ⟨by decide +kernel, by decide +kernel, tkISE, tiISE, h, atISE⟩
theorem atIOB : ∀ w ∈ vx_atS RX6 129 "java/lang/IndexOutOfBoundsException" ax_nms, w ∈ ax_all ∨ w ∈ ax_bad := ax_atS_of (by decide +kernel) (by decide +kernel)
theorem thIOB {is : Nat} {text : String} (h : (RX6, is, text) ∈ ax_strs) : ax_th RX6 125 is 129 "java/lang/IndexOutOfBoundsException" text := ⟨by decide +kernel, by decide +kernel, tkIOB, tiIOB, h, atIOB⟩
end
section
theorem dX0_init_0 : decode cX0_init 0 = .ok (.aload_n 0, 1) := by decide +kernel
theorem dX0_init_1 : decode cX0_init 1 = .ok (.invokespecial 3, 3) := by decide +kernel
theorem dX0_init_4 : decode cX0_init 4 = .ok (.aload_n 0, 1) := by decide +kernel
theorem dX0_init_5 : decode cX0_init 5 = .ok (.bipush 32, 2) := by decide +kernel
theorem dX0_init_7 : decode cX0_init 7 = .ok (.newarray .int, 2) := by decide +kernel
theorem dX0_init_9 : decode cX0_init 9 = .ok (.putfield 9, 3) := by decide +kernel
theorem dX0_init_12 : decode cX0_init 12 = .ok (.aload_n 0, 1) := by decide +kernel
theorem dX0_init_13 : decode cX0_init 13 = .ok (.iconst 0, 1) := by decide +kernel
theorem dX0_init_14 : decode cX0_init 14 = .ok (.putfield 15, 3) := by decide +kernel
theorem dX0_init_17 : decode cX0_init 17 = .ok (.return_, 1) := by decide +kernel
theorem dX0_at_0 : decode cX0_at 0 = .ok (.iload_n 1, 1) := by decide +kernel
theorem dX0_at_1 : decode cX0_at 1 = .ok (.ifCond .lt 29, 3) := by decide +kernel
theorem dX0_at_4 : decode cX0_at 4 = .ok (.iload_n 1, 1) := by decide +kernel
theorem dX0_at_5 : decode cX0_at 5 = .ok (.aload_n 0, 1) := by decide +kernel
theorem dX0_at_6 : decode cX0_at 6 = .ok (.getfield 15, 3) := by decide +kernel
theorem dX0_at_9 : decode cX0_at 9 = .ok (.if_icmp .ge 21, 3) := by decide +kernel
theorem dX0_at_12 : decode cX0_at 12 = .ok (.iload_n 1, 1) := by decide +kernel
theorem dX0_at_13 : decode cX0_at 13 = .ok (.aload_n 0, 1) := by decide +kernel
theorem dX0_at_14 : decode cX0_at 14 = .ok (.getfield 9, 3) := by decide +kernel
theorem dX0_at_17 : decode cX0_at 17 = .ok (.arraylength, 1) := by decide +kernel
theorem dX0_at_18 : decode cX0_at 18 = .ok (.if_icmp .ge 12, 3) := by decide +kernel
theorem dX0_at_21 : decode cX0_at 21 = .ok (.aload_n 0, 1) := by decide +kernel
theorem dX0_at_22 : decode cX0_at 22 = .ok (.getfield 9, 3) := by decide +kernel
theorem dX0_at_25 : decode cX0_at 25 = .ok (.iload_n 1, 1) := by decide +kernel
theorem dX0_at_26 : decode cX0_at 26 = .ok (.iaload, 1) := by decide +kernel
theorem dX0_at_27 : decode cX0_at 27 = .ok (.goto 4, 3) := by decide +kernel
theorem dX0_at_30 : decode cX0_at 30 = .ok (.iconst (-1), 1) := by decide +kernel
theorem dX0_at_31 : decode cX0_at 31 = .ok (.ireturn, 1) := by decide +kernel
theorem dX0_write_0 : decode cX0_write 0 = .ok (.aload_n 0, 1) := by decide +kernel
theorem dX0_write_1 : decode cX0_write 1 = .ok (.iconst 0, 1) := by decide +kernel
theorem dX0_write_2 : decode cX0_write 2 = .ok (.putfield 15, 3) := by decide +kernel
theorem dX0_write_5 : decode cX0_write 5 = .ok (.aload_n 0, 1) := by decide +kernel
theorem dX0_write_6 : decode cX0_write 6 = .ok (.aload_n 1, 1) := by decide +kernel
theorem dX0_write_7 : decode cX0_write 7 = .ok (.iconst 0, 1) := by decide +kernel
theorem dX0_write_8 : decode cX0_write 8 = .ok (.invokevirtual 19, 3) := by decide +kernel
theorem dX0_write_11 : decode cX0_write 11 = .ok (.return_, 1) := by decide +kernel
theorem dX0_appendValue_0 : decode cX0_appendValue 0 = .ok (.iload_n 2, 1) := by decide +kernel
theorem dX0_appendValue_1 : decode cX0_appendValue 1 = .ok (.bipush 8, 2) := by decide +kernel
theorem dX0_appendValue_3 : decode cX0_appendValue 3 = .ok (.if_icmp .le 4, 3) := by decide +kernel
theorem dX0_appendValue_6 : decode cX0_appendValue 6 = .ok (.return_, 1) := by decide +kernel
theorem dX0_appendValue_7 : decode cX0_appendValue 7 = .ok (.aload_n 0, 1) := by decide +kernel
theorem dX0_appendValue_8 : decode cX0_appendValue 8 = .ok (.bipush 100, 2) := by decide +kernel
theorem dX0_appendValue_10 : decode cX0_appendValue 10 = .ok (.aload_n 1, 1) := by decide +kernel
theorem dX0_appendValue_11 : decode cX0_appendValue 11 = .ok (.getfield 23, 3) := by decide +kernel
theorem dX0_appendValue_14 : decode cX0_appendValue 14 = .ok (.iadd, 1) := by decide +kernel
theorem dX0_appendValue_15 : decode cX0_appendValue 15 = .ok (.invokevirtual 28, 3) := by decide +kernel
theorem dX0_appendValue_18 : decode cX0_appendValue 18 = .ok (.iconst 0, 1) := by decide +kernel
theorem dX0_appendValue_19 : decode cX0_appendValue 19 = .ok (.istore_n 3, 1) := by decide +kernel
theorem dX0_appendValue_20 : decode cX0_appendValue 20 = .ok (.iload_n 3, 1) := by decide +kernel
theorem dX0_appendValue_21 : decode cX0_appendValue 21 = .ok (.aload_n 1, 1) := by decide +kernel
theorem dX0_appendValue_22 : decode cX0_appendValue 22 = .ok (.getfield 32, 3) := by decide +kernel
theorem dX0_appendValue_25 : decode cX0_appendValue 25 = .ok (.if_icmp .ge 48, 3) := by decide +kernel
theorem dX0_appendValue_28 : decode cX0_appendValue 28 = .ok (.iload_n 3, 1) := by decide +kernel
theorem dX0_appendValue_29 : decode cX0_appendValue 29 = .ok (.iconst 3, 1) := by decide +kernel
theorem dX0_appendValue_30 : decode cX0_appendValue 30 = .ok (.if_icmp .ge 43, 3) := by decide +kernel
theorem dX0_appendValue_33 : decode cX0_appendValue 33 = .ok (.aload_n 1, 1) := by decide +kernel
theorem dX0_appendValue_34 : decode cX0_appendValue 34 = .ok (.iload_n 3, 1) := by decide +kernel
theorem dX0_appendValue_35 : decode cX0_appendValue 35 = .ok (.invokevirtual 35, 3) := by decide +kernel
theorem dX0_appendValue_38 : decode cX0_appendValue 38 = .ok (.astore 4, 2) := by decide +kernel
theorem dX0_appendValue_40 : decode cX0_appendValue 40 = .ok (.aload 4, 2) := by decide +kernel
theorem dX0_appendValue_42 : decode cX0_appendValue 42 = .ok (.ifnull 15, 3) := by decide +kernel
theorem dX0_appendValue_45 : decode cX0_appendValue 45 = .ok (.aload_n 0, 1) := by decide +kernel
theorem dX0_appendValue_46 : decode cX0_appendValue 46 = .ok (.aload 4, 2) := by decide +kernel
theorem dX0_appendValue_48 : decode cX0_appendValue 48 = .ok (.iload_n 2, 1) := by decide +kernel
theorem dX0_appendValue_49 : decode cX0_appendValue 49 = .ok (.iconst 1, 1) := by decide +kernel
theorem dX0_appendValue_50 : decode cX0_appendValue 50 = .ok (.iadd, 1) := by decide +kernel
theorem dX0_appendValue_51 : decode cX0_appendValue 51 = .ok (.invokevirtual 19, 3) := by decide +kernel
theorem dX0_appendValue_54 : decode cX0_appendValue 54 = .ok (.goto 13, 3) := by decide +kernel
theorem dX0_appendValue_57 : decode cX0_appendValue 57 = .ok (.aload_n 0, 1) := by decide +kernel
theorem dX0_appendValue_58 : decode cX0_appendValue 58 = .ok (.aload_n 1, 1) := by decide +kernel
theorem dX0_appendValue_59 : decode cX0_appendValue 59 = .ok (.getfield 39, 3) := by decide +kernel
theorem dX0_appendValue_62 : decode cX0_appendValue 62 = .ok (.iload_n 3, 1) := by decide +kernel
theorem dX0_appendValue_63 : decode cX0_appendValue 63 = .ok (.iaload, 1) := by decide +kernel
theorem dX0_appendValue_64 : decode cX0_appendValue 64 = .ok (.invokevirtual 28, 3) := by decide +kernel
theorem dX0_appendValue_67 : decode cX0_appendValue 67 = .ok (.iinc 3 1, 3) := by decide +kernel
theorem dX0_appendValue_70 : decode cX0_appendValue 70 = .ok (.goto (-50), 3) := by decide +kernel
theorem dX0_appendValue_73 : decode cX0_appendValue 73 = .ok (.return_, 1) := by decide +kernel
theorem dX0_append_0 : decode cX0_append 0 = .ok (.aload_n 0, 1) := by decide +kernel
theorem dX0_append_1 : decode cX0_append 1 = .ok (.getfield 15, 3) := by decide +kernel
theorem dX0_append_4 : decode cX0_append 4 = .ok (.ifCond .lt 35, 3) := by decide +kernel
theorem dX0_append_7 : decode cX0_append 7 = .ok (.aload_n 0, 1) := by decide +kernel
theorem dX0_append_8 : decode cX0_append 8 = .ok (.getfield 15, 3) := by decide +kernel
theorem dX0_append_11 : decode cX0_append 11 = .ok (.aload_n 0, 1) := by decide +kernel
theorem dX0_append_12 : decode cX0_append 12 = .ok (.getfield 9, 3) := by decide +kernel
theorem dX0_append_15 : decode cX0_append 15 = .ok (.arraylength, 1) := by decide +kernel
theorem dX0_append_16 : decode cX0_append 16 = .ok (.if_icmp .ge 23, 3) := by decide +kernel
theorem dX0_append_19 : decode cX0_append 19 = .ok (.aload_n 0, 1) := by decide +kernel
theorem dX0_append_20 : decode cX0_append 20 = .ok (.getfield 9, 3) := by decide +kernel
theorem dX0_append_23 : decode cX0_append 23 = .ok (.aload_n 0, 1) := by decide +kernel
theorem dX0_append_24 : decode cX0_append 24 = .ok (.getfield 15, 3) := by decide +kernel
theorem dX0_append_27 : decode cX0_append 27 = .ok (.iload_n 1, 1) := by decide +kernel
theorem dX0_append_28 : decode cX0_append 28 = .ok (.iastore, 1) := by decide +kernel
theorem dX0_append_29 : decode cX0_append 29 = .ok (.aload_n 0, 1) := by decide +kernel
theorem dX0_append_30 : decode cX0_append 30 = .ok (.dup, 1) := by decide +kernel
theorem dX0_append_31 : decode cX0_append 31 = .ok (.getfield 15, 3) := by decide +kernel
theorem dX0_append_34 : decode cX0_append 34 = .ok (.iconst 1, 1) := by decide +kernel
theorem dX0_append_35 : decode cX0_append 35 = .ok (.iadd, 1) := by decide +kernel
theorem dX0_append_36 : decode cX0_append 36 = .ok (.putfield 15, 3) := by decide +kernel
theorem dX0_append_39 : decode cX0_append 39 = .ok (.return_, 1) := by decide +kernel
theorem dX1_init_0 : decode cX1_init 0 = .ok (.aload_n 0, 1) := by decide +kernel
theorem dX1_init_1 : decode cX1_init 1 = .ok (.invokespecial 3, 3) := by decide +kernel
theorem dX1_init_4 : decode cX1_init 4 = .ok (.aload_n 0, 1) := by decide +kernel
theorem dX1_init_5 : decode cX1_init 5 = .ok (.iconst 0, 1) := by decide +kernel
theorem dX1_init_6 : decode cX1_init 6 = .ok (.putfield 9, 3) := by decide +kernel
theorem dX1_init_9 : decode cX1_init 9 = .ok (.aload_n 0, 1) := by decide +kernel
theorem dX1_init_10 : decode cX1_init 10 = .ok (.iconst 2, 1) := by decide +kernel
theorem dX1_init_11 : decode cX1_init 11 = .ok (.putfield 15, 3) := by decide +kernel
theorem dX1_init_14 : decode cX1_init 14 = .ok (.aload_n 0, 1) := by decide +kernel
theorem dX1_init_15 : decode cX1_init 15 = .ok (.iconst 0, 1) := by decide +kernel
theorem dX1_init_16 : decode cX1_init 16 = .ok (.putfield 18, 3) := by decide +kernel
theorem dX1_init_19 : decode cX1_init 19 = .ok (.aload_n 0, 1) := by decide +kernel
theorem dX1_init_20 : decode cX1_init 20 = .ok (.iconst 0, 1) := by decide +kernel
theorem dX1_init_21 : decode cX1_init 21 = .ok (.putfield 21, 3) := by decide +kernel
theorem dX1_init_24 : decode cX1_init 24 = .ok (.aload_n 0, 1) := by decide +kernel
theorem dX1_init_25 : decode cX1_init 25 = .ok (.bipush 6, 2) := by decide +kernel
theorem dX1_init_27 : decode cX1_init 27 = .ok (.newarray .int, 2) := by decide +kernel
theorem dX1_init_29 : decode cX1_init 29 = .ok (.putfield 24, 3) := by decide +kernel
theorem dX1_init_32 : decode cX1_init 32 = .ok (.aload_n 0, 1) := by decide +kernel
theorem dX1_init_33 : decode cX1_init 33 = .ok (.bipush 18, 2) := by decide +kernel
theorem dX1_init_35 : decode cX1_init 35 = .ok (.newarray .int, 2) := by decide +kernel
theorem dX1_init_37 : decode cX1_init 37 = .ok (.putfield 28, 3) := by decide +kernel
theorem dX1_init_40 : decode cX1_init 40 = .ok (.aload_n 0, 1) := by decide +kernel
theorem dX1_init_41 : decode cX1_init 41 = .ok (.bipush 18, 2) := by decide +kernel
theorem dX1_init_43 : decode cX1_init 43 = .ok (.newarray .int, 2) := by decide +kernel
theorem dX1_init_45 : decode cX1_init 45 = .ok (.putfield 31, 3) := by decide +kernel
theorem dX1_init_48 : decode cX1_init 48 = .ok (.aload_n 0, 1) := by decide +kernel
theorem dX1_init_49 : decode cX1_init 49 = .ok (.bipush 6, 2) := by decide +kernel
theorem dX1_init_51 : decode cX1_init 51 = .ok (.newarray .int, 2) := by decide +kernel
theorem dX1_init_53 : decode cX1_init 53 = .ok (.putfield 34, 3) := by decide +kernel
theorem dX1_init_56 : decode cX1_init 56 = .ok (.return_, 1) := by decide +kernel
theorem dX1_hasType_0 : decode cX1_hasType 0 = .ok (.iload_n 1, 1) := by decide +kernel
theorem dX1_hasType_1 : decode cX1_hasType 1 = .ok (.ifCond .lt 15, 3) := by decide +kernel
theorem dX1_hasType_4 : decode cX1_hasType 4 = .ok (.iload_n 1, 1) := by decide +kernel
theorem dX1_hasType_5 : decode cX1_hasType 5 = .ok (.aload_n 0, 1) := by decide +kernel
theorem dX1_hasType_6 : decode cX1_hasType 6 = .ok (.getfield 18, 3) := by decide +kernel
theorem dX1_hasType_9 : decode cX1_hasType 9 = .ok (.if_icmp .ge 7, 3) := by decide +kernel
theorem dX1_hasType_12 : decode cX1_hasType 12 = .ok (.iconst 1, 1) := by decide +kernel
theorem dX1_hasType_13 : decode cX1_hasType 13 = .ok (.goto 4, 3) := by decide +kernel
theorem dX1_hasType_16 : decode cX1_hasType 16 = .ok (.iconst 0, 1) := by decide +kernel
theorem dX1_hasType_17 : decode cX1_hasType 17 = .ok (.ireturn, 1) := by decide +kernel
theorem dX1_hasConstructor_0 : decode cX1_hasConstructor 0 = .ok (.iload_n 1, 1) := by decide +kernel
theorem dX1_hasConstructor_1 : decode cX1_hasConstructor 1 = .ok (.ifCond .lt 21, 3) := by decide +kernel
theorem dX1_hasConstructor_4 : decode cX1_hasConstructor 4 = .ok (.iload_n 1, 1) := by decide +kernel
theorem dX1_hasConstructor_5 : decode cX1_hasConstructor 5 = .ok (.aload_n 0, 1) := by decide +kernel
theorem dX1_hasConstructor_6 : decode cX1_hasConstructor 6 = .ok (.getfield 21, 3) := by decide +kernel
theorem dX1_hasConstructor_9 : decode cX1_hasConstructor 9 = .ok (.if_icmp .ge 13, 3) := by decide +kernel
theorem dX1_hasConstructor_12 : decode cX1_hasConstructor 12 = .ok (.iload_n 1, 1) := by decide +kernel
theorem dX1_hasConstructor_13 : decode cX1_hasConstructor 13 = .ok (.bipush 6, 2) := by decide +kernel
theorem dX1_hasConstructor_15 : decode cX1_hasConstructor 15 = .ok (.if_icmp .ge 7, 3) := by decide +kernel
theorem dX1_hasConstructor_18 : decode cX1_hasConstructor 18 = .ok (.iconst 1, 1) := by decide +kernel
theorem dX1_hasConstructor_19 : decode cX1_hasConstructor 19 = .ok (.goto 4, 3) := by decide +kernel
theorem dX1_hasConstructor_22 : decode cX1_hasConstructor 22 = .ok (.iconst 0, 1) := by decide +kernel
theorem dX1_hasConstructor_23 : decode cX1_hasConstructor 23 = .ok (.ireturn, 1) := by decide +kernel
theorem dX1_allowsParameters_0 : decode cX1_allowsParameters 0 = .ok (.aload_n 0, 1) := by decide +kernel
theorem dX1_allowsParameters_1 : decode cX1_allowsParameters 1 = .ok (.iload_n 1, 1) := by decide +kernel
theorem dX1_allowsParameters_2 : decode cX1_allowsParameters 2 = .ok (.invokevirtual 37, 3) := by decide +kernel
theorem dX1_allowsParameters_5 : decode cX1_allowsParameters 5 = .ok (.ifCond .eq 19, 3) := by decide +kernel
theorem dX1_allowsParameters_8 : decode cX1_allowsParameters 8 = .ok (.aload_n 0, 1) := by decide +kernel
theorem dX1_allowsParameters_9 : decode cX1_allowsParameters 9 = .ok (.iload_n 2, 1) := by decide +kernel
theorem dX1_allowsParameters_10 : decode cX1_allowsParameters 10 = .ok (.invokevirtual 37, 3) := by decide +kernel
theorem dX1_allowsParameters_13 : decode cX1_allowsParameters 13 = .ok (.ifCond .eq 11, 3) := by decide +kernel
theorem dX1_allowsParameters_16 : decode cX1_allowsParameters 16 = .ok (.aload_n 0, 1) := by decide +kernel
theorem dX1_allowsParameters_17 : decode cX1_allowsParameters 17 = .ok (.iload_n 3, 1) := by decide +kernel
theorem dX1_allowsParameters_18 : decode cX1_allowsParameters 18 = .ok (.invokevirtual 37, 3) := by decide +kernel
theorem dX1_allowsParameters_21 : decode cX1_allowsParameters 21 = .ok (.ifCond .ne 5, 3) := by decide +kernel
theorem dX1_allowsParameters_24 : decode cX1_allowsParameters 24 = .ok (.iconst 0, 1) := by decide +kernel
theorem dX1_allowsParameters_25 : decode cX1_allowsParameters 25 = .ok (.ireturn, 1) := by decide +kernel
theorem dX1_allowsParameters_26 : decode cX1_allowsParameters 26 = .ok (.iload_n 1, 1) := by decide +kernel
theorem dX1_allowsParameters_27 : decode cX1_allowsParameters 27 = .ok (.iconst (-1), 1) := by decide +kernel
theorem dX1_allowsParameters_28 : decode cX1_allowsParameters 28 = .ok (.if_icmp .ne 8, 3) := by decide +kernel
theorem dX1_allowsParameters_31 : decode cX1_allowsParameters 31 = .ok (.iload_n 2, 1) := by decide +kernel
theorem dX1_allowsParameters_32 : decode cX1_allowsParameters 32 = .ok (.iconst (-1), 1) := by decide +kernel
theorem dX1_allowsParameters_33 : decode cX1_allowsParameters 33 = .ok (.if_icmp .ne 13, 3) := by decide +kernel
theorem dX1_allowsParameters_36 : decode cX1_allowsParameters 36 = .ok (.iload_n 2, 1) := by decide +kernel
theorem dX1_allowsParameters_37 : decode cX1_allowsParameters 37 = .ok (.iconst (-1), 1) := by decide +kernel
theorem dX1_allowsParameters_38 : decode cX1_allowsParameters 38 = .ok (.if_icmp .ne 12, 3) := by decide +kernel
theorem dX1_allowsParameters_41 : decode cX1_allowsParameters 41 = .ok (.iload_n 3, 1) := by decide +kernel
theorem dX1_allowsParameters_42 : decode cX1_allowsParameters 42 = .ok (.iconst (-1), 1) := by decide +kernel
theorem dX1_allowsParameters_43 : decode cX1_allowsParameters 43 = .ok (.if_icmp .eq 7, 3) := by decide +kernel
theorem dX1_allowsParameters_46 : decode cX1_allowsParameters 46 = .ok (.iconst 1, 1) := by decide +kernel
theorem dX1_allowsParameters_47 : decode cX1_allowsParameters 47 = .ok (.goto 4, 3) := by decide +kernel
theorem dX1_allowsParameters_50 : decode cX1_allowsParameters 50 = .ok (.iconst 0, 1) := by decide +kernel
theorem dX1_allowsParameters_51 : decode cX1_allowsParameters 51 = .ok (.istore 4, 2) := by decide +kernel
theorem dX1_allowsParameters_53 : decode cX1_allowsParameters 53 = .ok (.iload 4, 2) := by decide +kernel
theorem dX1_allowsParameters_55 : decode cX1_allowsParameters 55 = .ok (.ifCond .ne 31, 3) := by decide +kernel
theorem dX1_allowsParameters_58 : decode cX1_allowsParameters 58 = .ok (.aload_n 0, 1) := by decide +kernel
theorem dX1_allowsParameters_59 : decode cX1_allowsParameters 59 = .ok (.iload_n 1, 1) := by decide +kernel
theorem dX1_allowsParameters_60 : decode cX1_allowsParameters 60 = .ok (.invokevirtual 41, 3) := by decide +kernel
theorem dX1_allowsParameters_63 : decode cX1_allowsParameters 63 = .ok (.ifCond .eq 19, 3) := by decide +kernel
theorem dX1_allowsParameters_66 : decode cX1_allowsParameters 66 = .ok (.aload_n 0, 1) := by decide +kernel
theorem dX1_allowsParameters_67 : decode cX1_allowsParameters 67 = .ok (.iload_n 2, 1) := by decide +kernel
theorem dX1_allowsParameters_68 : decode cX1_allowsParameters 68 = .ok (.invokevirtual 41, 3) := by decide +kernel
theorem dX1_allowsParameters_71 : decode cX1_allowsParameters 71 = .ok (.ifCond .eq 11, 3) := by decide +kernel
theorem dX1_allowsParameters_74 : decode cX1_allowsParameters 74 = .ok (.aload_n 0, 1) := by decide +kernel
theorem dX1_allowsParameters_75 : decode cX1_allowsParameters 75 = .ok (.iload_n 3, 1) := by decide +kernel
theorem dX1_allowsParameters_76 : decode cX1_allowsParameters 76 = .ok (.invokevirtual 41, 3) := by decide +kernel
theorem dX1_allowsParameters_79 : decode cX1_allowsParameters 79 = .ok (.ifCond .ne 7, 3) := by decide +kernel
theorem dX1_allowsParameters_82 : decode cX1_allowsParameters 82 = .ok (.iconst 1, 1) := by decide +kernel
theorem dX1_allowsParameters_83 : decode cX1_allowsParameters 83 = .ok (.goto 4, 3) := by decide +kernel
theorem dX1_allowsParameters_86 : decode cX1_allowsParameters 86 = .ok (.iconst 0, 1) := by decide +kernel
theorem dX1_allowsParameters_87 : decode cX1_allowsParameters 87 = .ok (.ireturn, 1) := by decide +kernel
theorem dX1_isParameter_0 : decode cX1_isParameter 0 = .ok (.iload_n 1, 1) := by decide +kernel
theorem dX1_isParameter_1 : decode cX1_isParameter 1 = .ok (.iconst (-1), 1) := by decide +kernel
theorem dX1_isParameter_2 : decode cX1_isParameter 2 = .ok (.if_icmp .eq 17, 3) := by decide +kernel
theorem dX1_isParameter_5 : decode cX1_isParameter 5 = .ok (.iload_n 1, 1) := by decide +kernel
theorem dX1_isParameter_6 : decode cX1_isParameter 6 = .ok (.bipush 9, 2) := by decide +kernel
theorem dX1_isParameter_8 : decode cX1_isParameter 8 = .ok (.if_icmp .eq 11, 3) := by decide +kernel
theorem dX1_isParameter_11 : decode cX1_isParameter 11 = .ok (.aload_n 0, 1) := by decide +kernel
theorem dX1_isParameter_12 : decode cX1_isParameter 12 = .ok (.iload_n 1, 1) := by decide +kernel
theorem dX1_isParameter_13 : decode cX1_isParameter 13 = .ok (.invokevirtual 41, 3) := by decide +kernel
theorem dX1_isParameter_16 : decode cX1_isParameter 16 = .ok (.ifCond .eq 7, 3) := by decide +kernel
theorem dX1_isParameter_19 : decode cX1_isParameter 19 = .ok (.iconst 1, 1) := by decide +kernel
theorem dX1_isParameter_20 : decode cX1_isParameter 20 = .ok (.goto 4, 3) := by decide +kernel
theorem dX1_isParameter_23 : decode cX1_isParameter 23 = .ok (.iconst 0, 1) := by decide +kernel
theorem dX1_isParameter_24 : decode cX1_isParameter 24 = .ok (.ireturn, 1) := by decide +kernel
theorem dX1_append_0 : decode cX1_append 0 = .ok (.aload_n 0, 1) := by decide +kernel
theorem dX1_append_1 : decode cX1_append 1 = .ok (.getfield 21, 3) := by decide +kernel
theorem dX1_append_4 : decode cX1_append 4 = .ok (.ifCond .lt 12, 3) := by decide +kernel
theorem dX1_append_7 : decode cX1_append 7 = .ok (.aload_n 0, 1) := by decide +kernel
theorem dX1_append_8 : decode cX1_append 8 = .ok (.getfield 21, 3) := by decide +kernel
theorem dX1_append_11 : decode cX1_append 11 = .ok (.bipush 6, 2) := by decide +kernel
theorem dX1_append_13 : decode cX1_append 13 = .ok (.if_icmp .lt 4, 3) := by decide +kernel
theorem dX1_append_16 : decode cX1_append 16 = .ok (.return_, 1) := by decide +kernel
theorem dX1_append_17 : decode cX1_append 17 = .ok (.aload_n 0, 1) := by decide +kernel
theorem dX1_append_18 : decode cX1_append 18 = .ok (.getfield 21, 3) := by decide +kernel
theorem dX1_append_21 : decode cX1_append 21 = .ok (.iconst 3, 1) := by decide +kernel
theorem dX1_append_22 : decode cX1_append 22 = .ok (.imul, 1) := by decide +kernel
theorem dX1_append_23 : decode cX1_append 23 = .ok (.istore 6, 2) := by decide +kernel
theorem dX1_append_25 : decode cX1_append 25 = .ok (.aload_n 0, 1) := by decide +kernel
theorem dX1_append_26 : decode cX1_append 26 = .ok (.getfield 24, 3) := by decide +kernel
theorem dX1_append_29 : decode cX1_append 29 = .ok (.aload_n 0, 1) := by decide +kernel
theorem dX1_append_30 : decode cX1_append 30 = .ok (.getfield 21, 3) := by decide +kernel
theorem dX1_append_33 : decode cX1_append 33 = .ok (.iload_n 1, 1) := by decide +kernel
theorem dX1_append_34 : decode cX1_append 34 = .ok (.iastore, 1) := by decide +kernel
theorem dX1_append_35 : decode cX1_append 35 = .ok (.aload_n 0, 1) := by decide +kernel
theorem dX1_append_36 : decode cX1_append 36 = .ok (.getfield 28, 3) := by decide +kernel
theorem dX1_append_39 : decode cX1_append 39 = .ok (.iload 6, 2) := by decide +kernel
theorem dX1_append_41 : decode cX1_append 41 = .ok (.iload_n 2, 1) := by decide +kernel
theorem dX1_append_42 : decode cX1_append 42 = .ok (.iastore, 1) := by decide +kernel
theorem dX1_append_43 : decode cX1_append 43 = .ok (.aload_n 0, 1) := by decide +kernel
theorem dX1_append_44 : decode cX1_append 44 = .ok (.getfield 28, 3) := by decide +kernel
theorem dX1_append_47 : decode cX1_append 47 = .ok (.iload 6, 2) := by decide +kernel
theorem dX1_append_49 : decode cX1_append 49 = .ok (.iconst 1, 1) := by decide +kernel
theorem dX1_append_50 : decode cX1_append 50 = .ok (.iadd, 1) := by decide +kernel
theorem dX1_append_51 : decode cX1_append 51 = .ok (.iload_n 3, 1) := by decide +kernel
theorem dX1_append_52 : decode cX1_append 52 = .ok (.iastore, 1) := by decide +kernel
theorem dX1_append_53 : decode cX1_append 53 = .ok (.aload_n 0, 1) := by decide +kernel
theorem dX1_append_54 : decode cX1_append 54 = .ok (.getfield 28, 3) := by decide +kernel
theorem dX1_append_57 : decode cX1_append 57 = .ok (.iload 6, 2) := by decide +kernel
theorem dX1_append_59 : decode cX1_append 59 = .ok (.iconst 2, 1) := by decide +kernel
theorem dX1_append_60 : decode cX1_append 60 = .ok (.iadd, 1) := by decide +kernel
theorem dX1_append_61 : decode cX1_append 61 = .ok (.iload 4, 2) := by decide +kernel
theorem dX1_append_63 : decode cX1_append 63 = .ok (.iastore, 1) := by decide +kernel
theorem dX1_append_64 : decode cX1_append 64 = .ok (.aload_n 0, 1) := by decide +kernel
theorem dX1_append_65 : decode cX1_append 65 = .ok (.getfield 31, 3) := by decide +kernel
theorem dX1_append_68 : decode cX1_append 68 = .ok (.iload 6, 2) := by decide +kernel
theorem dX1_append_70 : decode cX1_append 70 = .ok (.iconst 2, 1) := by decide +kernel
theorem dX1_append_71 : decode cX1_append 71 = .ok (.iadd, 1) := by decide +kernel
theorem dX1_append_72 : decode cX1_append 72 = .ok (.aload_n 0, 1) := by decide +kernel
theorem dX1_append_73 : decode cX1_append 73 = .ok (.iload 4, 2) := by decide +kernel
theorem dX1_append_75 : decode cX1_append 75 = .ok (.invokevirtual 41, 3) := by decide +kernel
theorem dX1_append_78 : decode cX1_append 78 = .ok (.ifCond .eq 7, 3) := by decide +kernel
theorem dX1_append_81 : decode cX1_append 81 = .ok (.iconst 1, 1) := by decide +kernel
theorem dX1_append_82 : decode cX1_append 82 = .ok (.goto 4, 3) := by decide +kernel
theorem dX1_append_85 : decode cX1_append 85 = .ok (.iconst 0, 1) := by decide +kernel
theorem dX1_append_86 : decode cX1_append 86 = .ok (.iastore, 1) := by decide +kernel
theorem dX1_append_87 : decode cX1_append 87 = .ok (.aload_n 0, 1) := by decide +kernel
theorem dX1_append_88 : decode cX1_append 88 = .ok (.getfield 31, 3) := by decide +kernel
theorem dX1_append_91 : decode cX1_append 91 = .ok (.iload 6, 2) := by decide +kernel
theorem dX1_append_93 : decode cX1_append 93 = .ok (.iconst 1, 1) := by decide +kernel
theorem dX1_append_94 : decode cX1_append 94 = .ok (.iadd, 1) := by decide +kernel
theorem dX1_append_95 : decode cX1_append 95 = .ok (.aload_n 0, 1) := by decide +kernel
theorem dX1_append_96 : decode cX1_append 96 = .ok (.getfield 31, 3) := by decide +kernel
theorem dX1_append_99 : decode cX1_append 99 = .ok (.iload 6, 2) := by decide +kernel
theorem dX1_append_101 : decode cX1_append 101 = .ok (.iconst 2, 1) := by decide +kernel
theorem dX1_append_102 : decode cX1_append 102 = .ok (.iadd, 1) := by decide +kernel
theorem dX1_append_103 : decode cX1_append 103 = .ok (.iaload, 1) := by decide +kernel
theorem dX1_append_104 : decode cX1_append 104 = .ok (.aload_n 0, 1) := by decide +kernel
theorem dX1_append_105 : decode cX1_append 105 = .ok (.iload_n 3, 1) := by decide +kernel
theorem dX1_append_106 : decode cX1_append 106 = .ok (.invokevirtual 41, 3) := by decide +kernel
theorem dX1_append_109 : decode cX1_append 109 = .ok (.ifCond .eq 7, 3) := by decide +kernel
theorem dX1_append_112 : decode cX1_append 112 = .ok (.iconst 1, 1) := by decide +kernel
theorem dX1_append_113 : decode cX1_append 113 = .ok (.goto 4, 3) := by decide +kernel
theorem dX1_append_116 : decode cX1_append 116 = .ok (.iconst 0, 1) := by decide +kernel
theorem dX1_append_117 : decode cX1_append 117 = .ok (.iadd, 1) := by decide +kernel
theorem dX1_append_118 : decode cX1_append 118 = .ok (.iastore, 1) := by decide +kernel
theorem dX1_append_119 : decode cX1_append 119 = .ok (.aload_n 0, 1) := by decide +kernel
theorem dX1_append_120 : decode cX1_append 120 = .ok (.getfield 31, 3) := by decide +kernel
theorem dX1_append_123 : decode cX1_append 123 = .ok (.iload 6, 2) := by decide +kernel
theorem dX1_append_125 : decode cX1_append 125 = .ok (.aload_n 0, 1) := by decide +kernel
theorem dX1_append_126 : decode cX1_append 126 = .ok (.getfield 31, 3) := by decide +kernel
theorem dX1_append_129 : decode cX1_append 129 = .ok (.iload 6, 2) := by decide +kernel
theorem dX1_append_131 : decode cX1_append 131 = .ok (.iconst 1, 1) := by decide +kernel
theorem dX1_append_132 : decode cX1_append 132 = .ok (.iadd, 1) := by decide +kernel
theorem dX1_append_133 : decode cX1_append 133 = .ok (.iaload, 1) := by decide +kernel
theorem dX1_append_134 : decode cX1_append 134 = .ok (.aload_n 0, 1) := by decide +kernel
theorem dX1_append_135 : decode cX1_append 135 = .ok (.iload_n 2, 1) := by decide +kernel
theorem dX1_append_136 : decode cX1_append 136 = .ok (.invokevirtual 41, 3) := by decide +kernel
theorem dX1_append_139 : decode cX1_append 139 = .ok (.ifCond .eq 7, 3) := by decide +kernel
theorem dX1_append_142 : decode cX1_append 142 = .ok (.iconst 1, 1) := by decide +kernel
theorem dX1_append_143 : decode cX1_append 143 = .ok (.goto 4, 3) := by decide +kernel
theorem dX1_append_146 : decode cX1_append 146 = .ok (.iconst 0, 1) := by decide +kernel
theorem dX1_append_147 : decode cX1_append 147 = .ok (.iadd, 1) := by decide +kernel
theorem dX1_append_148 : decode cX1_append 148 = .ok (.iastore, 1) := by decide +kernel
theorem dX1_append_149 : decode cX1_append 149 = .ok (.aload_n 0, 1) := by decide +kernel
theorem dX1_append_150 : decode cX1_append 150 = .ok (.getfield 34, 3) := by decide +kernel
theorem dX1_append_153 : decode cX1_append 153 = .ok (.aload_n 0, 1) := by decide +kernel
theorem dX1_append_154 : decode cX1_append 154 = .ok (.getfield 21, 3) := by decide +kernel
theorem dX1_append_157 : decode cX1_append 157 = .ok (.iload 5, 2) := by decide +kernel
theorem dX1_append_159 : decode cX1_append 159 = .ok (.iastore, 1) := by decide +kernel
theorem dX1_append_160 : decode cX1_append 160 = .ok (.aload_n 0, 1) := by decide +kernel
theorem dX1_append_161 : decode cX1_append 161 = .ok (.dup, 1) := by decide +kernel
theorem dX1_append_162 : decode cX1_append 162 = .ok (.getfield 21, 3) := by decide +kernel
theorem dX1_append_165 : decode cX1_append 165 = .ok (.iconst 1, 1) := by decide +kernel
theorem dX1_append_166 : decode cX1_append 166 = .ok (.iadd, 1) := by decide +kernel
theorem dX1_append_167 : decode cX1_append 167 = .ok (.putfield 21, 3) := by decide +kernel
theorem dX1_append_170 : decode cX1_append 170 = .ok (.return_, 1) := by decide +kernel
theorem dX1_typeOf_0 : decode cX1_typeOf 0 = .ok (.aload_n 0, 1) := by decide +kernel
theorem dX1_typeOf_1 : decode cX1_typeOf 1 = .ok (.iload_n 1, 1) := by decide +kernel
theorem dX1_typeOf_2 : decode cX1_typeOf 2 = .ok (.invokevirtual 44, 3) := by decide +kernel
theorem dX1_typeOf_5 : decode cX1_typeOf 5 = .ok (.ifCond .eq 12, 3) := by decide +kernel
theorem dX1_typeOf_8 : decode cX1_typeOf 8 = .ok (.aload_n 0, 1) := by decide +kernel
theorem dX1_typeOf_9 : decode cX1_typeOf 9 = .ok (.getfield 24, 3) := by decide +kernel
theorem dX1_typeOf_12 : decode cX1_typeOf 12 = .ok (.iload_n 1, 1) := by decide +kernel
theorem dX1_typeOf_13 : decode cX1_typeOf 13 = .ok (.iaload, 1) := by decide +kernel
theorem dX1_typeOf_14 : decode cX1_typeOf 14 = .ok (.goto 4, 3) := by decide +kernel
theorem dX1_typeOf_17 : decode cX1_typeOf 17 = .ok (.iconst (-1), 1) := by decide +kernel
theorem dX1_typeOf_18 : decode cX1_typeOf 18 = .ok (.ireturn, 1) := by decide +kernel
theorem dX1_conditionOf_0 : decode cX1_conditionOf 0 = .ok (.aload_n 0, 1) := by decide +kernel
theorem dX1_conditionOf_1 : decode cX1_conditionOf 1 = .ok (.iload_n 1, 1) := by decide +kernel
theorem dX1_conditionOf_2 : decode cX1_conditionOf 2 = .ok (.invokevirtual 44, 3) := by decide +kernel
theorem dX1_conditionOf_5 : decode cX1_conditionOf 5 = .ok (.ifCond .eq 12, 3) := by decide +kernel
theorem dX1_conditionOf_8 : decode cX1_conditionOf 8 = .ok (.aload_n 0, 1) := by decide +kernel
theorem dX1_conditionOf_9 : decode cX1_conditionOf 9 = .ok (.getfield 34, 3) := by decide +kernel
theorem dX1_conditionOf_12 : decode cX1_conditionOf 12 = .ok (.iload_n 1, 1) := by decide +kernel
theorem dX1_conditionOf_13 : decode cX1_conditionOf 13 = .ok (.iaload, 1) := by decide +kernel
theorem dX1_conditionOf_14 : decode cX1_conditionOf 14 = .ok (.goto 4, 3) := by decide +kernel
theorem dX1_conditionOf_17 : decode cX1_conditionOf 17 = .ok (.iconst 0, 1) := by decide +kernel
theorem dX1_conditionOf_18 : decode cX1_conditionOf 18 = .ok (.ireturn, 1) := by decide +kernel
theorem dX1_parameter_0 : decode cX1_parameter 0 = .ok (.aload_n 0, 1) := by decide +kernel
theorem dX1_parameter_1 : decode cX1_parameter 1 = .ok (.iload_n 1, 1) := by decide +kernel
theorem dX1_parameter_2 : decode cX1_parameter 2 = .ok (.invokevirtual 44, 3) := by decide +kernel
theorem dX1_parameter_5 : decode cX1_parameter 5 = .ok (.ifCond .eq 12, 3) := by decide +kernel
theorem dX1_parameter_8 : decode cX1_parameter 8 = .ok (.iload_n 2, 1) := by decide +kernel
theorem dX1_parameter_9 : decode cX1_parameter 9 = .ok (.ifCond .lt 8, 3) := by decide +kernel
theorem dX1_parameter_12 : decode cX1_parameter 12 = .ok (.iload_n 2, 1) := by decide +kernel
theorem dX1_parameter_13 : decode cX1_parameter 13 = .ok (.iconst 3, 1) := by decide +kernel
theorem dX1_parameter_14 : decode cX1_parameter 14 = .ok (.if_icmp .lt 5, 3) := by decide +kernel
theorem dX1_parameter_17 : decode cX1_parameter 17 = .ok (.iconst (-1), 1) := by decide +kernel
theorem dX1_parameter_18 : decode cX1_parameter 18 = .ok (.ireturn, 1) := by decide +kernel
theorem dX1_parameter_19 : decode cX1_parameter 19 = .ok (.aload_n 0, 1) := by decide +kernel
theorem dX1_parameter_20 : decode cX1_parameter 20 = .ok (.getfield 28, 3) := by decide +kernel
theorem dX1_parameter_23 : decode cX1_parameter 23 = .ok (.iload_n 1, 1) := by decide +kernel
theorem dX1_parameter_24 : decode cX1_parameter 24 = .ok (.iconst 3, 1) := by decide +kernel
theorem dX1_parameter_25 : decode cX1_parameter 25 = .ok (.imul, 1) := by decide +kernel
theorem dX1_parameter_26 : decode cX1_parameter 26 = .ok (.iload_n 2, 1) := by decide +kernel
theorem dX1_parameter_27 : decode cX1_parameter 27 = .ok (.iadd, 1) := by decide +kernel
theorem dX1_parameter_28 : decode cX1_parameter 28 = .ok (.iaload, 1) := by decide +kernel
theorem dX1_parameter_29 : decode cX1_parameter 29 = .ok (.ireturn, 1) := by decide +kernel
theorem dX1_typesFrom_0 : decode cX1_typesFrom 0 = .ok (.aload_n 0, 1) := by decide +kernel
theorem dX1_typesFrom_1 : decode cX1_typesFrom 1 = .ok (.iload_n 1, 1) := by decide +kernel
theorem dX1_typesFrom_2 : decode cX1_typesFrom 2 = .ok (.invokevirtual 44, 3) := by decide +kernel
theorem dX1_typesFrom_5 : decode cX1_typesFrom 5 = .ok (.ifCond .eq 12, 3) := by decide +kernel
theorem dX1_typesFrom_8 : decode cX1_typesFrom 8 = .ok (.iload_n 2, 1) := by decide +kernel
theorem dX1_typesFrom_9 : decode cX1_typesFrom 9 = .ok (.ifCond .lt 8, 3) := by decide +kernel
theorem dX1_typesFrom_12 : decode cX1_typesFrom 12 = .ok (.iload_n 2, 1) := by decide +kernel
theorem dX1_typesFrom_13 : decode cX1_typesFrom 13 = .ok (.iconst 3, 1) := by decide +kernel
theorem dX1_typesFrom_14 : decode cX1_typesFrom 14 = .ok (.if_icmp .lt 5, 3) := by decide +kernel
theorem dX1_typesFrom_17 : decode cX1_typesFrom 17 = .ok (.iconst 0, 1) := by decide +kernel
theorem dX1_typesFrom_18 : decode cX1_typesFrom 18 = .ok (.ireturn, 1) := by decide +kernel
theorem dX1_typesFrom_19 : decode cX1_typesFrom 19 = .ok (.aload_n 0, 1) := by decide +kernel
theorem dX1_typesFrom_20 : decode cX1_typesFrom 20 = .ok (.getfield 31, 3) := by decide +kernel
theorem dX1_typesFrom_23 : decode cX1_typesFrom 23 = .ok (.iload_n 1, 1) := by decide +kernel
theorem dX1_typesFrom_24 : decode cX1_typesFrom 24 = .ok (.iconst 3, 1) := by decide +kernel
theorem dX1_typesFrom_25 : decode cX1_typesFrom 25 = .ok (.imul, 1) := by decide +kernel
theorem dX1_typesFrom_26 : decode cX1_typesFrom 26 = .ok (.iload_n 2, 1) := by decide +kernel
theorem dX1_typesFrom_27 : decode cX1_typesFrom 27 = .ok (.iadd, 1) := by decide +kernel
theorem dX1_typesFrom_28 : decode cX1_typesFrom 28 = .ok (.iaload, 1) := by decide +kernel
theorem dX1_typesFrom_29 : decode cX1_typesFrom 29 = .ok (.ireturn, 1) := by decide +kernel
theorem dX2_init_0 : decode cX2_init 0 = .ok (.aload_n 0, 1) := by decide +kernel
theorem dX2_init_1 : decode cX2_init 1 = .ok (.invokespecial 3, 3) := by decide +kernel
theorem dX2_init_4 : decode cX2_init 4 = .ok (.aload_n 0, 1) := by decide +kernel
theorem dX2_init_5 : decode cX2_init 5 = .ok (.sipush 300, 3) := by decide +kernel
theorem dX2_init_8 : decode cX2_init 8 = .ok (.anewarray 9, 3) := by decide +kernel
theorem dX2_init_11 : decode cX2_init 11 = .ok (.putfield 11, 3) := by decide +kernel
theorem dX2_init_14 : decode cX2_init 14 = .ok (.aload_n 0, 1) := by decide +kernel
theorem dX2_init_15 : decode cX2_init 15 = .ok (.iconst 0, 1) := by decide +kernel
theorem dX2_init_16 : decode cX2_init 16 = .ok (.putfield 17, 3) := by decide +kernel
theorem dX2_init_19 : decode cX2_init 19 = .ok (.return_, 1) := by decide +kernel
theorem dX2_at_0 : decode cX2_at 0 = .ok (.iload_n 1, 1) := by decide +kernel
theorem dX2_at_1 : decode cX2_at 1 = .ok (.ifCond .lt 29, 3) := by decide +kernel
theorem dX2_at_4 : decode cX2_at 4 = .ok (.iload_n 1, 1) := by decide +kernel
theorem dX2_at_5 : decode cX2_at 5 = .ok (.aload_n 0, 1) := by decide +kernel
theorem dX2_at_6 : decode cX2_at 6 = .ok (.getfield 17, 3) := by decide +kernel
theorem dX2_at_9 : decode cX2_at 9 = .ok (.if_icmp .ge 21, 3) := by decide +kernel
theorem dX2_at_12 : decode cX2_at 12 = .ok (.iload_n 1, 1) := by decide +kernel
theorem dX2_at_13 : decode cX2_at 13 = .ok (.aload_n 0, 1) := by decide +kernel
theorem dX2_at_14 : decode cX2_at 14 = .ok (.getfield 11, 3) := by decide +kernel
theorem dX2_at_17 : decode cX2_at 17 = .ok (.arraylength, 1) := by decide +kernel
theorem dX2_at_18 : decode cX2_at 18 = .ok (.if_icmp .ge 12, 3) := by decide +kernel
theorem dX2_at_21 : decode cX2_at 21 = .ok (.aload_n 0, 1) := by decide +kernel
theorem dX2_at_22 : decode cX2_at 22 = .ok (.getfield 11, 3) := by decide +kernel
theorem dX2_at_25 : decode cX2_at 25 = .ok (.iload_n 1, 1) := by decide +kernel
theorem dX2_at_26 : decode cX2_at 26 = .ok (.aaload, 1) := by decide +kernel
theorem dX2_at_27 : decode cX2_at 27 = .ok (.goto 4, 3) := by decide +kernel
theorem dX2_at_30 : decode cX2_at 30 = .ok (.aconst_null, 1) := by decide +kernel
theorem dX2_at_31 : decode cX2_at 31 = .ok (.areturn, 1) := by decide +kernel
theorem dX2_firstUnfit_0 : decode cX2_firstUnfit 0 = .ok (.iconst 0, 1) := by decide +kernel
theorem dX2_firstUnfit_1 : decode cX2_firstUnfit 1 = .ok (.istore_n 2, 1) := by decide +kernel
theorem dX2_firstUnfit_2 : decode cX2_firstUnfit 2 = .ok (.iload_n 2, 1) := by decide +kernel
theorem dX2_firstUnfit_3 : decode cX2_firstUnfit 3 = .ok (.aload_n 0, 1) := by decide +kernel
theorem dX2_firstUnfit_4 : decode cX2_firstUnfit 4 = .ok (.getfield 17, 3) := by decide +kernel
theorem dX2_firstUnfit_7 : decode cX2_firstUnfit 7 = .ok (.if_icmp .ge 29, 3) := by decide +kernel
theorem dX2_firstUnfit_10 : decode cX2_firstUnfit 10 = .ok (.aload_n 0, 1) := by decide +kernel
theorem dX2_firstUnfit_11 : decode cX2_firstUnfit 11 = .ok (.iload_n 2, 1) := by decide +kernel
theorem dX2_firstUnfit_12 : decode cX2_firstUnfit 12 = .ok (.invokevirtual 21, 3) := by decide +kernel
theorem dX2_firstUnfit_15 : decode cX2_firstUnfit 15 = .ok (.astore_n 3, 1) := by decide +kernel
theorem dX2_firstUnfit_16 : decode cX2_firstUnfit 16 = .ok (.aload_n 3, 1) := by decide +kernel
theorem dX2_firstUnfit_17 : decode cX2_firstUnfit 17 = .ok (.ifnull 13, 3) := by decide +kernel
theorem dX2_firstUnfit_20 : decode cX2_firstUnfit 20 = .ok (.aload_n 3, 1) := by decide +kernel
theorem dX2_firstUnfit_21 : decode cX2_firstUnfit 21 = .ok (.iload_n 1, 1) := by decide +kernel
theorem dX2_firstUnfit_22 : decode cX2_firstUnfit 22 = .ok (.invokevirtual 25, 3) := by decide +kernel
theorem dX2_firstUnfit_25 : decode cX2_firstUnfit 25 = .ok (.ifCond .ne 5, 3) := by decide +kernel
theorem dX2_firstUnfit_28 : decode cX2_firstUnfit 28 = .ok (.aload_n 3, 1) := by decide +kernel
theorem dX2_firstUnfit_29 : decode cX2_firstUnfit 29 = .ok (.areturn, 1) := by decide +kernel
theorem dX2_firstUnfit_30 : decode cX2_firstUnfit 30 = .ok (.iinc 2 1, 3) := by decide +kernel
theorem dX2_firstUnfit_33 : decode cX2_firstUnfit 33 = .ok (.goto (-31), 3) := by decide +kernel
theorem dX2_firstUnfit_36 : decode cX2_firstUnfit 36 = .ok (.aconst_null, 1) := by decide +kernel
theorem dX2_firstUnfit_37 : decode cX2_firstUnfit 37 = .ok (.areturn, 1) := by decide +kernel
theorem dX2_collect_0 : decode cX2_collect 0 = .ok (.aload_n 0, 1) := by decide +kernel
theorem dX2_collect_1 : decode cX2_collect 1 = .ok (.iconst 0, 1) := by decide +kernel
theorem dX2_collect_2 : decode cX2_collect 2 = .ok (.putfield 17, 3) := by decide +kernel
theorem dX2_collect_5 : decode cX2_collect 5 = .ok (.aload_n 0, 1) := by decide +kernel
theorem dX2_collect_6 : decode cX2_collect 6 = .ok (.aload_n 1, 1) := by decide +kernel
theorem dX2_collect_7 : decode cX2_collect 7 = .ok (.aload_n 1, 1) := by decide +kernel
theorem dX2_collect_8 : decode cX2_collect 8 = .ok (.getfield 29, 3) := by decide +kernel
theorem dX2_collect_11 : decode cX2_collect 11 = .ok (.iconst 0, 1) := by decide +kernel
theorem dX2_collect_12 : decode cX2_collect 12 = .ok (.invokevirtual 32, 3) := by decide +kernel
theorem dX2_collect_15 : decode cX2_collect 15 = .ok (.aload_n 2, 1) := by decide +kernel
theorem dX2_collect_16 : decode cX2_collect 16 = .ok (.aload_n 1, 1) := by decide +kernel
theorem dX2_collect_17 : decode cX2_collect 17 = .ok (.getfield 29, 3) := by decide +kernel
theorem dX2_collect_20 : decode cX2_collect 20 = .ok (.aload_n 1, 1) := by decide +kernel
theorem dX2_collect_21 : decode cX2_collect 21 = .ok (.getfield 36, 3) := by decide +kernel
theorem dX2_collect_24 : decode cX2_collect 24 = .ok (.iconst 1, 1) := by decide +kernel
theorem dX2_collect_25 : decode cX2_collect 25 = .ok (.isub, 1) := by decide +kernel
theorem dX2_collect_26 : decode cX2_collect 26 = .ok (.invokevirtual 39, 3) := by decide +kernel
theorem dX2_collect_29 : decode cX2_collect 29 = .ok (.istore_n 3, 1) := by decide +kernel
theorem dX2_collect_30 : decode cX2_collect 30 = .ok (.iload_n 3, 1) := by decide +kernel
theorem dX2_collect_31 : decode cX2_collect 31 = .ok (.aload_n 1, 1) := by decide +kernel
theorem dX2_collect_32 : decode cX2_collect 32 = .ok (.getfield 45, 3) := by decide +kernel
theorem dX2_collect_35 : decode cX2_collect 35 = .ok (.if_icmp .ge 36, 3) := by decide +kernel
theorem dX2_collect_38 : decode cX2_collect 38 = .ok (.aload_n 2, 1) := by decide +kernel
theorem dX2_collect_39 : decode cX2_collect 39 = .ok (.aload_n 1, 1) := by decide +kernel
theorem dX2_collect_40 : decode cX2_collect 40 = .ok (.getfield 29, 3) := by decide +kernel
theorem dX2_collect_43 : decode cX2_collect 43 = .ok (.iload_n 3, 1) := by decide +kernel
theorem dX2_collect_44 : decode cX2_collect 44 = .ok (.invokevirtual 48, 3) := by decide +kernel
theorem dX2_collect_47 : decode cX2_collect 47 = .ok (.astore 4, 2) := by decide +kernel
theorem dX2_collect_49 : decode cX2_collect 49 = .ok (.aload_n 1, 1) := by decide +kernel
theorem dX2_collect_50 : decode cX2_collect 50 = .ok (.aload 4, 2) := by decide +kernel
theorem dX2_collect_52 : decode cX2_collect 52 = .ok (.invokevirtual 52, 3) := by decide +kernel
theorem dX2_collect_55 : decode cX2_collect 55 = .ok (.iconst 1, 1) := by decide +kernel
theorem dX2_collect_56 : decode cX2_collect 56 = .ok (.if_icmp .ne 9, 3) := by decide +kernel
theorem dX2_collect_59 : decode cX2_collect 59 = .ok (.aload_n 0, 1) := by decide +kernel
theorem dX2_collect_60 : decode cX2_collect 60 = .ok (.aload 4, 2) := by decide +kernel
theorem dX2_collect_62 : decode cX2_collect 62 = .ok (.invokevirtual 56, 3) := by decide +kernel
theorem dX2_collect_65 : decode cX2_collect 65 = .ok (.iinc 3 1, 3) := by decide +kernel
theorem dX2_collect_68 : decode cX2_collect 68 = .ok (.goto (-38), 3) := by decide +kernel
theorem dX2_collect_71 : decode cX2_collect 71 = .ok (.return_, 1) := by decide +kernel
theorem dX2_addPartsOf_0 : decode cX2_addPartsOf 0 = .ok (.iconst 0, 1) := by decide +kernel
theorem dX2_addPartsOf_1 : decode cX2_addPartsOf 1 = .ok (.istore 4, 2) := by decide +kernel
theorem dX2_addPartsOf_3 : decode cX2_addPartsOf 3 = .ok (.iload 4, 2) := by decide +kernel
theorem dX2_addPartsOf_5 : decode cX2_addPartsOf 5 = .ok (.iconst 3, 1) := by decide +kernel
theorem dX2_addPartsOf_6 : decode cX2_addPartsOf 6 = .ok (.if_icmp .ge 65, 3) := by decide +kernel
theorem dX2_addPartsOf_9 : decode cX2_addPartsOf 9 = .ok (.iload_n 3, 1) := by decide +kernel
theorem dX2_addPartsOf_10 : decode cX2_addPartsOf 10 = .ok (.bipush 8, 2) := by decide +kernel
theorem dX2_addPartsOf_12 : decode cX2_addPartsOf 12 = .ok (.if_icmp .gt 59, 3) := by decide +kernel
theorem dX2_addPartsOf_15 : decode cX2_addPartsOf 15 = .ok (.aload_n 1, 1) := by decide +kernel
theorem dX2_addPartsOf_16 : decode cX2_addPartsOf 16 = .ok (.iload 4, 2) := by decide +kernel
theorem dX2_addPartsOf_18 : decode cX2_addPartsOf 18 = .ok (.invokevirtual 60, 3) := by decide +kernel
theorem dX2_addPartsOf_21 : decode cX2_addPartsOf 21 = .ok (.astore 5, 2) := by decide +kernel
theorem dX2_addPartsOf_23 : decode cX2_addPartsOf 23 = .ok (.aload 5, 2) := by decide +kernel
theorem dX2_addPartsOf_25 : decode cX2_addPartsOf 25 = .ok (.ifnull 40, 3) := by decide +kernel
theorem dX2_addPartsOf_28 : decode cX2_addPartsOf 28 = .ok (.aload 5, 2) := by decide +kernel
theorem dX2_addPartsOf_30 : decode cX2_addPartsOf 30 = .ok (.getfield 29, 3) := by decide +kernel
theorem dX2_addPartsOf_33 : decode cX2_addPartsOf 33 = .ok (.iload_n 2, 1) := by decide +kernel
theorem dX2_addPartsOf_34 : decode cX2_addPartsOf 34 = .ok (.if_icmp .ne 21, 3) := by decide +kernel
theorem dX2_addPartsOf_37 : decode cX2_addPartsOf 37 = .ok (.aload_n 0, 1) := by decide +kernel
theorem dX2_addPartsOf_38 : decode cX2_addPartsOf 38 = .ok (.aload 5, 2) := by decide +kernel
theorem dX2_addPartsOf_40 : decode cX2_addPartsOf 40 = .ok (.getfield 45, 3) := by decide +kernel
theorem dX2_addPartsOf_43 : decode cX2_addPartsOf 43 = .ok (.invokevirtual 63, 3) := by decide +kernel
theorem dX2_addPartsOf_46 : decode cX2_addPartsOf 46 = .ok (.ifCond .ne 9, 3) := by decide +kernel
theorem dX2_addPartsOf_49 : decode cX2_addPartsOf 49 = .ok (.aload_n 0, 1) := by decide +kernel
theorem dX2_addPartsOf_50 : decode cX2_addPartsOf 50 = .ok (.aload 5, 2) := by decide +kernel
theorem dX2_addPartsOf_52 : decode cX2_addPartsOf 52 = .ok (.invokevirtual 56, 3) := by decide +kernel
theorem dX2_addPartsOf_55 : decode cX2_addPartsOf 55 = .ok (.aload_n 0, 1) := by decide +kernel
theorem dX2_addPartsOf_56 : decode cX2_addPartsOf 56 = .ok (.aload 5, 2) := by decide +kernel
theorem dX2_addPartsOf_58 : decode cX2_addPartsOf 58 = .ok (.iload_n 2, 1) := by decide +kernel
theorem dX2_addPartsOf_59 : decode cX2_addPartsOf 59 = .ok (.iload_n 3, 1) := by decide +kernel
theorem dX2_addPartsOf_60 : decode cX2_addPartsOf 60 = .ok (.iconst 1, 1) := by decide +kernel
theorem dX2_addPartsOf_61 : decode cX2_addPartsOf 61 = .ok (.iadd, 1) := by decide +kernel
theorem dX2_addPartsOf_62 : decode cX2_addPartsOf 62 = .ok (.invokevirtual 32, 3) := by decide +kernel
theorem dX2_addPartsOf_65 : decode cX2_addPartsOf 65 = .ok (.iinc 4 1, 3) := by decide +kernel
theorem dX2_addPartsOf_68 : decode cX2_addPartsOf 68 = .ok (.goto (-65), 3) := by decide +kernel
theorem dX2_addPartsOf_71 : decode cX2_addPartsOf 71 = .ok (.return_, 1) := by decide +kernel
theorem dX2_has_0 : decode cX2_has 0 = .ok (.iconst 0, 1) := by decide +kernel
theorem dX2_has_1 : decode cX2_has 1 = .ok (.istore_n 2, 1) := by decide +kernel
theorem dX2_has_2 : decode cX2_has 2 = .ok (.iload_n 2, 1) := by decide +kernel
theorem dX2_has_3 : decode cX2_has 3 = .ok (.aload_n 0, 1) := by decide +kernel
theorem dX2_has_4 : decode cX2_has 4 = .ok (.getfield 17, 3) := by decide +kernel
theorem dX2_has_7 : decode cX2_has 7 = .ok (.if_icmp .ge 29, 3) := by decide +kernel
theorem dX2_has_10 : decode cX2_has 10 = .ok (.aload_n 0, 1) := by decide +kernel
theorem dX2_has_11 : decode cX2_has 11 = .ok (.iload_n 2, 1) := by decide +kernel
theorem dX2_has_12 : decode cX2_has 12 = .ok (.invokevirtual 21, 3) := by decide +kernel
theorem dX2_has_15 : decode cX2_has 15 = .ok (.astore_n 3, 1) := by decide +kernel
theorem dX2_has_16 : decode cX2_has 16 = .ok (.aload_n 3, 1) := by decide +kernel
theorem dX2_has_17 : decode cX2_has 17 = .ok (.ifnull 13, 3) := by decide +kernel
theorem dX2_has_20 : decode cX2_has 20 = .ok (.aload_n 3, 1) := by decide +kernel
theorem dX2_has_21 : decode cX2_has 21 = .ok (.getfield 45, 3) := by decide +kernel
theorem dX2_has_24 : decode cX2_has 24 = .ok (.iload_n 1, 1) := by decide +kernel
theorem dX2_has_25 : decode cX2_has 25 = .ok (.if_icmp .ne 5, 3) := by decide +kernel
theorem dX2_has_28 : decode cX2_has 28 = .ok (.iconst 1, 1) := by decide +kernel
theorem dX2_has_29 : decode cX2_has 29 = .ok (.ireturn, 1) := by decide +kernel
theorem dX2_has_30 : decode cX2_has 30 = .ok (.iinc 2 1, 3) := by decide +kernel
theorem dX2_has_33 : decode cX2_has 33 = .ok (.goto (-31), 3) := by decide +kernel
theorem dX2_has_36 : decode cX2_has 36 = .ok (.iconst 0, 1) := by decide +kernel
theorem dX2_has_37 : decode cX2_has 37 = .ok (.ireturn, 1) := by decide +kernel
theorem dX2_append_0 : decode cX2_append 0 = .ok (.aload_n 0, 1) := by decide +kernel
theorem dX2_append_1 : decode cX2_append 1 = .ok (.getfield 17, 3) := by decide +kernel
theorem dX2_append_4 : decode cX2_append 4 = .ok (.ifCond .lt 35, 3) := by decide +kernel
theorem dX2_append_7 : decode cX2_append 7 = .ok (.aload_n 0, 1) := by decide +kernel
theorem dX2_append_8 : decode cX2_append 8 = .ok (.getfield 17, 3) := by decide +kernel
theorem dX2_append_11 : decode cX2_append 11 = .ok (.aload_n 0, 1) := by decide +kernel
theorem dX2_append_12 : decode cX2_append 12 = .ok (.getfield 11, 3) := by decide +kernel
theorem dX2_append_15 : decode cX2_append 15 = .ok (.arraylength, 1) := by decide +kernel
theorem dX2_append_16 : decode cX2_append 16 = .ok (.if_icmp .ge 23, 3) := by decide +kernel
theorem dX2_append_19 : decode cX2_append 19 = .ok (.aload_n 0, 1) := by decide +kernel
theorem dX2_append_20 : decode cX2_append 20 = .ok (.getfield 11, 3) := by decide +kernel
theorem dX2_append_23 : decode cX2_append 23 = .ok (.aload_n 0, 1) := by decide +kernel
theorem dX2_append_24 : decode cX2_append 24 = .ok (.getfield 17, 3) := by decide +kernel
theorem dX2_append_27 : decode cX2_append 27 = .ok (.aload_n 1, 1) := by decide +kernel
theorem dX2_append_28 : decode cX2_append 28 = .ok (.aastore, 1) := by decide +kernel
theorem dX2_append_29 : decode cX2_append 29 = .ok (.aload_n 0, 1) := by decide +kernel
theorem dX2_append_30 : decode cX2_append 30 = .ok (.dup, 1) := by decide +kernel
theorem dX2_append_31 : decode cX2_append 31 = .ok (.getfield 17, 3) := by decide +kernel
theorem dX2_append_34 : decode cX2_append 34 = .ok (.iconst 1, 1) := by decide +kernel
theorem dX2_append_35 : decode cX2_append 35 = .ok (.iadd, 1) := by decide +kernel
theorem dX2_append_36 : decode cX2_append 36 = .ok (.putfield 17, 3) := by decide +kernel
theorem dX2_append_39 : decode cX2_append 39 = .ok (.return_, 1) := by decide +kernel
theorem dX3_init_0 : decode cX3_init 0 = .ok (.aload_n 0, 1) := by decide +kernel
theorem dX3_init_1 : decode cX3_init 1 = .ok (.invokespecial 3, 3) := by decide +kernel
theorem dX3_init_4 : decode cX3_init 4 = .ok (.aload_n 0, 1) := by decide +kernel
theorem dX3_init_5 : decode cX3_init 5 = .ok (.aload_n 1, 1) := by decide +kernel
theorem dX3_init_6 : decode cX3_init 6 = .ok (.putfield 9, 3) := by decide +kernel
theorem dX3_init_9 : decode cX3_init 9 = .ok (.aload_n 0, 1) := by decide +kernel
theorem dX3_init_10 : decode cX3_init 10 = .ok (.sipush 300, 3) := by decide +kernel
theorem dX3_init_13 : decode cX3_init 13 = .ok (.anewarray 15, 3) := by decide +kernel
theorem dX3_init_16 : decode cX3_init 16 = .ok (.putfield 17, 3) := by decide +kernel
theorem dX3_init_19 : decode cX3_init 19 = .ok (.iconst 0, 1) := by decide +kernel
theorem dX3_init_20 : decode cX3_init 20 = .ok (.istore_n 2, 1) := by decide +kernel
theorem dX3_init_21 : decode cX3_init 21 = .ok (.iload_n 2, 1) := by decide +kernel
theorem dX3_init_22 : decode cX3_init 22 = .ok (.aload_n 0, 1) := by decide +kernel
theorem dX3_init_23 : decode cX3_init 23 = .ok (.getfield 17, 3) := by decide +kernel
theorem dX3_init_26 : decode cX3_init 26 = .ok (.arraylength, 1) := by decide +kernel
theorem dX3_init_27 : decode cX3_init 27 = .ok (.if_icmp .ge 22, 3) := by decide +kernel
theorem dX3_init_30 : decode cX3_init 30 = .ok (.aload_n 0, 1) := by decide +kernel
theorem dX3_init_31 : decode cX3_init 31 = .ok (.getfield 17, 3) := by decide +kernel
theorem dX3_init_34 : decode cX3_init 34 = .ok (.iload_n 2, 1) := by decide +kernel
theorem dX3_init_35 : decode cX3_init 35 = .ok (.new 15, 3) := by decide +kernel
theorem dX3_init_38 : decode cX3_init 38 = .ok (.dup, 1) := by decide +kernel
theorem dX3_init_39 : decode cX3_init 39 = .ok (.invokespecial 21, 3) := by decide +kernel
theorem dX3_init_42 : decode cX3_init 42 = .ok (.aastore, 1) := by decide +kernel
theorem dX3_init_43 : decode cX3_init 43 = .ok (.iinc 2 1, 3) := by decide +kernel
theorem dX3_init_46 : decode cX3_init 46 = .ok (.goto (-25), 3) := by decide +kernel
theorem dX3_init_49 : decode cX3_init 49 = .ok (.aload_n 0, 1) := by decide +kernel
theorem dX3_init_50 : decode cX3_init 50 = .ok (.sipush 1200, 3) := by decide +kernel
theorem dX3_init_53 : decode cX3_init 53 = .ok (.anewarray 15, 3) := by decide +kernel
theorem dX3_init_56 : decode cX3_init 56 = .ok (.putfield 22, 3) := by decide +kernel
theorem dX3_init_59 : decode cX3_init 59 = .ok (.aload_n 0, 1) := by decide +kernel
theorem dX3_init_60 : decode cX3_init 60 = .ok (.iconst 4, 1) := by decide +kernel
theorem dX3_init_61 : decode cX3_init 61 = .ok (.newarray .int, 2) := by decide +kernel
theorem dX3_init_63 : decode cX3_init 63 = .ok (.putfield 25, 3) := by decide +kernel
theorem dX3_init_66 : decode cX3_init 66 = .ok (.aload_n 0, 1) := by decide +kernel
theorem dX3_init_67 : decode cX3_init 67 = .ok (.bipush 36, 2) := by decide +kernel
theorem dX3_init_69 : decode cX3_init 69 = .ok (.newarray .int, 2) := by decide +kernel
theorem dX3_init_71 : decode cX3_init 71 = .ok (.putfield 29, 3) := by decide +kernel
theorem dX3_init_74 : decode cX3_init 74 = .ok (.aload_n 0, 1) := by decide +kernel
theorem dX3_init_75 : decode cX3_init 75 = .ok (.iconst 4, 1) := by decide +kernel
theorem dX3_init_76 : decode cX3_init 76 = .ok (.anewarray 15, 3) := by decide +kernel
theorem dX3_init_79 : decode cX3_init 79 = .ok (.putfield 32, 3) := by decide +kernel
theorem dX3_init_82 : decode cX3_init 82 = .ok (.iconst 0, 1) := by decide +kernel
theorem dX3_init_83 : decode cX3_init 83 = .ok (.istore_n 2, 1) := by decide +kernel
theorem dX3_init_84 : decode cX3_init 84 = .ok (.iload_n 2, 1) := by decide +kernel
theorem dX3_init_85 : decode cX3_init 85 = .ok (.aload_n 0, 1) := by decide +kernel
theorem dX3_init_86 : decode cX3_init 86 = .ok (.getfield 32, 3) := by decide +kernel
theorem dX3_init_89 : decode cX3_init 89 = .ok (.arraylength, 1) := by decide +kernel
theorem dX3_init_90 : decode cX3_init 90 = .ok (.if_icmp .ge 22, 3) := by decide +kernel
theorem dX3_init_93 : decode cX3_init 93 = .ok (.aload_n 0, 1) := by decide +kernel
theorem dX3_init_94 : decode cX3_init 94 = .ok (.getfield 32, 3) := by decide +kernel
theorem dX3_init_97 : decode cX3_init 97 = .ok (.iload_n 2, 1) := by decide +kernel
theorem dX3_init_98 : decode cX3_init 98 = .ok (.new 15, 3) := by decide +kernel
theorem dX3_init_101 : decode cX3_init 101 = .ok (.dup, 1) := by decide +kernel
theorem dX3_init_102 : decode cX3_init 102 = .ok (.invokespecial 21, 3) := by decide +kernel
theorem dX3_init_105 : decode cX3_init 105 = .ok (.aastore, 1) := by decide +kernel
theorem dX3_init_106 : decode cX3_init 106 = .ok (.iinc 2 1, 3) := by decide +kernel
theorem dX3_init_109 : decode cX3_init 109 = .ok (.goto (-25), 3) := by decide +kernel
theorem dX3_init_112 : decode cX3_init 112 = .ok (.aload_n 0, 1) := by decide +kernel
theorem dX3_init_113 : decode cX3_init 113 = .ok (.iconst 0, 1) := by decide +kernel
theorem dX3_init_114 : decode cX3_init 114 = .ok (.putfield 35, 3) := by decide +kernel
theorem dX3_init_117 : decode cX3_init 117 = .ok (.aload_n 0, 1) := by decide +kernel
theorem dX3_init_118 : decode cX3_init 118 = .ok (.iconst 0, 1) := by decide +kernel
theorem dX3_init_119 : decode cX3_init 119 = .ok (.putfield 39, 3) := by decide +kernel
theorem dX3_init_122 : decode cX3_init 122 = .ok (.aload_n 0, 1) := by decide +kernel
theorem dX3_init_123 : decode cX3_init 123 = .ok (.iconst 0, 1) := by decide +kernel
theorem dX3_init_124 : decode cX3_init 124 = .ok (.putfield 43, 3) := by decide +kernel
theorem dX3_init_127 : decode cX3_init 127 = .ok (.aload_n 0, 1) := by decide +kernel
theorem dX3_init_128 : decode cX3_init 128 = .ok (.iconst 0, 1) := by decide +kernel
theorem dX3_init_129 : decode cX3_init 129 = .ok (.putfield 46, 3) := by decide +kernel
theorem dX3_init_132 : decode cX3_init 132 = .ok (.return_, 1) := by decide +kernel
theorem dX3_upTo_0 : decode cX3_upTo 0 = .ok (.iload_n 1, 1) := by decide +kernel
theorem dX3_upTo_1 : decode cX3_upTo 1 = .ok (.ifCond .lt 18, 3) := by decide +kernel
theorem dX3_upTo_4 : decode cX3_upTo 4 = .ok (.iload_n 1, 1) := by decide +kernel
theorem dX3_upTo_5 : decode cX3_upTo 5 = .ok (.iconst 4, 1) := by decide +kernel
theorem dX3_upTo_6 : decode cX3_upTo 6 = .ok (.if_icmp .ge 13, 3) := by decide +kernel
theorem dX3_upTo_9 : decode cX3_upTo 9 = .ok (.iload_n 2, 1) := by decide +kernel
theorem dX3_upTo_10 : decode cX3_upTo 10 = .ok (.ifCond .lt 9, 3) := by decide +kernel
theorem dX3_upTo_13 : decode cX3_upTo 13 = .ok (.iload_n 2, 1) := by decide +kernel
theorem dX3_upTo_14 : decode cX3_upTo 14 = .ok (.bipush 8, 2) := by decide +kernel
theorem dX3_upTo_16 : decode cX3_upTo 16 = .ok (.if_icmp .le 5, 3) := by decide +kernel
theorem dX3_upTo_19 : decode cX3_upTo 19 = .ok (.iconst 0, 1) := by decide +kernel
theorem dX3_upTo_20 : decode cX3_upTo 20 = .ok (.ireturn, 1) := by decide +kernel
theorem dX3_upTo_21 : decode cX3_upTo 21 = .ok (.aload_n 0, 1) := by decide +kernel
theorem dX3_upTo_22 : decode cX3_upTo 22 = .ok (.getfield 29, 3) := by decide +kernel
theorem dX3_upTo_25 : decode cX3_upTo 25 = .ok (.iload_n 1, 1) := by decide +kernel
theorem dX3_upTo_26 : decode cX3_upTo 26 = .ok (.bipush 9, 2) := by decide +kernel
theorem dX3_upTo_28 : decode cX3_upTo 28 = .ok (.imul, 1) := by decide +kernel
theorem dX3_upTo_29 : decode cX3_upTo 29 = .ok (.iload_n 2, 1) := by decide +kernel
theorem dX3_upTo_30 : decode cX3_upTo 30 = .ok (.iadd, 1) := by decide +kernel
theorem dX3_upTo_31 : decode cX3_upTo 31 = .ok (.iaload, 1) := by decide +kernel
theorem dX3_upTo_32 : decode cX3_upTo 32 = .ok (.ireturn, 1) := by decide +kernel
theorem dX3_valueAt_0 : decode cX3_valueAt 0 = .ok (.iload_n 1, 1) := by decide +kernel
theorem dX3_valueAt_1 : decode cX3_valueAt 1 = .ok (.ifCond .lt 29, 3) := by decide +kernel
theorem dX3_valueAt_4 : decode cX3_valueAt 4 = .ok (.iload_n 1, 1) := by decide +kernel
theorem dX3_valueAt_5 : decode cX3_valueAt 5 = .ok (.iconst 4, 1) := by decide +kernel
theorem dX3_valueAt_6 : decode cX3_valueAt 6 = .ok (.if_icmp .ge 24, 3) := by decide +kernel
theorem dX3_valueAt_9 : decode cX3_valueAt 9 = .ok (.iload_n 2, 1) := by decide +kernel
theorem dX3_valueAt_10 : decode cX3_valueAt 10 = .ok (.ifCond .lt 20, 3) := by decide +kernel
theorem dX3_valueAt_13 : decode cX3_valueAt 13 = .ok (.iload_n 2, 1) := by decide +kernel
theorem dX3_valueAt_14 : decode cX3_valueAt 14 = .ok (.sipush 300, 3) := by decide +kernel
theorem dX3_valueAt_17 : decode cX3_valueAt 17 = .ok (.if_icmp .ge 13, 3) := by decide +kernel
theorem dX3_valueAt_20 : decode cX3_valueAt 20 = .ok (.iload_n 2, 1) := by decide +kernel
theorem dX3_valueAt_21 : decode cX3_valueAt 21 = .ok (.aload_n 0, 1) := by decide +kernel
theorem dX3_valueAt_22 : decode cX3_valueAt 22 = .ok (.getfield 25, 3) := by decide +kernel
theorem dX3_valueAt_25 : decode cX3_valueAt 25 = .ok (.iload_n 1, 1) := by decide +kernel
theorem dX3_valueAt_26 : decode cX3_valueAt 26 = .ok (.iaload, 1) := by decide +kernel
theorem dX3_valueAt_27 : decode cX3_valueAt 27 = .ok (.if_icmp .lt 5, 3) := by decide +kernel
theorem dX3_valueAt_30 : decode cX3_valueAt 30 = .ok (.aconst_null, 1) := by decide +kernel
theorem dX3_valueAt_31 : decode cX3_valueAt 31 = .ok (.areturn, 1) := by decide +kernel
theorem dX3_valueAt_32 : decode cX3_valueAt 32 = .ok (.aload_n 0, 1) := by decide +kernel
theorem dX3_valueAt_33 : decode cX3_valueAt 33 = .ok (.getfield 22, 3) := by decide +kernel
theorem dX3_valueAt_36 : decode cX3_valueAt 36 = .ok (.iload_n 1, 1) := by decide +kernel
theorem dX3_valueAt_37 : decode cX3_valueAt 37 = .ok (.sipush 300, 3) := by decide +kernel
theorem dX3_valueAt_40 : decode cX3_valueAt 40 = .ok (.imul, 1) := by decide +kernel
theorem dX3_valueAt_41 : decode cX3_valueAt 41 = .ok (.iload_n 2, 1) := by decide +kernel
theorem dX3_valueAt_42 : decode cX3_valueAt 42 = .ok (.iadd, 1) := by decide +kernel
theorem dX3_valueAt_43 : decode cX3_valueAt 43 = .ok (.aaload, 1) := by decide +kernel
theorem dX3_valueAt_44 : decode cX3_valueAt 44 = .ok (.areturn, 1) := by decide +kernel
theorem dX3_find_0 : decode cX3_find 0 = .ok (.aload_n 0, 1) := by decide +kernel
theorem dX3_find_1 : decode cX3_find 1 = .ok (.aload_n 1, 1) := by decide +kernel
theorem dX3_find_2 : decode cX3_find 2 = .ok (.getfield 49, 3) := by decide +kernel
theorem dX3_find_5 : decode cX3_find 5 = .ok (.aload_n 1, 1) := by decide +kernel
theorem dX3_find_6 : decode cX3_find 6 = .ok (.getfield 52, 3) := by decide +kernel
theorem dX3_find_9 : decode cX3_find 9 = .ok (.invokevirtual 55, 3) := by decide +kernel
theorem dX3_find_12 : decode cX3_find 12 = .ok (.istore_n 2, 1) := by decide +kernel
theorem dX3_find_13 : decode cX3_find 13 = .ok (.aload_n 0, 1) := by decide +kernel
theorem dX3_find_14 : decode cX3_find 14 = .ok (.aload_n 1, 1) := by decide +kernel
theorem dX3_find_15 : decode cX3_find 15 = .ok (.getfield 49, 3) := by decide +kernel
theorem dX3_find_18 : decode cX3_find 18 = .ok (.aload_n 1, 1) := by decide +kernel
theorem dX3_find_19 : decode cX3_find 19 = .ok (.getfield 52, 3) := by decide +kernel
theorem dX3_find_22 : decode cX3_find 22 = .ok (.iconst 1, 1) := by decide +kernel
theorem dX3_find_23 : decode cX3_find 23 = .ok (.isub, 1) := by decide +kernel
theorem dX3_find_24 : decode cX3_find 24 = .ok (.invokevirtual 55, 3) := by decide +kernel
theorem dX3_find_27 : decode cX3_find 27 = .ok (.istore_n 3, 1) := by decide +kernel
theorem dX3_find_28 : decode cX3_find 28 = .ok (.iload_n 3, 1) := by decide +kernel
theorem dX3_find_29 : decode cX3_find 29 = .ok (.iload_n 2, 1) := by decide +kernel
theorem dX3_find_30 : decode cX3_find 30 = .ok (.if_icmp .ge 32, 3) := by decide +kernel
theorem dX3_find_33 : decode cX3_find 33 = .ok (.aload_n 0, 1) := by decide +kernel
theorem dX3_find_34 : decode cX3_find 34 = .ok (.aload_n 1, 1) := by decide +kernel
theorem dX3_find_35 : decode cX3_find 35 = .ok (.getfield 49, 3) := by decide +kernel
theorem dX3_find_38 : decode cX3_find 38 = .ok (.iload_n 3, 1) := by decide +kernel
theorem dX3_find_39 : decode cX3_find 39 = .ok (.invokevirtual 59, 3) := by decide +kernel
theorem dX3_find_42 : decode cX3_find 42 = .ok (.astore 4, 2) := by decide +kernel
theorem dX3_find_44 : decode cX3_find 44 = .ok (.aload_n 1, 1) := by decide +kernel
theorem dX3_find_45 : decode cX3_find 45 = .ok (.aload 4, 2) := by decide +kernel
theorem dX3_find_47 : decode cX3_find 47 = .ok (.invokevirtual 63, 3) := by decide +kernel
theorem dX3_find_50 : decode cX3_find 50 = .ok (.ifCond .ne 6, 3) := by decide +kernel
theorem dX3_find_53 : decode cX3_find 53 = .ok (.aload 4, 2) := by decide +kernel
theorem dX3_find_55 : decode cX3_find 55 = .ok (.areturn, 1) := by decide +kernel
theorem dX3_find_56 : decode cX3_find 56 = .ok (.iinc 3 1, 3) := by decide +kernel
theorem dX3_find_59 : decode cX3_find 59 = .ok (.goto (-31), 3) := by decide +kernel
theorem dX3_find_62 : decode cX3_find 62 = .ok (.aconst_null, 1) := by decide +kernel
theorem dX3_find_63 : decode cX3_find 63 = .ok (.areturn, 1) := by decide +kernel
theorem dX3_refresh_0 : decode cX3_refresh 0 = .ok (.aload_n 0, 1) := by decide +kernel
theorem dX3_refresh_1 : decode cX3_refresh 1 = .ok (.getfield 46, 3) := by decide +kernel
theorem dX3_refresh_4 : decode cX3_refresh 4 = .ok (.ifCond .eq 4, 3) := by decide +kernel
theorem dX3_refresh_7 : decode cX3_refresh 7 = .ok (.return_, 1) := by decide +kernel
theorem dX3_refresh_8 : decode cX3_refresh 8 = .ok (.aload_n 0, 1) := by decide +kernel
theorem dX3_refresh_9 : decode cX3_refresh 9 = .ok (.iconst 0, 1) := by decide +kernel
theorem dX3_refresh_10 : decode cX3_refresh 10 = .ok (.putfield 35, 3) := by decide +kernel
theorem dX3_refresh_13 : decode cX3_refresh 13 = .ok (.aload_n 0, 1) := by decide +kernel
theorem dX3_refresh_14 : decode cX3_refresh 14 = .ok (.iconst 0, 1) := by decide +kernel
theorem dX3_refresh_15 : decode cX3_refresh 15 = .ok (.putfield 39, 3) := by decide +kernel
theorem dX3_refresh_18 : decode cX3_refresh 18 = .ok (.aload_n 0, 1) := by decide +kernel
theorem dX3_refresh_19 : decode cX3_refresh 19 = .ok (.iconst 0, 1) := by decide +kernel
theorem dX3_refresh_20 : decode cX3_refresh 20 = .ok (.putfield 43, 3) := by decide +kernel
theorem dX3_refresh_23 : decode cX3_refresh 23 = .ok (.iconst 0, 1) := by decide +kernel
theorem dX3_refresh_24 : decode cX3_refresh 24 = .ok (.istore_n 1, 1) := by decide +kernel
theorem dX3_refresh_25 : decode cX3_refresh 25 = .ok (.iload_n 1, 1) := by decide +kernel
theorem dX3_refresh_26 : decode cX3_refresh 26 = .ok (.iconst 4, 1) := by decide +kernel
theorem dX3_refresh_27 : decode cX3_refresh 27 = .ok (.if_icmp .ge 16, 3) := by decide +kernel
theorem dX3_refresh_30 : decode cX3_refresh 30 = .ok (.aload_n 0, 1) := by decide +kernel
theorem dX3_refresh_31 : decode cX3_refresh 31 = .ok (.getfield 25, 3) := by decide +kernel
theorem dX3_refresh_34 : decode cX3_refresh 34 = .ok (.iload_n 1, 1) := by decide +kernel
theorem dX3_refresh_35 : decode cX3_refresh 35 = .ok (.iconst 0, 1) := by decide +kernel
theorem dX3_refresh_36 : decode cX3_refresh 36 = .ok (.iastore, 1) := by decide +kernel
theorem dX3_refresh_37 : decode cX3_refresh 37 = .ok (.iinc 1 1, 3) := by decide +kernel
theorem dX3_refresh_40 : decode cX3_refresh 40 = .ok (.goto (-15), 3) := by decide +kernel
theorem dX3_refresh_43 : decode cX3_refresh 43 = .ok (.iconst 1, 1) := by decide +kernel
theorem dX3_refresh_44 : decode cX3_refresh 44 = .ok (.istore_n 1, 1) := by decide +kernel
theorem dX3_refresh_45 : decode cX3_refresh 45 = .ok (.iload_n 1, 1) := by decide +kernel
theorem dX3_refresh_46 : decode cX3_refresh 46 = .ok (.bipush 8, 2) := by decide +kernel
theorem dX3_refresh_48 : decode cX3_refresh 48 = .ok (.if_icmp .gt 26, 3) := by decide +kernel
theorem dX3_refresh_51 : decode cX3_refresh 51 = .ok (.aload_n 0, 1) := by decide +kernel
theorem dX3_refresh_52 : decode cX3_refresh 52 = .ok (.getfield 39, 3) := by decide +kernel
theorem dX3_refresh_55 : decode cX3_refresh 55 = .ok (.ifCond .ne 19, 3) := by decide +kernel
theorem dX3_refresh_58 : decode cX3_refresh 58 = .ok (.aload_n 0, 1) := by decide +kernel
theorem dX3_refresh_59 : decode cX3_refresh 59 = .ok (.iload_n 1, 1) := by decide +kernel
theorem dX3_refresh_60 : decode cX3_refresh 60 = .ok (.invokevirtual 67, 3) := by decide +kernel
theorem dX3_refresh_63 : decode cX3_refresh 63 = .ok (.aload_n 0, 1) := by decide +kernel
theorem dX3_refresh_64 : decode cX3_refresh 64 = .ok (.iload_n 1, 1) := by decide +kernel
theorem dX3_refresh_65 : decode cX3_refresh 65 = .ok (.invokevirtual 71, 3) := by decide +kernel
theorem dX3_refresh_68 : decode cX3_refresh 68 = .ok (.iinc 1 1, 3) := by decide +kernel
theorem dX3_refresh_71 : decode cX3_refresh 71 = .ok (.goto (-26), 3) := by decide +kernel
theorem dX3_refresh_74 : decode cX3_refresh 74 = .ok (.aload_n 0, 1) := by decide +kernel
theorem dX3_refresh_75 : decode cX3_refresh 75 = .ok (.iconst 1, 1) := by decide +kernel
theorem dX3_refresh_76 : decode cX3_refresh 76 = .ok (.putfield 46, 3) := by decide +kernel
theorem dX3_refresh_79 : decode cX3_refresh 79 = .ok (.return_, 1) := by decide +kernel
theorem dX3_makeSize_0 : decode cX3_makeSize 0 = .ok (.aload_n 0, 1) := by decide +kernel
theorem dX3_makeSize_1 : decode cX3_makeSize 1 = .ok (.getfield 32, 3) := by decide +kernel
theorem dX3_makeSize_4 : decode cX3_makeSize 4 = .ok (.iconst 0, 1) := by decide +kernel
theorem dX3_makeSize_5 : decode cX3_makeSize 5 = .ok (.aaload, 1) := by decide +kernel
theorem dX3_makeSize_6 : decode cX3_makeSize 6 = .ok (.astore_n 2, 1) := by decide +kernel
theorem dX3_makeSize_7 : decode cX3_makeSize 7 = .ok (.aload_n 2, 1) := by decide +kernel
theorem dX3_makeSize_8 : decode cX3_makeSize 8 = .ok (.ifnonnull 4, 3) := by decide +kernel
theorem dX3_makeSize_11 : decode cX3_makeSize 11 = .ok (.return_, 1) := by decide +kernel
theorem dX3_makeSize_12 : decode cX3_makeSize 12 = .ok (.iconst 0, 1) := by decide +kernel
theorem dX3_makeSize_13 : decode cX3_makeSize 13 = .ok (.istore_n 3, 1) := by decide +kernel
theorem dX3_makeSize_14 : decode cX3_makeSize 14 = .ok (.iload_n 3, 1) := by decide +kernel
theorem dX3_makeSize_15 : decode cX3_makeSize 15 = .ok (.aload_n 0, 1) := by decide +kernel
theorem dX3_makeSize_16 : decode cX3_makeSize 16 = .ok (.getfield 9, 3) := by decide +kernel
theorem dX3_makeSize_19 : decode cX3_makeSize 19 = .ok (.getfield 74, 3) := by decide +kernel
theorem dX3_makeSize_22 : decode cX3_makeSize 22 = .ok (.if_icmp .ge 37, 3) := by decide +kernel
theorem dX3_makeSize_25 : decode cX3_makeSize 25 = .ok (.aload_n 0, 1) := by decide +kernel
theorem dX3_makeSize_26 : decode cX3_makeSize 26 = .ok (.getfield 39, 3) := by decide +kernel
theorem dX3_makeSize_29 : decode cX3_makeSize 29 = .ok (.ifCond .ne 30, 3) := by decide +kernel
theorem dX3_makeSize_32 : decode cX3_makeSize 32 = .ok (.aload_n 2, 1) := by decide +kernel
theorem dX3_makeSize_33 : decode cX3_makeSize 33 = .ok (.aload_n 0, 1) := by decide +kernel
theorem dX3_makeSize_34 : decode cX3_makeSize 34 = .ok (.getfield 9, 3) := by decide +kernel
theorem dX3_makeSize_37 : decode cX3_makeSize 37 = .ok (.iload_n 3, 1) := by decide +kernel
theorem dX3_makeSize_38 : decode cX3_makeSize 38 = .ok (.invokevirtual 79, 3) := by decide +kernel
theorem dX3_makeSize_41 : decode cX3_makeSize 41 = .ok (.iload_n 3, 1) := by decide +kernel
theorem dX3_makeSize_42 : decode cX3_makeSize 42 = .ok (.invokevirtual 83, 3) := by decide +kernel
theorem dX3_makeSize_45 : decode cX3_makeSize 45 = .ok (.aload_n 0, 1) := by decide +kernel
theorem dX3_makeSize_46 : decode cX3_makeSize 46 = .ok (.aload_n 2, 1) := by decide +kernel
theorem dX3_makeSize_47 : decode cX3_makeSize 47 = .ok (.iload_n 1, 1) := by decide +kernel
theorem dX3_makeSize_48 : decode cX3_makeSize 48 = .ok (.iconst 1, 1) := by decide +kernel
theorem dX3_makeSize_49 : decode cX3_makeSize 49 = .ok (.isub, 1) := by decide +kernel
theorem dX3_makeSize_50 : decode cX3_makeSize 50 = .ok (.invokevirtual 87, 3) := by decide +kernel
theorem dX3_makeSize_53 : decode cX3_makeSize 53 = .ok (.iinc 3 1, 3) := by decide +kernel
theorem dX3_makeSize_56 : decode cX3_makeSize 56 = .ok (.goto (-42), 3) := by decide +kernel
theorem dX3_makeSize_59 : decode cX3_makeSize 59 = .ok (.return_, 1) := by decide +kernel
theorem dX3_closeSize_0 : decode cX3_closeSize 0 = .ok (.iconst 0, 1) := by decide +kernel
theorem dX3_closeSize_1 : decode cX3_closeSize 1 = .ok (.istore_n 2, 1) := by decide +kernel
theorem dX3_closeSize_2 : decode cX3_closeSize 2 = .ok (.iload_n 2, 1) := by decide +kernel
theorem dX3_closeSize_3 : decode cX3_closeSize 3 = .ok (.iconst 4, 1) := by decide +kernel
theorem dX3_closeSize_4 : decode cX3_closeSize 4 = .ok (.if_icmp .ge 50, 3) := by decide +kernel
theorem dX3_closeSize_7 : decode cX3_closeSize 7 = .ok (.aload_n 0, 1) := by decide +kernel
theorem dX3_closeSize_8 : decode cX3_closeSize 8 = .ok (.getfield 39, 3) := by decide +kernel
theorem dX3_closeSize_11 : decode cX3_closeSize 11 = .ok (.ifCond .eq 20, 3) := by decide +kernel
theorem dX3_closeSize_14 : decode cX3_closeSize 14 = .ok (.aload_n 0, 1) := by decide +kernel
theorem dX3_closeSize_15 : decode cX3_closeSize 15 = .ok (.getfield 25, 3) := by decide +kernel
theorem dX3_closeSize_18 : decode cX3_closeSize 18 = .ok (.iload_n 2, 1) := by decide +kernel
theorem dX3_closeSize_19 : decode cX3_closeSize 19 = .ok (.aload_n 0, 1) := by decide +kernel
theorem dX3_closeSize_20 : decode cX3_closeSize 20 = .ok (.iload_n 2, 1) := by decide +kernel
theorem dX3_closeSize_21 : decode cX3_closeSize 21 = .ok (.iload_n 1, 1) := by decide +kernel
theorem dX3_closeSize_22 : decode cX3_closeSize 22 = .ok (.iconst 1, 1) := by decide +kernel
theorem dX3_closeSize_23 : decode cX3_closeSize 23 = .ok (.isub, 1) := by decide +kernel
theorem dX3_closeSize_24 : decode cX3_closeSize 24 = .ok (.invokevirtual 55, 3) := by decide +kernel
theorem dX3_closeSize_27 : decode cX3_closeSize 27 = .ok (.iastore, 1) := by decide +kernel
theorem dX3_closeSize_28 : decode cX3_closeSize 28 = .ok (.goto 20, 3) := by decide +kernel
theorem dX3_closeSize_31 : decode cX3_closeSize 31 = .ok (.aload_n 0, 1) := by decide +kernel
theorem dX3_closeSize_32 : decode cX3_closeSize 32 = .ok (.getfield 29, 3) := by decide +kernel
theorem dX3_closeSize_35 : decode cX3_closeSize 35 = .ok (.iload_n 2, 1) := by decide +kernel
theorem dX3_closeSize_36 : decode cX3_closeSize 36 = .ok (.bipush 9, 2) := by decide +kernel
theorem dX3_closeSize_38 : decode cX3_closeSize 38 = .ok (.imul, 1) := by decide +kernel
theorem dX3_closeSize_39 : decode cX3_closeSize 39 = .ok (.iload_n 1, 1) := by decide +kernel
theorem dX3_closeSize_40 : decode cX3_closeSize 40 = .ok (.iadd, 1) := by decide +kernel
theorem dX3_closeSize_41 : decode cX3_closeSize 41 = .ok (.aload_n 0, 1) := by decide +kernel
theorem dX3_closeSize_42 : decode cX3_closeSize 42 = .ok (.getfield 25, 3) := by decide +kernel
theorem dX3_closeSize_45 : decode cX3_closeSize 45 = .ok (.iload_n 2, 1) := by decide +kernel
theorem dX3_closeSize_46 : decode cX3_closeSize 46 = .ok (.iaload, 1) := by decide +kernel
theorem dX3_closeSize_47 : decode cX3_closeSize 47 = .ok (.iastore, 1) := by decide +kernel
theorem dX3_closeSize_48 : decode cX3_closeSize 48 = .ok (.iinc 2 1, 3) := by decide +kernel
theorem dX3_closeSize_51 : decode cX3_closeSize 51 = .ok (.goto (-49), 3) := by decide +kernel
theorem dX3_closeSize_54 : decode cX3_closeSize 54 = .ok (.aload_n 0, 1) := by decide +kernel
theorem dX3_closeSize_55 : decode cX3_closeSize 55 = .ok (.getfield 39, 3) := by decide +kernel
theorem dX3_closeSize_58 : decode cX3_closeSize 58 = .ok (.ifCond .ne 8, 3) := by decide +kernel
theorem dX3_closeSize_61 : decode cX3_closeSize 61 = .ok (.aload_n 0, 1) := by decide +kernel
theorem dX3_closeSize_62 : decode cX3_closeSize 62 = .ok (.iload_n 1, 1) := by decide +kernel
theorem dX3_closeSize_63 : decode cX3_closeSize 63 = .ok (.putfield 43, 3) := by decide +kernel
theorem dX3_closeSize_66 : decode cX3_closeSize 66 = .ok (.return_, 1) := by decide +kernel
theorem dX3_extend_0 : decode cX3_extend 0 = .ok (.aload_n 0, 1) := by decide +kernel
theorem dX3_extend_1 : decode cX3_extend 1 = .ok (.getfield 9, 3) := by decide +kernel
theorem dX3_extend_4 : decode cX3_extend 4 = .ok (.aload_n 1, 1) := by decide +kernel
theorem dX3_extend_5 : decode cX3_extend 5 = .ok (.getfield 91, 3) := by decide +kernel
theorem dX3_extend_8 : decode cX3_extend 8 = .ok (.aload_n 1, 1) := by decide +kernel
theorem dX3_extend_9 : decode cX3_extend 9 = .ok (.getfield 94, 3) := by decide +kernel
theorem dX3_extend_12 : decode cX3_extend 12 = .ok (.invokevirtual 97, 3) := by decide +kernel
theorem dX3_extend_15 : decode cX3_extend 15 = .ok (.istore_n 3, 1) := by decide +kernel
theorem dX3_extend_16 : decode cX3_extend 16 = .ok (.aload_n 0, 1) := by decide +kernel
theorem dX3_extend_17 : decode cX3_extend 17 = .ok (.getfield 9, 3) := by decide +kernel
theorem dX3_extend_20 : decode cX3_extend 20 = .ok (.aload_n 1, 1) := by decide +kernel
theorem dX3_extend_21 : decode cX3_extend 21 = .ok (.getfield 91, 3) := by decide +kernel
theorem dX3_extend_24 : decode cX3_extend 24 = .ok (.aload_n 1, 1) := by decide +kernel
theorem dX3_extend_25 : decode cX3_extend 25 = .ok (.getfield 94, 3) := by decide +kernel
theorem dX3_extend_28 : decode cX3_extend 28 = .ok (.invokevirtual 100, 3) := by decide +kernel
theorem dX3_extend_31 : decode cX3_extend 31 = .ok (.istore 4, 2) := by decide +kernel
theorem dX3_extend_33 : decode cX3_extend 33 = .ok (.iload 4, 2) := by decide +kernel
theorem dX3_extend_35 : decode cX3_extend 35 = .ok (.ifCond .ne 15, 3) := by decide +kernel
theorem dX3_extend_38 : decode cX3_extend 38 = .ok (.iload_n 2, 1) := by decide +kernel
theorem dX3_extend_39 : decode cX3_extend 39 = .ok (.ifCond .eq 7, 3) := by decide +kernel
theorem dX3_extend_42 : decode cX3_extend 42 = .ok (.iconst 1, 1) := by decide +kernel
theorem dX3_extend_43 : decode cX3_extend 43 = .ok (.goto 18, 3) := by decide +kernel
theorem dX3_extend_46 : decode cX3_extend 46 = .ok (.iconst 0, 1) := by decide +kernel
theorem dX3_extend_47 : decode cX3_extend 47 = .ok (.goto 14, 3) := by decide +kernel
theorem dX3_extend_50 : decode cX3_extend 50 = .ok (.iload_n 2, 1) := by decide +kernel
theorem dX3_extend_51 : decode cX3_extend 51 = .ok (.iload 4, 2) := by decide +kernel
theorem dX3_extend_53 : decode cX3_extend 53 = .ok (.if_icmp .ge 7, 3) := by decide +kernel
theorem dX3_extend_56 : decode cX3_extend 56 = .ok (.iconst 1, 1) := by decide +kernel
theorem dX3_extend_57 : decode cX3_extend 57 = .ok (.goto 4, 3) := by decide +kernel
theorem dX3_extend_60 : decode cX3_extend 60 = .ok (.iconst 0, 1) := by decide +kernel
theorem dX3_extend_61 : decode cX3_extend 61 = .ok (.istore 5, 2) := by decide +kernel
theorem dX3_extend_63 : decode cX3_extend 63 = .ok (.iload 5, 2) := by decide +kernel
theorem dX3_extend_65 : decode cX3_extend 65 = .ok (.ifCond .ne 21, 3) := by decide +kernel
theorem dX3_extend_68 : decode cX3_extend 68 = .ok (.aload_n 0, 1) := by decide +kernel
theorem dX3_extend_69 : decode cX3_extend 69 = .ok (.aload_n 1, 1) := by decide +kernel
theorem dX3_extend_70 : decode cX3_extend 70 = .ok (.iload_n 3, 1) := by decide +kernel
theorem dX3_extend_71 : decode cX3_extend 71 = .ok (.iconst (-1), 1) := by decide +kernel
theorem dX3_extend_72 : decode cX3_extend 72 = .ok (.if_icmp .ne 7, 3) := by decide +kernel
theorem dX3_extend_75 : decode cX3_extend 75 = .ok (.iconst 1, 1) := by decide +kernel
theorem dX3_extend_76 : decode cX3_extend 76 = .ok (.goto 4, 3) := by decide +kernel
theorem dX3_extend_79 : decode cX3_extend 79 = .ok (.iconst 0, 1) := by decide +kernel
theorem dX3_extend_80 : decode cX3_extend 80 = .ok (.invokevirtual 103, 3) := by decide +kernel
theorem dX3_extend_83 : decode cX3_extend 83 = .ok (.ifCond .eq 4, 3) := by decide +kernel
theorem dX3_extend_86 : decode cX3_extend 86 = .ok (.return_, 1) := by decide +kernel
theorem dX3_extend_87 : decode cX3_extend 87 = .ok (.iload_n 3, 1) := by decide +kernel
theorem dX3_extend_88 : decode cX3_extend 88 = .ok (.iconst (-1), 1) := by decide +kernel
theorem dX3_extend_89 : decode cX3_extend 89 = .ok (.if_icmp .ne 11, 3) := by decide +kernel
theorem dX3_extend_92 : decode cX3_extend 92 = .ok (.aload_n 0, 1) := by decide +kernel
theorem dX3_extend_93 : decode cX3_extend 93 = .ok (.aload_n 1, 1) := by decide +kernel
theorem dX3_extend_94 : decode cX3_extend 94 = .ok (.invokevirtual 107, 3) := by decide +kernel
theorem dX3_extend_97 : decode cX3_extend 97 = .ok (.goto 27, 3) := by decide +kernel
theorem dX3_extend_100 : decode cX3_extend 100 = .ok (.iload_n 3, 1) := by decide +kernel
theorem dX3_extend_101 : decode cX3_extend 101 = .ok (.bipush 9, 2) := by decide +kernel
theorem dX3_extend_103 : decode cX3_extend 103 = .ok (.if_icmp .ne 12, 3) := by decide +kernel
theorem dX3_extend_106 : decode cX3_extend 106 = .ok (.aload_n 0, 1) := by decide +kernel
theorem dX3_extend_107 : decode cX3_extend 107 = .ok (.aload_n 1, 1) := by decide +kernel
theorem dX3_extend_108 : decode cX3_extend 108 = .ok (.iload_n 2, 1) := by decide +kernel
theorem dX3_extend_109 : decode cX3_extend 109 = .ok (.invokevirtual 111, 3) := by decide +kernel
theorem dX3_extend_112 : decode cX3_extend 112 = .ok (.goto 12, 3) := by decide +kernel
theorem dX3_extend_115 : decode cX3_extend 115 = .ok (.aload_n 0, 1) := by decide +kernel
theorem dX3_extend_116 : decode cX3_extend 116 = .ok (.aload_n 1, 1) := by decide +kernel
theorem dX3_extend_117 : decode cX3_extend 117 = .ok (.iload_n 3, 1) := by decide +kernel
theorem dX3_extend_118 : decode cX3_extend 118 = .ok (.iload_n 2, 1) := by decide +kernel
theorem dX3_extend_119 : decode cX3_extend 119 = .ok (.iload 4, 2) := by decide +kernel
theorem dX3_extend_121 : decode cX3_extend 121 = .ok (.invokevirtual 114, 3) := by decide +kernel
theorem dX3_extend_124 : decode cX3_extend 124 = .ok (.return_, 1) := by decide +kernel
theorem dX3_isHopeless_0 : decode cX3_isHopeless 0 = .ok (.aload_n 0, 1) := by decide +kernel
theorem dX3_isHopeless_1 : decode cX3_isHopeless 1 = .ok (.getfield 9, 3) := by decide +kernel
theorem dX3_isHopeless_4 : decode cX3_isHopeless 4 = .ok (.aload_n 1, 1) := by decide +kernel
theorem dX3_isHopeless_5 : decode cX3_isHopeless 5 = .ok (.getfield 91, 3) := by decide +kernel
theorem dX3_isHopeless_8 : decode cX3_isHopeless 8 = .ok (.invokevirtual 118, 3) := by decide +kernel
theorem dX3_isHopeless_11 : decode cX3_isHopeless 11 = .ok (.istore_n 3, 1) := by decide +kernel
theorem dX3_isHopeless_12 : decode cX3_isHopeless 12 = .ok (.iload_n 2, 1) := by decide +kernel
theorem dX3_isHopeless_13 : decode cX3_isHopeless 13 = .ok (.ifCond .ne 8, 3) := by decide +kernel
theorem dX3_isHopeless_16 : decode cX3_isHopeless 16 = .ok (.iload_n 3, 1) := by decide +kernel
theorem dX3_isHopeless_17 : decode cX3_isHopeless 17 = .ok (.iconst 5, 1) := by decide +kernel
theorem dX3_isHopeless_18 : decode cX3_isHopeless 18 = .ok (.if_icmp .eq 15, 3) := by decide +kernel
theorem dX3_isHopeless_21 : decode cX3_isHopeless 21 = .ok (.aload_n 1, 1) := by decide +kernel
theorem dX3_isHopeless_22 : decode cX3_isHopeless 22 = .ok (.iload_n 3, 1) := by decide +kernel
theorem dX3_isHopeless_23 : decode cX3_isHopeless 23 = .ok (.invokevirtual 121, 3) := by decide +kernel
theorem dX3_isHopeless_26 : decode cX3_isHopeless 26 = .ok (.ifCond .ne 7, 3) := by decide +kernel
theorem dX3_isHopeless_29 : decode cX3_isHopeless 29 = .ok (.iconst 1, 1) := by decide +kernel
theorem dX3_isHopeless_30 : decode cX3_isHopeless 30 = .ok (.goto 4, 3) := by decide +kernel
theorem dX3_isHopeless_33 : decode cX3_isHopeless 33 = .ok (.iconst 0, 1) := by decide +kernel
theorem dX3_isHopeless_34 : decode cX3_isHopeless 34 = .ok (.ireturn, 1) := by decide +kernel
theorem dX3_extendByNumbers_0 : decode cX3_extendByNumbers 0 = .ok (.aload_n 0, 1) := by decide +kernel
theorem dX3_extendByNumbers_1 : decode cX3_extendByNumbers 1 = .ok (.getfield 9, 3) := by decide +kernel
theorem dX3_extendByNumbers_4 : decode cX3_extendByNumbers 4 = .ok (.getfield 125, 3) := by decide +kernel
theorem dX3_extendByNumbers_7 : decode cX3_extendByNumbers 7 = .ok (.istore_n 3, 1) := by decide +kernel
theorem dX3_extendByNumbers_8 : decode cX3_extendByNumbers 8 = .ok (.iload_n 3, 1) := by decide +kernel
theorem dX3_extendByNumbers_9 : decode cX3_extendByNumbers 9 = .ok (.aload_n 0, 1) := by decide +kernel
theorem dX3_extendByNumbers_10 : decode cX3_extendByNumbers 10 = .ok (.getfield 9, 3) := by decide +kernel
theorem dX3_extendByNumbers_13 : decode cX3_extendByNumbers 13 = .ok (.getfield 128, 3) := by decide +kernel
theorem dX3_extendByNumbers_16 : decode cX3_extendByNumbers 16 = .ok (.if_icmp .gt 41, 3) := by decide +kernel
theorem dX3_extendByNumbers_19 : decode cX3_extendByNumbers 19 = .ok (.aload_n 0, 1) := by decide +kernel
theorem dX3_extendByNumbers_20 : decode cX3_extendByNumbers 20 = .ok (.getfield 39, 3) := by decide +kernel
theorem dX3_extendByNumbers_23 : decode cX3_extendByNumbers 23 = .ok (.ifCond .ne 34, 3) := by decide +kernel
theorem dX3_extendByNumbers_26 : decode cX3_extendByNumbers 26 = .ok (.aload_n 0, 1) := by decide +kernel
theorem dX3_extendByNumbers_27 : decode cX3_extendByNumbers 27 = .ok (.aload_n 1, 1) := by decide +kernel
theorem dX3_extendByNumbers_28 : decode cX3_extendByNumbers 28 = .ok (.invokevirtual 131, 3) := by decide +kernel
theorem dX3_extendByNumbers_31 : decode cX3_extendByNumbers 31 = .ok (.astore 4, 2) := by decide +kernel
theorem dX3_extendByNumbers_33 : decode cX3_extendByNumbers 33 = .ok (.aload 4, 2) := by decide +kernel
theorem dX3_extendByNumbers_35 : decode cX3_extendByNumbers 35 = .ok (.ifnull 16, 3) := by decide +kernel
theorem dX3_extendByNumbers_38 : decode cX3_extendByNumbers 38 = .ok (.aload 4, 2) := by decide +kernel
theorem dX3_extendByNumbers_40 : decode cX3_extendByNumbers 40 = .ok (.iload_n 3, 1) := by decide +kernel
theorem dX3_extendByNumbers_41 : decode cX3_extendByNumbers 41 = .ok (.invokevirtual 135, 3) := by decide +kernel
theorem dX3_extendByNumbers_44 : decode cX3_extendByNumbers 44 = .ok (.aload_n 0, 1) := by decide +kernel
theorem dX3_extendByNumbers_45 : decode cX3_extendByNumbers 45 = .ok (.aload 4, 2) := by decide +kernel
theorem dX3_extendByNumbers_47 : decode cX3_extendByNumbers 47 = .ok (.iload_n 2, 1) := by decide +kernel
theorem dX3_extendByNumbers_48 : decode cX3_extendByNumbers 48 = .ok (.invokevirtual 87, 3) := by decide +kernel
theorem dX3_extendByNumbers_51 : decode cX3_extendByNumbers 51 = .ok (.iinc 3 1, 3) := by decide +kernel
theorem dX3_extendByNumbers_54 : decode cX3_extendByNumbers 54 = .ok (.goto (-46), 3) := by decide +kernel
theorem dX3_extendByNumbers_57 : decode cX3_extendByNumbers 57 = .ok (.return_, 1) := by decide +kernel
theorem dX3_extendByParts_0 : decode cX3_extendByParts 0 = .ok (.aload_n 0, 1) := by decide +kernel
theorem dX3_extendByParts_1 : decode cX3_extendByParts 1 = .ok (.getfield 9, 3) := by decide +kernel
theorem dX3_extendByParts_4 : decode cX3_extendByParts 4 = .ok (.aload_n 1, 1) := by decide +kernel
theorem dX3_extendByParts_5 : decode cX3_extendByParts 5 = .ok (.getfield 91, 3) := by decide +kernel
theorem dX3_extendByParts_8 : decode cX3_extendByParts 8 = .ok (.invokevirtual 118, 3) := by decide +kernel
theorem dX3_extendByParts_11 : decode cX3_extendByParts 11 = .ok (.istore 5, 2) := by decide +kernel
theorem dX3_extendByParts_13 : decode cX3_extendByParts 13 = .ok (.iload 4, 2) := by decide +kernel
theorem dX3_extendByParts_15 : decode cX3_extendByParts 15 = .ok (.iconst 1, 1) := by decide +kernel
theorem dX3_extendByParts_16 : decode cX3_extendByParts 16 = .ok (.if_icmp .ne 7, 3) := by decide +kernel
theorem dX3_extendByParts_19 : decode cX3_extendByParts 19 = .ok (.iload_n 3, 1) := by decide +kernel
theorem dX3_extendByParts_20 : decode cX3_extendByParts 20 = .ok (.goto 4, 3) := by decide +kernel
theorem dX3_extendByParts_23 : decode cX3_extendByParts 23 = .ok (.iconst 1, 1) := by decide +kernel
theorem dX3_extendByParts_24 : decode cX3_extendByParts 24 = .ok (.istore 6, 2) := by decide +kernel
theorem dX3_extendByParts_26 : decode cX3_extendByParts 26 = .ok (.aload_n 0, 1) := by decide +kernel
theorem dX3_extendByParts_27 : decode cX3_extendByParts 27 = .ok (.iload_n 2, 1) := by decide +kernel
theorem dX3_extendByParts_28 : decode cX3_extendByParts 28 = .ok (.iload_n 3, 1) := by decide +kernel
theorem dX3_extendByParts_29 : decode cX3_extendByParts 29 = .ok (.iload 4, 2) := by decide +kernel
theorem dX3_extendByParts_31 : decode cX3_extendByParts 31 = .ok (.iconst 1, 1) := by decide +kernel
theorem dX3_extendByParts_32 : decode cX3_extendByParts 32 = .ok (.isub, 1) := by decide +kernel
theorem dX3_extendByParts_33 : decode cX3_extendByParts 33 = .ok (.isub, 1) := by decide +kernel
theorem dX3_extendByParts_34 : decode cX3_extendByParts 34 = .ok (.invokevirtual 55, 3) := by decide +kernel
theorem dX3_extendByParts_37 : decode cX3_extendByParts 37 = .ok (.istore 7, 2) := by decide +kernel
theorem dX3_extendByParts_39 : decode cX3_extendByParts 39 = .ok (.aload_n 0, 1) := by decide +kernel
theorem dX3_extendByParts_40 : decode cX3_extendByParts 40 = .ok (.iload_n 2, 1) := by decide +kernel
theorem dX3_extendByParts_41 : decode cX3_extendByParts 41 = .ok (.iload 6, 2) := by decide +kernel
theorem dX3_extendByParts_43 : decode cX3_extendByParts 43 = .ok (.iconst 1, 1) := by decide +kernel
theorem dX3_extendByParts_44 : decode cX3_extendByParts 44 = .ok (.isub, 1) := by decide +kernel
theorem dX3_extendByParts_45 : decode cX3_extendByParts 45 = .ok (.invokevirtual 55, 3) := by decide +kernel
theorem dX3_extendByParts_48 : decode cX3_extendByParts 48 = .ok (.istore 8, 2) := by decide +kernel
theorem dX3_extendByParts_50 : decode cX3_extendByParts 50 = .ok (.iload 8, 2) := by decide +kernel
theorem dX3_extendByParts_52 : decode cX3_extendByParts 52 = .ok (.iload 7, 2) := by decide +kernel
theorem dX3_extendByParts_54 : decode cX3_extendByParts 54 = .ok (.if_icmp .ge 76, 3) := by decide +kernel
theorem dX3_extendByParts_57 : decode cX3_extendByParts 57 = .ok (.aload_n 0, 1) := by decide +kernel
theorem dX3_extendByParts_58 : decode cX3_extendByParts 58 = .ok (.getfield 39, 3) := by decide +kernel
theorem dX3_extendByParts_61 : decode cX3_extendByParts 61 = .ok (.ifCond .ne 69, 3) := by decide +kernel
theorem dX3_extendByParts_64 : decode cX3_extendByParts 64 = .ok (.aload_n 0, 1) := by decide +kernel
theorem dX3_extendByParts_65 : decode cX3_extendByParts 65 = .ok (.iload_n 2, 1) := by decide +kernel
theorem dX3_extendByParts_66 : decode cX3_extendByParts 66 = .ok (.iload 8, 2) := by decide +kernel
theorem dX3_extendByParts_68 : decode cX3_extendByParts 68 = .ok (.invokevirtual 59, 3) := by decide +kernel
theorem dX3_extendByParts_71 : decode cX3_extendByParts 71 = .ok (.astore 9, 2) := by decide +kernel
theorem dX3_extendByParts_73 : decode cX3_extendByParts 73 = .ok (.aload 9, 2) := by decide +kernel
theorem dX3_extendByParts_75 : decode cX3_extendByParts 75 = .ok (.ifnull 49, 3) := by decide +kernel
theorem dX3_extendByParts_78 : decode cX3_extendByParts 78 = .ok (.aload_n 1, 1) := by decide +kernel
theorem dX3_extendByParts_79 : decode cX3_extendByParts 79 = .ok (.aload 9, 2) := by decide +kernel
theorem dX3_extendByParts_81 : decode cX3_extendByParts 81 = .ok (.iload 5, 2) := by decide +kernel
theorem dX3_extendByParts_83 : decode cX3_extendByParts 83 = .ok (.invokevirtual 138, 3) := by decide +kernel
theorem dX3_extendByParts_86 : decode cX3_extendByParts 86 = .ok (.ifCond .eq 6, 3) := by decide +kernel
theorem dX3_extendByParts_89 : decode cX3_extendByParts 89 = .ok (.goto 35, 3) := by decide +kernel
theorem dX3_extendByParts_92 : decode cX3_extendByParts 92 = .ok (.aload_n 0, 1) := by decide +kernel
theorem dX3_extendByParts_93 : decode cX3_extendByParts 93 = .ok (.aload_n 1, 1) := by decide +kernel
theorem dX3_extendByParts_94 : decode cX3_extendByParts 94 = .ok (.invokevirtual 131, 3) := by decide +kernel
theorem dX3_extendByParts_97 : decode cX3_extendByParts 97 = .ok (.astore 10, 2) := by decide +kernel
theorem dX3_extendByParts_99 : decode cX3_extendByParts 99 = .ok (.aload 10, 2) := by decide +kernel
theorem dX3_extendByParts_101 : decode cX3_extendByParts 101 = .ok (.ifnull 23, 3) := by decide +kernel
theorem dX3_extendByParts_104 : decode cX3_extendByParts 104 = .ok (.aload 10, 2) := by decide +kernel
theorem dX3_extendByParts_106 : decode cX3_extendByParts 106 = .ok (.aload 9, 2) := by decide +kernel
theorem dX3_extendByParts_108 : decode cX3_extendByParts 108 = .ok (.invokevirtual 142, 3) := by decide +kernel
theorem dX3_extendByParts_111 : decode cX3_extendByParts 111 = .ok (.aload_n 0, 1) := by decide +kernel
theorem dX3_extendByParts_112 : decode cX3_extendByParts 112 = .ok (.aload 10, 2) := by decide +kernel
theorem dX3_extendByParts_114 : decode cX3_extendByParts 114 = .ok (.iload_n 3, 1) := by decide +kernel
theorem dX3_extendByParts_115 : decode cX3_extendByParts 115 = .ok (.aload 9, 2) := by decide +kernel
theorem dX3_extendByParts_117 : decode cX3_extendByParts 117 = .ok (.getfield 52, 3) := by decide +kernel
theorem dX3_extendByParts_120 : decode cX3_extendByParts 120 = .ok (.isub, 1) := by decide +kernel
theorem dX3_extendByParts_121 : decode cX3_extendByParts 121 = .ok (.invokevirtual 87, 3) := by decide +kernel
theorem dX3_extendByParts_124 : decode cX3_extendByParts 124 = .ok (.iinc 8 1, 3) := by decide +kernel
theorem dX3_extendByParts_127 : decode cX3_extendByParts 127 = .ok (.goto (-77), 3) := by decide +kernel
theorem dX3_extendByParts_130 : decode cX3_extendByParts 130 = .ok (.return_, 1) := by decide +kernel
theorem dX3_copyToExtend_0 : decode cX3_copyToExtend 0 = .ok (.aload_n 1, 1) := by decide +kernel
theorem dX3_copyToExtend_1 : decode cX3_copyToExtend 1 = .ok (.getfield 94, 3) := by decide +kernel
theorem dX3_copyToExtend_4 : decode cX3_copyToExtend 4 = .ok (.iconst 1, 1) := by decide +kernel
theorem dX3_copyToExtend_5 : decode cX3_copyToExtend 5 = .ok (.iadd, 1) := by decide +kernel
theorem dX3_copyToExtend_6 : decode cX3_copyToExtend 6 = .ok (.istore_n 2, 1) := by decide +kernel
theorem dX3_copyToExtend_7 : decode cX3_copyToExtend 7 = .ok (.iload_n 2, 1) := by decide +kernel
theorem dX3_copyToExtend_8 : decode cX3_copyToExtend 8 = .ok (.iconst 1, 1) := by decide +kernel
theorem dX3_copyToExtend_9 : decode cX3_copyToExtend 9 = .ok (.if_icmp .lt 21, 3) := by decide +kernel
theorem dX3_copyToExtend_12 : decode cX3_copyToExtend 12 = .ok (.iload_n 2, 1) := by decide +kernel
theorem dX3_copyToExtend_13 : decode cX3_copyToExtend 13 = .ok (.aload_n 0, 1) := by decide +kernel
theorem dX3_copyToExtend_14 : decode cX3_copyToExtend 14 = .ok (.getfield 32, 3) := by decide +kernel
theorem dX3_copyToExtend_17 : decode cX3_copyToExtend 17 = .ok (.arraylength, 1) := by decide +kernel
theorem dX3_copyToExtend_18 : decode cX3_copyToExtend 18 = .ok (.if_icmp .ge 12, 3) := by decide +kernel
theorem dX3_copyToExtend_21 : decode cX3_copyToExtend 21 = .ok (.aload_n 0, 1) := by decide +kernel
theorem dX3_copyToExtend_22 : decode cX3_copyToExtend 22 = .ok (.getfield 32, 3) := by decide +kernel
theorem dX3_copyToExtend_25 : decode cX3_copyToExtend 25 = .ok (.iload_n 2, 1) := by decide +kernel
theorem dX3_copyToExtend_26 : decode cX3_copyToExtend 26 = .ok (.aaload, 1) := by decide +kernel
theorem dX3_copyToExtend_27 : decode cX3_copyToExtend 27 = .ok (.ifnonnull 5, 3) := by decide +kernel
theorem dX3_copyToExtend_30 : decode cX3_copyToExtend 30 = .ok (.aconst_null, 1) := by decide +kernel
theorem dX3_copyToExtend_31 : decode cX3_copyToExtend 31 = .ok (.areturn, 1) := by decide +kernel
theorem dX3_copyToExtend_32 : decode cX3_copyToExtend 32 = .ok (.aload_n 0, 1) := by decide +kernel
theorem dX3_copyToExtend_33 : decode cX3_copyToExtend 33 = .ok (.getfield 32, 3) := by decide +kernel
theorem dX3_copyToExtend_36 : decode cX3_copyToExtend 36 = .ok (.iload_n 2, 1) := by decide +kernel
theorem dX3_copyToExtend_37 : decode cX3_copyToExtend 37 = .ok (.aaload, 1) := by decide +kernel
theorem dX3_copyToExtend_38 : decode cX3_copyToExtend 38 = .ok (.aload_n 1, 1) := by decide +kernel
theorem dX3_copyToExtend_39 : decode cX3_copyToExtend 39 = .ok (.invokevirtual 145, 3) := by decide +kernel
theorem dX3_copyToExtend_42 : decode cX3_copyToExtend 42 = .ok (.aload_n 0, 1) := by decide +kernel
theorem dX3_copyToExtend_43 : decode cX3_copyToExtend 43 = .ok (.getfield 32, 3) := by decide +kernel
theorem dX3_copyToExtend_46 : decode cX3_copyToExtend 46 = .ok (.iload_n 2, 1) := by decide +kernel
theorem dX3_copyToExtend_47 : decode cX3_copyToExtend 47 = .ok (.aaload, 1) := by decide +kernel
theorem dX3_copyToExtend_48 : decode cX3_copyToExtend 48 = .ok (.areturn, 1) := by decide +kernel
theorem dX3_keep_0 : decode cX3_keep 0 = .ok (.aload_n 1, 1) := by decide +kernel
theorem dX3_keep_1 : decode cX3_keep 1 = .ok (.getfield 49, 3) := by decide +kernel
theorem dX3_keep_4 : decode cX3_keep 4 = .ok (.istore_n 2, 1) := by decide +kernel
theorem dX3_keep_5 : decode cX3_keep 5 = .ok (.aload_n 0, 1) := by decide +kernel
theorem dX3_keep_6 : decode cX3_keep 6 = .ok (.getfield 35, 3) := by decide +kernel
theorem dX3_keep_9 : decode cX3_keep 9 = .ok (.ifCond .lt 25, 3) := by decide +kernel
theorem dX3_keep_12 : decode cX3_keep 12 = .ok (.aload_n 0, 1) := by decide +kernel
theorem dX3_keep_13 : decode cX3_keep 13 = .ok (.getfield 35, 3) := by decide +kernel
theorem dX3_keep_16 : decode cX3_keep 16 = .ok (.sipush 300, 3) := by decide +kernel
theorem dX3_keep_19 : decode cX3_keep 19 = .ok (.if_icmp .ge 15, 3) := by decide +kernel
theorem dX3_keep_22 : decode cX3_keep 22 = .ok (.aload_n 0, 1) := by decide +kernel
theorem dX3_keep_23 : decode cX3_keep 23 = .ok (.getfield 17, 3) := by decide +kernel
theorem dX3_keep_26 : decode cX3_keep 26 = .ok (.aload_n 0, 1) := by decide +kernel
theorem dX3_keep_27 : decode cX3_keep 27 = .ok (.getfield 35, 3) := by decide +kernel
theorem dX3_keep_30 : decode cX3_keep 30 = .ok (.aaload, 1) := by decide +kernel
theorem dX3_keep_31 : decode cX3_keep 31 = .ok (.ifnonnull 9, 3) := by decide +kernel
theorem dX3_keep_34 : decode cX3_keep 34 = .ok (.aload_n 0, 1) := by decide +kernel
theorem dX3_keep_35 : decode cX3_keep 35 = .ok (.iconst 1, 1) := by decide +kernel
theorem dX3_keep_36 : decode cX3_keep 36 = .ok (.putfield 39, 3) := by decide +kernel
theorem dX3_keep_39 : decode cX3_keep 39 = .ok (.return_, 1) := by decide +kernel
theorem dX3_keep_40 : decode cX3_keep 40 = .ok (.iload_n 2, 1) := by decide +kernel
theorem dX3_keep_41 : decode cX3_keep 41 = .ok (.ifCond .lt 29, 3) := by decide +kernel
theorem dX3_keep_44 : decode cX3_keep 44 = .ok (.iload_n 2, 1) := by decide +kernel
theorem dX3_keep_45 : decode cX3_keep 45 = .ok (.iconst 4, 1) := by decide +kernel
theorem dX3_keep_46 : decode cX3_keep 46 = .ok (.if_icmp .ge 24, 3) := by decide +kernel
theorem dX3_keep_49 : decode cX3_keep 49 = .ok (.aload_n 0, 1) := by decide +kernel
theorem dX3_keep_50 : decode cX3_keep 50 = .ok (.getfield 25, 3) := by decide +kernel
theorem dX3_keep_53 : decode cX3_keep 53 = .ok (.iload_n 2, 1) := by decide +kernel
theorem dX3_keep_54 : decode cX3_keep 54 = .ok (.iaload, 1) := by decide +kernel
theorem dX3_keep_55 : decode cX3_keep 55 = .ok (.ifCond .lt 15, 3) := by decide +kernel
theorem dX3_keep_58 : decode cX3_keep 58 = .ok (.aload_n 0, 1) := by decide +kernel
theorem dX3_keep_59 : decode cX3_keep 59 = .ok (.getfield 25, 3) := by decide +kernel
theorem dX3_keep_62 : decode cX3_keep 62 = .ok (.iload_n 2, 1) := by decide +kernel
theorem dX3_keep_63 : decode cX3_keep 63 = .ok (.iaload, 1) := by decide +kernel
theorem dX3_keep_64 : decode cX3_keep 64 = .ok (.sipush 300, 3) := by decide +kernel
theorem dX3_keep_67 : decode cX3_keep 67 = .ok (.if_icmp .lt 4, 3) := by decide +kernel
theorem dX3_keep_70 : decode cX3_keep 70 = .ok (.return_, 1) := by decide +kernel
theorem dX3_keep_71 : decode cX3_keep 71 = .ok (.aload_n 0, 1) := by decide +kernel
theorem dX3_keep_72 : decode cX3_keep 72 = .ok (.getfield 17, 3) := by decide +kernel
theorem dX3_keep_75 : decode cX3_keep 75 = .ok (.aload_n 0, 1) := by decide +kernel
theorem dX3_keep_76 : decode cX3_keep 76 = .ok (.getfield 35, 3) := by decide +kernel
theorem dX3_keep_79 : decode cX3_keep 79 = .ok (.aaload, 1) := by decide +kernel
theorem dX3_keep_80 : decode cX3_keep 80 = .ok (.astore_n 3, 1) := by decide +kernel
theorem dX3_keep_81 : decode cX3_keep 81 = .ok (.aload_n 3, 1) := by decide +kernel
theorem dX3_keep_82 : decode cX3_keep 82 = .ok (.aload_n 1, 1) := by decide +kernel
theorem dX3_keep_83 : decode cX3_keep 83 = .ok (.invokevirtual 145, 3) := by decide +kernel
theorem dX3_keep_86 : decode cX3_keep 86 = .ok (.aload_n 3, 1) := by decide +kernel
theorem dX3_keep_87 : decode cX3_keep 87 = .ok (.aload_n 0, 1) := by decide +kernel
theorem dX3_keep_88 : decode cX3_keep 88 = .ok (.getfield 25, 3) := by decide +kernel
theorem dX3_keep_91 : decode cX3_keep 91 = .ok (.iload_n 2, 1) := by decide +kernel
theorem dX3_keep_92 : decode cX3_keep 92 = .ok (.iaload, 1) := by decide +kernel
theorem dX3_keep_93 : decode cX3_keep 93 = .ok (.putfield 148, 3) := by decide +kernel
theorem dX3_keep_96 : decode cX3_keep 96 = .ok (.aload_n 0, 1) := by decide +kernel
theorem dX3_keep_97 : decode cX3_keep 97 = .ok (.getfield 22, 3) := by decide +kernel
theorem dX3_keep_100 : decode cX3_keep 100 = .ok (.iload_n 2, 1) := by decide +kernel
theorem dX3_keep_101 : decode cX3_keep 101 = .ok (.sipush 300, 3) := by decide +kernel
theorem dX3_keep_104 : decode cX3_keep 104 = .ok (.imul, 1) := by decide +kernel
theorem dX3_keep_105 : decode cX3_keep 105 = .ok (.aload_n 0, 1) := by decide +kernel
theorem dX3_keep_106 : decode cX3_keep 106 = .ok (.getfield 25, 3) := by decide +kernel
theorem dX3_keep_109 : decode cX3_keep 109 = .ok (.iload_n 2, 1) := by decide +kernel
theorem dX3_keep_110 : decode cX3_keep 110 = .ok (.iaload, 1) := by decide +kernel
theorem dX3_keep_111 : decode cX3_keep 111 = .ok (.iadd, 1) := by decide +kernel
theorem dX3_keep_112 : decode cX3_keep 112 = .ok (.aload_n 3, 1) := by decide +kernel
theorem dX3_keep_113 : decode cX3_keep 113 = .ok (.aastore, 1) := by decide +kernel
theorem dX3_keep_114 : decode cX3_keep 114 = .ok (.aload_n 0, 1) := by decide +kernel
theorem dX3_keep_115 : decode cX3_keep 115 = .ok (.getfield 25, 3) := by decide +kernel
theorem dX3_keep_118 : decode cX3_keep 118 = .ok (.iload_n 2, 1) := by decide +kernel
theorem dX3_keep_119 : decode cX3_keep 119 = .ok (.dup2, 1) := by decide +kernel
theorem dX3_keep_120 : decode cX3_keep 120 = .ok (.iaload, 1) := by decide +kernel
theorem dX3_keep_121 : decode cX3_keep 121 = .ok (.iconst 1, 1) := by decide +kernel
theorem dX3_keep_122 : decode cX3_keep 122 = .ok (.iadd, 1) := by decide +kernel
theorem dX3_keep_123 : decode cX3_keep 123 = .ok (.iastore, 1) := by decide +kernel
theorem dX3_keep_124 : decode cX3_keep 124 = .ok (.aload_n 0, 1) := by decide +kernel
theorem dX3_keep_125 : decode cX3_keep 125 = .ok (.dup, 1) := by decide +kernel
theorem dX3_keep_126 : decode cX3_keep 126 = .ok (.getfield 35, 3) := by decide +kernel
theorem dX3_keep_129 : decode cX3_keep 129 = .ok (.iconst 1, 1) := by decide +kernel
theorem dX3_keep_130 : decode cX3_keep 130 = .ok (.iadd, 1) := by decide +kernel
theorem dX3_keep_131 : decode cX3_keep 131 = .ok (.putfield 35, 3) := by decide +kernel
theorem dX3_keep_134 : decode cX3_keep 134 = .ok (.return_, 1) := by decide +kernel
theorem dX4_init_0 : decode cX4_init 0 = .ok (.aload_n 0, 1) := by decide +kernel
theorem dX4_init_1 : decode cX4_init 1 = .ok (.invokespecial 3, 3) := by decide +kernel
theorem dX4_init_4 : decode cX4_init 4 = .ok (.aload_n 0, 1) := by decide +kernel
theorem dX4_init_5 : decode cX4_init 5 = .ok (.aload_n 1, 1) := by decide +kernel
theorem dX4_init_6 : decode cX4_init 6 = .ok (.putfield 9, 3) := by decide +kernel
theorem dX4_init_9 : decode cX4_init 9 = .ok (.aload_n 0, 1) := by decide +kernel
theorem dX4_init_10 : decode cX4_init 10 = .ok (.bipush 40, 2) := by decide +kernel
theorem dX4_init_12 : decode cX4_init 12 = .ok (.newarray .int, 2) := by decide +kernel
theorem dX4_init_14 : decode cX4_init 14 = .ok (.putfield 15, 3) := by decide +kernel
theorem dX4_init_17 : decode cX4_init 17 = .ok (.aload_n 0, 1) := by decide +kernel
theorem dX4_init_18 : decode cX4_init 18 = .ok (.bipush 8, 2) := by decide +kernel
theorem dX4_init_20 : decode cX4_init 20 = .ok (.anewarray 19, 3) := by decide +kernel
theorem dX4_init_23 : decode cX4_init 23 = .ok (.putfield 21, 3) := by decide +kernel
theorem dX4_init_26 : decode cX4_init 26 = .ok (.iconst 0, 1) := by decide +kernel
theorem dX4_init_27 : decode cX4_init 27 = .ok (.istore_n 2, 1) := by decide +kernel
theorem dX4_init_28 : decode cX4_init 28 = .ok (.iload_n 2, 1) := by decide +kernel
theorem dX4_init_29 : decode cX4_init 29 = .ok (.aload_n 0, 1) := by decide +kernel
theorem dX4_init_30 : decode cX4_init 30 = .ok (.getfield 21, 3) := by decide +kernel
theorem dX4_init_33 : decode cX4_init 33 = .ok (.arraylength, 1) := by decide +kernel
theorem dX4_init_34 : decode cX4_init 34 = .ok (.if_icmp .ge 22, 3) := by decide +kernel
theorem dX4_init_37 : decode cX4_init 37 = .ok (.aload_n 0, 1) := by decide +kernel
theorem dX4_init_38 : decode cX4_init 38 = .ok (.getfield 21, 3) := by decide +kernel
theorem dX4_init_41 : decode cX4_init 41 = .ok (.iload_n 2, 1) := by decide +kernel
theorem dX4_init_42 : decode cX4_init 42 = .ok (.new 19, 3) := by decide +kernel
theorem dX4_init_45 : decode cX4_init 45 = .ok (.dup, 1) := by decide +kernel
theorem dX4_init_46 : decode cX4_init 46 = .ok (.invokespecial 25, 3) := by decide +kernel
theorem dX4_init_49 : decode cX4_init 49 = .ok (.aastore, 1) := by decide +kernel
theorem dX4_init_50 : decode cX4_init 50 = .ok (.iinc 2 1, 3) := by decide +kernel
theorem dX4_init_53 : decode cX4_init 53 = .ok (.goto (-25), 3) := by decide +kernel
theorem dX4_init_56 : decode cX4_init 56 = .ok (.aload_n 0, 1) := by decide +kernel
theorem dX4_init_57 : decode cX4_init 57 = .ok (.iconst 0, 1) := by decide +kernel
theorem dX4_init_58 : decode cX4_init 58 = .ok (.putfield 26, 3) := by decide +kernel
theorem dX4_init_61 : decode cX4_init 61 = .ok (.aload_n 0, 1) := by decide +kernel
theorem dX4_init_62 : decode cX4_init 62 = .ok (.iconst 0, 1) := by decide +kernel
theorem dX4_init_63 : decode cX4_init 63 = .ok (.putfield 30, 3) := by decide +kernel
theorem dX4_init_66 : decode cX4_init 66 = .ok (.aload_n 0, 1) := by decide +kernel
theorem dX4_init_67 : decode cX4_init 67 = .ok (.iconst 0, 1) := by decide +kernel
theorem dX4_init_68 : decode cX4_init 68 = .ok (.putfield 33, 3) := by decide +kernel
theorem dX4_init_71 : decode cX4_init 71 = .ok (.return_, 1) := by decide +kernel
theorem dX4_append_0 : decode cX4_append 0 = .ok (.aload_n 0, 1) := by decide +kernel
theorem dX4_append_1 : decode cX4_append 1 = .ok (.getfield 33, 3) := by decide +kernel
theorem dX4_append_4 : decode cX4_append 4 = .ok (.ifCond .lt 32, 3) := by decide +kernel
theorem dX4_append_7 : decode cX4_append 7 = .ok (.aload_n 0, 1) := by decide +kernel
theorem dX4_append_8 : decode cX4_append 8 = .ok (.getfield 33, 3) := by decide +kernel
theorem dX4_append_11 : decode cX4_append 11 = .ok (.bipush 40, 2) := by decide +kernel
theorem dX4_append_13 : decode cX4_append 13 = .ok (.if_icmp .ge 23, 3) := by decide +kernel
theorem dX4_append_16 : decode cX4_append 16 = .ok (.aload_n 0, 1) := by decide +kernel
theorem dX4_append_17 : decode cX4_append 17 = .ok (.getfield 15, 3) := by decide +kernel
theorem dX4_append_20 : decode cX4_append 20 = .ok (.aload_n 0, 1) := by decide +kernel
theorem dX4_append_21 : decode cX4_append 21 = .ok (.getfield 33, 3) := by decide +kernel
theorem dX4_append_24 : decode cX4_append 24 = .ok (.iload_n 1, 1) := by decide +kernel
theorem dX4_append_25 : decode cX4_append 25 = .ok (.iastore, 1) := by decide +kernel
theorem dX4_append_26 : decode cX4_append 26 = .ok (.aload_n 0, 1) := by decide +kernel
theorem dX4_append_27 : decode cX4_append 27 = .ok (.dup, 1) := by decide +kernel
theorem dX4_append_28 : decode cX4_append 28 = .ok (.getfield 33, 3) := by decide +kernel
theorem dX4_append_31 : decode cX4_append 31 = .ok (.iconst 1, 1) := by decide +kernel
theorem dX4_append_32 : decode cX4_append 32 = .ok (.iadd, 1) := by decide +kernel
theorem dX4_append_33 : decode cX4_append 33 = .ok (.putfield 33, 3) := by decide +kernel
theorem dX4_append_36 : decode cX4_append 36 = .ok (.return_, 1) := by decide +kernel
theorem dX4_parse_0 : decode cX4_parse 0 = .ok (.aload_n 0, 1) := by decide +kernel
theorem dX4_parse_1 : decode cX4_parse 1 = .ok (.iconst 0, 1) := by decide +kernel
theorem dX4_parse_2 : decode cX4_parse 2 = .ok (.putfield 26, 3) := by decide +kernel
theorem dX4_parse_5 : decode cX4_parse 5 = .ok (.aload_n 0, 1) := by decide +kernel
theorem dX4_parse_6 : decode cX4_parse 6 = .ok (.iconst 0, 1) := by decide +kernel
theorem dX4_parse_7 : decode cX4_parse 7 = .ok (.putfield 30, 3) := by decide +kernel
theorem dX4_parse_10 : decode cX4_parse 10 = .ok (.aload_n 0, 1) := by decide +kernel
theorem dX4_parse_11 : decode cX4_parse 11 = .ok (.iload_n 1, 1) := by decide +kernel
theorem dX4_parse_12 : decode cX4_parse 12 = .ok (.invokevirtual 36, 3) := by decide +kernel
theorem dX4_parse_15 : decode cX4_parse 15 = .ok (.astore_n 2, 1) := by decide +kernel
theorem dX4_parse_16 : decode cX4_parse 16 = .ok (.aload_n 0, 1) := by decide +kernel
theorem dX4_parse_17 : decode cX4_parse 17 = .ok (.getfield 30, 3) := by decide +kernel
theorem dX4_parse_20 : decode cX4_parse 20 = .ok (.aload_n 0, 1) := by decide +kernel
theorem dX4_parse_21 : decode cX4_parse 21 = .ok (.getfield 33, 3) := by decide +kernel
theorem dX4_parse_24 : decode cX4_parse 24 = .ok (.if_icmp .ne 7, 3) := by decide +kernel
theorem dX4_parse_27 : decode cX4_parse 27 = .ok (.aload_n 2, 1) := by decide +kernel
theorem dX4_parse_28 : decode cX4_parse 28 = .ok (.goto 4, 3) := by decide +kernel
theorem dX4_parse_31 : decode cX4_parse 31 = .ok (.aconst_null, 1) := by decide +kernel
theorem dX4_parse_32 : decode cX4_parse 32 = .ok (.areturn, 1) := by decide +kernel
theorem dX4_parseValue_0 : decode cX4_parseValue 0 = .ok (.aload_n 0, 1) := by decide +kernel
theorem dX4_parseValue_1 : decode cX4_parseValue 1 = .ok (.invokevirtual 40, 3) := by decide +kernel
theorem dX4_parseValue_4 : decode cX4_parseValue 4 = .ok (.bipush 100, 2) := by decide +kernel
theorem dX4_parseValue_6 : decode cX4_parseValue 6 = .ok (.isub, 1) := by decide +kernel
theorem dX4_parseValue_7 : decode cX4_parseValue 7 = .ok (.istore_n 2, 1) := by decide +kernel
theorem dX4_parseValue_8 : decode cX4_parseValue 8 = .ok (.aload_n 0, 1) := by decide +kernel
theorem dX4_parseValue_9 : decode cX4_parseValue 9 = .ok (.getfield 9, 3) := by decide +kernel
theorem dX4_parseValue_12 : decode cX4_parseValue 12 = .ok (.iload_n 2, 1) := by decide +kernel
theorem dX4_parseValue_13 : decode cX4_parseValue 13 = .ok (.invokevirtual 44, 3) := by decide +kernel
theorem dX4_parseValue_16 : decode cX4_parseValue 16 = .ok (.ifCond .eq 15, 3) := by decide +kernel
theorem dX4_parseValue_19 : decode cX4_parseValue 19 = .ok (.aload_n 0, 1) := by decide +kernel
theorem dX4_parseValue_20 : decode cX4_parseValue 20 = .ok (.getfield 9, 3) := by decide +kernel
theorem dX4_parseValue_23 : decode cX4_parseValue 23 = .ok (.iload_n 2, 1) := by decide +kernel
theorem dX4_parseValue_24 : decode cX4_parseValue 24 = .ok (.invokevirtual 50, 3) := by decide +kernel
theorem dX4_parseValue_27 : decode cX4_parseValue 27 = .ok (.iload_n 1, 1) := by decide +kernel
theorem dX4_parseValue_28 : decode cX4_parseValue 28 = .ok (.if_icmp .eq 5, 3) := by decide +kernel
theorem dX4_parseValue_31 : decode cX4_parseValue 31 = .ok (.aconst_null, 1) := by decide +kernel
theorem dX4_parseValue_32 : decode cX4_parseValue 32 = .ok (.areturn, 1) := by decide +kernel
theorem dX4_parseValue_33 : decode cX4_parseValue 33 = .ok (.aload_n 0, 1) := by decide +kernel
theorem dX4_parseValue_34 : decode cX4_parseValue 34 = .ok (.getfield 26, 3) := by decide +kernel
theorem dX4_parseValue_37 : decode cX4_parseValue 37 = .ok (.ifCond .lt 24, 3) := by decide +kernel
theorem dX4_parseValue_40 : decode cX4_parseValue 40 = .ok (.aload_n 0, 1) := by decide +kernel
theorem dX4_parseValue_41 : decode cX4_parseValue 41 = .ok (.getfield 26, 3) := by decide +kernel
theorem dX4_parseValue_44 : decode cX4_parseValue 44 = .ok (.bipush 8, 2) := by decide +kernel
theorem dX4_parseValue_46 : decode cX4_parseValue 46 = .ok (.if_icmp .ge 15, 3) := by decide +kernel
theorem dX4_parseValue_49 : decode cX4_parseValue 49 = .ok (.aload_n 0, 1) := by decide +kernel
theorem dX4_parseValue_50 : decode cX4_parseValue 50 = .ok (.getfield 21, 3) := by decide +kernel
theorem dX4_parseValue_53 : decode cX4_parseValue 53 = .ok (.aload_n 0, 1) := by decide +kernel
theorem dX4_parseValue_54 : decode cX4_parseValue 54 = .ok (.getfield 26, 3) := by decide +kernel
theorem dX4_parseValue_57 : decode cX4_parseValue 57 = .ok (.aaload, 1) := by decide +kernel
theorem dX4_parseValue_58 : decode cX4_parseValue 58 = .ok (.ifnonnull 5, 3) := by decide +kernel
theorem dX4_parseValue_61 : decode cX4_parseValue 61 = .ok (.aconst_null, 1) := by decide +kernel
theorem dX4_parseValue_62 : decode cX4_parseValue 62 = .ok (.areturn, 1) := by decide +kernel
theorem dX4_parseValue_63 : decode cX4_parseValue 63 = .ok (.aload_n 0, 1) := by decide +kernel
theorem dX4_parseValue_64 : decode cX4_parseValue 64 = .ok (.getfield 21, 3) := by decide +kernel
theorem dX4_parseValue_67 : decode cX4_parseValue 67 = .ok (.aload_n 0, 1) := by decide +kernel
theorem dX4_parseValue_68 : decode cX4_parseValue 68 = .ok (.getfield 26, 3) := by decide +kernel
theorem dX4_parseValue_71 : decode cX4_parseValue 71 = .ok (.aaload, 1) := by decide +kernel
theorem dX4_parseValue_72 : decode cX4_parseValue 72 = .ok (.astore_n 3, 1) := by decide +kernel
theorem dX4_parseValue_73 : decode cX4_parseValue 73 = .ok (.aload_n 0, 1) := by decide +kernel
theorem dX4_parseValue_74 : decode cX4_parseValue 74 = .ok (.dup, 1) := by decide +kernel
theorem dX4_parseValue_75 : decode cX4_parseValue 75 = .ok (.getfield 26, 3) := by decide +kernel
theorem dX4_parseValue_78 : decode cX4_parseValue 78 = .ok (.iconst 1, 1) := by decide +kernel
theorem dX4_parseValue_79 : decode cX4_parseValue 79 = .ok (.iadd, 1) := by decide +kernel
theorem dX4_parseValue_80 : decode cX4_parseValue 80 = .ok (.putfield 26, 3) := by decide +kernel
theorem dX4_parseValue_83 : decode cX4_parseValue 83 = .ok (.aload_n 3, 1) := by decide +kernel
theorem dX4_parseValue_84 : decode cX4_parseValue 84 = .ok (.iload_n 1, 1) := by decide +kernel
theorem dX4_parseValue_85 : decode cX4_parseValue 85 = .ok (.iload_n 2, 1) := by decide +kernel
theorem dX4_parseValue_86 : decode cX4_parseValue 86 = .ok (.invokevirtual 54, 3) := by decide +kernel
theorem dX4_parseValue_89 : decode cX4_parseValue 89 = .ok (.iconst 0, 1) := by decide +kernel
theorem dX4_parseValue_90 : decode cX4_parseValue 90 = .ok (.istore 4, 2) := by decide +kernel
theorem dX4_parseValue_92 : decode cX4_parseValue 92 = .ok (.iload 4, 2) := by decide +kernel
theorem dX4_parseValue_94 : decode cX4_parseValue 94 = .ok (.iconst 3, 1) := by decide +kernel
theorem dX4_parseValue_95 : decode cX4_parseValue 95 = .ok (.if_icmp .ge 39, 3) := by decide +kernel
theorem dX4_parseValue_98 : decode cX4_parseValue 98 = .ok (.aload_n 0, 1) := by decide +kernel
theorem dX4_parseValue_99 : decode cX4_parseValue 99 = .ok (.getfield 9, 3) := by decide +kernel
theorem dX4_parseValue_102 : decode cX4_parseValue 102 = .ok (.iload_n 2, 1) := by decide +kernel
theorem dX4_parseValue_103 : decode cX4_parseValue 103 = .ok (.iload 4, 2) := by decide +kernel
theorem dX4_parseValue_105 : decode cX4_parseValue 105 = .ok (.invokevirtual 58, 3) := by decide +kernel
theorem dX4_parseValue_108 : decode cX4_parseValue 108 = .ok (.istore 5, 2) := by decide +kernel
theorem dX4_parseValue_110 : decode cX4_parseValue 110 = .ok (.iload 5, 2) := by decide +kernel
theorem dX4_parseValue_112 : decode cX4_parseValue 112 = .ok (.iconst (-1), 1) := by decide +kernel
theorem dX4_parseValue_113 : decode cX4_parseValue 113 = .ok (.if_icmp .eq 15, 3) := by decide +kernel
theorem dX4_parseValue_116 : decode cX4_parseValue 116 = .ok (.aload_n 0, 1) := by decide +kernel
theorem dX4_parseValue_117 : decode cX4_parseValue 117 = .ok (.aload_n 3, 1) := by decide +kernel
theorem dX4_parseValue_118 : decode cX4_parseValue 118 = .ok (.iload 5, 2) := by decide +kernel
theorem dX4_parseValue_120 : decode cX4_parseValue 120 = .ok (.invokevirtual 62, 3) := by decide +kernel
theorem dX4_parseValue_123 : decode cX4_parseValue 123 = .ok (.ifCond .ne 5, 3) := by decide +kernel
theorem dX4_parseValue_126 : decode cX4_parseValue 126 = .ok (.aconst_null, 1) := by decide +kernel
theorem dX4_parseValue_127 : decode cX4_parseValue 127 = .ok (.areturn, 1) := by decide +kernel
theorem dX4_parseValue_128 : decode cX4_parseValue 128 = .ok (.iinc 4 1, 3) := by decide +kernel
theorem dX4_parseValue_131 : decode cX4_parseValue 131 = .ok (.goto (-39), 3) := by decide +kernel
theorem dX4_parseValue_134 : decode cX4_parseValue 134 = .ok (.aload_n 3, 1) := by decide +kernel
theorem dX4_parseValue_135 : decode cX4_parseValue 135 = .ok (.aload_n 0, 1) := by decide +kernel
theorem dX4_parseValue_136 : decode cX4_parseValue 136 = .ok (.getfield 9, 3) := by decide +kernel
theorem dX4_parseValue_139 : decode cX4_parseValue 139 = .ok (.iload_n 2, 1) := by decide +kernel
theorem dX4_parseValue_140 : decode cX4_parseValue 140 = .ok (.invokevirtual 66, 3) := by decide +kernel
theorem dX4_parseValue_143 : decode cX4_parseValue 143 = .ok (.invokevirtual 69, 3) := by decide +kernel
theorem dX4_parseValue_146 : decode cX4_parseValue 146 = .ok (.ifCond .eq 7, 3) := by decide +kernel
theorem dX4_parseValue_149 : decode cX4_parseValue 149 = .ok (.aload_n 3, 1) := by decide +kernel
theorem dX4_parseValue_150 : decode cX4_parseValue 150 = .ok (.goto 4, 3) := by decide +kernel
theorem dX4_parseValue_153 : decode cX4_parseValue 153 = .ok (.aconst_null, 1) := by decide +kernel
theorem dX4_parseValue_154 : decode cX4_parseValue 154 = .ok (.areturn, 1) := by decide +kernel
theorem dX4_parseArgument_0 : decode cX4_parseArgument 0 = .ok (.iload_n 2, 1) := by decide +kernel
theorem dX4_parseArgument_1 : decode cX4_parseArgument 1 = .ok (.bipush 9, 2) := by decide +kernel
theorem dX4_parseArgument_3 : decode cX4_parseArgument 3 = .ok (.if_icmp .ne 39, 3) := by decide +kernel
theorem dX4_parseArgument_6 : decode cX4_parseArgument 6 = .ok (.aload_n 0, 1) := by decide +kernel
theorem dX4_parseArgument_7 : decode cX4_parseArgument 7 = .ok (.invokevirtual 40, 3) := by decide +kernel
theorem dX4_parseArgument_10 : decode cX4_parseArgument 10 = .ok (.istore_n 3, 1) := by decide +kernel
theorem dX4_parseArgument_11 : decode cX4_parseArgument 11 = .ok (.iload_n 3, 1) := by decide +kernel
theorem dX4_parseArgument_12 : decode cX4_parseArgument 12 = .ok (.aload_n 0, 1) := by decide +kernel
theorem dX4_parseArgument_13 : decode cX4_parseArgument 13 = .ok (.getfield 9, 3) := by decide +kernel
theorem dX4_parseArgument_16 : decode cX4_parseArgument 16 = .ok (.getfield 72, 3) := by decide +kernel
theorem dX4_parseArgument_19 : decode cX4_parseArgument 19 = .ok (.if_icmp .lt 14, 3) := by decide +kernel
theorem dX4_parseArgument_22 : decode cX4_parseArgument 22 = .ok (.iload_n 3, 1) := by decide +kernel
theorem dX4_parseArgument_23 : decode cX4_parseArgument 23 = .ok (.aload_n 0, 1) := by decide +kernel
theorem dX4_parseArgument_24 : decode cX4_parseArgument 24 = .ok (.getfield 9, 3) := by decide +kernel
theorem dX4_parseArgument_27 : decode cX4_parseArgument 27 = .ok (.getfield 75, 3) := by decide +kernel
theorem dX4_parseArgument_30 : decode cX4_parseArgument 30 = .ok (.if_icmp .le 5, 3) := by decide +kernel
theorem dX4_parseArgument_33 : decode cX4_parseArgument 33 = .ok (.iconst 0, 1) := by decide +kernel
theorem dX4_parseArgument_34 : decode cX4_parseArgument 34 = .ok (.ireturn, 1) := by decide +kernel
theorem dX4_parseArgument_35 : decode cX4_parseArgument 35 = .ok (.aload_n 1, 1) := by decide +kernel
theorem dX4_parseArgument_36 : decode cX4_parseArgument 36 = .ok (.iload_n 3, 1) := by decide +kernel
theorem dX4_parseArgument_37 : decode cX4_parseArgument 37 = .ok (.invokevirtual 78, 3) := by decide +kernel
theorem dX4_parseArgument_40 : decode cX4_parseArgument 40 = .ok (.iconst 1, 1) := by decide +kernel
theorem dX4_parseArgument_41 : decode cX4_parseArgument 41 = .ok (.ireturn, 1) := by decide +kernel
theorem dX4_parseArgument_42 : decode cX4_parseArgument 42 = .ok (.aload_n 0, 1) := by decide +kernel
theorem dX4_parseArgument_43 : decode cX4_parseArgument 43 = .ok (.iload_n 2, 1) := by decide +kernel
theorem dX4_parseArgument_44 : decode cX4_parseArgument 44 = .ok (.invokevirtual 36, 3) := by decide +kernel
theorem dX4_parseArgument_47 : decode cX4_parseArgument 47 = .ok (.astore_n 3, 1) := by decide +kernel
theorem dX4_parseArgument_48 : decode cX4_parseArgument 48 = .ok (.aload_n 3, 1) := by decide +kernel
theorem dX4_parseArgument_49 : decode cX4_parseArgument 49 = .ok (.ifnonnull 5, 3) := by decide +kernel
theorem dX4_parseArgument_52 : decode cX4_parseArgument 52 = .ok (.iconst 0, 1) := by decide +kernel
theorem dX4_parseArgument_53 : decode cX4_parseArgument 53 = .ok (.ireturn, 1) := by decide +kernel
theorem dX4_parseArgument_54 : decode cX4_parseArgument 54 = .ok (.aload_n 1, 1) := by decide +kernel
theorem dX4_parseArgument_55 : decode cX4_parseArgument 55 = .ok (.aload_n 3, 1) := by decide +kernel
theorem dX4_parseArgument_56 : decode cX4_parseArgument 56 = .ok (.invokevirtual 82, 3) := by decide +kernel
theorem dX4_parseArgument_59 : decode cX4_parseArgument 59 = .ok (.iconst 1, 1) := by decide +kernel
theorem dX4_parseArgument_60 : decode cX4_parseArgument 60 = .ok (.ireturn, 1) := by decide +kernel
theorem dX4_next_0 : decode cX4_next 0 = .ok (.aload_n 0, 1) := by decide +kernel
theorem dX4_next_1 : decode cX4_next 1 = .ok (.getfield 30, 3) := by decide +kernel
theorem dX4_next_4 : decode cX4_next 4 = .ok (.ifCond .lt 23, 3) := by decide +kernel
theorem dX4_next_7 : decode cX4_next 7 = .ok (.aload_n 0, 1) := by decide +kernel
theorem dX4_next_8 : decode cX4_next 8 = .ok (.getfield 30, 3) := by decide +kernel
theorem dX4_next_11 : decode cX4_next 11 = .ok (.aload_n 0, 1) := by decide +kernel
theorem dX4_next_12 : decode cX4_next 12 = .ok (.getfield 33, 3) := by decide +kernel
theorem dX4_next_15 : decode cX4_next 15 = .ok (.if_icmp .ge 12, 3) := by decide +kernel
theorem dX4_next_18 : decode cX4_next 18 = .ok (.aload_n 0, 1) := by decide +kernel
theorem dX4_next_19 : decode cX4_next 19 = .ok (.getfield 30, 3) := by decide +kernel
theorem dX4_next_22 : decode cX4_next 22 = .ok (.bipush 40, 2) := by decide +kernel
theorem dX4_next_24 : decode cX4_next 24 = .ok (.if_icmp .lt 5, 3) := by decide +kernel
theorem dX4_next_27 : decode cX4_next 27 = .ok (.iconst (-1), 1) := by decide +kernel
theorem dX4_next_28 : decode cX4_next 28 = .ok (.ireturn, 1) := by decide +kernel
theorem dX4_next_29 : decode cX4_next 29 = .ok (.aload_n 0, 1) := by decide +kernel
theorem dX4_next_30 : decode cX4_next 30 = .ok (.dup, 1) := by decide +kernel
theorem dX4_next_31 : decode cX4_next 31 = .ok (.getfield 30, 3) := by decide +kernel
theorem dX4_next_34 : decode cX4_next 34 = .ok (.iconst 1, 1) := by decide +kernel
theorem dX4_next_35 : decode cX4_next 35 = .ok (.iadd, 1) := by decide +kernel
theorem dX4_next_36 : decode cX4_next 36 = .ok (.putfield 30, 3) := by decide +kernel
theorem dX4_next_39 : decode cX4_next 39 = .ok (.aload_n 0, 1) := by decide +kernel
theorem dX4_next_40 : decode cX4_next 40 = .ok (.getfield 15, 3) := by decide +kernel
theorem dX4_next_43 : decode cX4_next 43 = .ok (.aload_n 0, 1) := by decide +kernel
theorem dX4_next_44 : decode cX4_next 44 = .ok (.getfield 30, 3) := by decide +kernel
theorem dX4_next_47 : decode cX4_next 47 = .ok (.iconst 1, 1) := by decide +kernel
theorem dX4_next_48 : decode cX4_next 48 = .ok (.isub, 1) := by decide +kernel
theorem dX4_next_49 : decode cX4_next 49 = .ok (.iaload, 1) := by decide +kernel
theorem dX4_next_50 : decode cX4_next 50 = .ok (.ireturn, 1) := by decide +kernel
theorem dX5_init_0 : decode cX5_init 0 = .ok (.aload_n 0, 1) := by decide +kernel
theorem dX5_init_1 : decode cX5_init 1 = .ok (.invokespecial 3, 3) := by decide +kernel
theorem dX5_init_4 : decode cX5_init 4 = .ok (.aload_n 0, 1) := by decide +kernel
theorem dX5_init_5 : decode cX5_init 5 = .ok (.iconst 3, 1) := by decide +kernel
theorem dX5_init_6 : decode cX5_init 6 = .ok (.newarray .int, 2) := by decide +kernel
theorem dX5_init_8 : decode cX5_init 8 = .ok (.putfield 9, 3) := by decide +kernel
theorem dX5_init_11 : decode cX5_init 11 = .ok (.aload_n 0, 1) := by decide +kernel
theorem dX5_init_12 : decode cX5_init 12 = .ok (.iconst 3, 1) := by decide +kernel
theorem dX5_init_13 : decode cX5_init 13 = .ok (.anewarray 10, 3) := by decide +kernel
theorem dX5_init_16 : decode cX5_init 16 = .ok (.putfield 15, 3) := by decide +kernel
theorem dX5_init_19 : decode cX5_init 19 = .ok (.return_, 1) := by decide +kernel
theorem dX5_begin_0 : decode cX5_begin 0 = .ok (.aload_n 0, 1) := by decide +kernel
theorem dX5_begin_1 : decode cX5_begin 1 = .ok (.iload_n 1, 1) := by decide +kernel
theorem dX5_begin_2 : decode cX5_begin 2 = .ok (.putfield 19, 3) := by decide +kernel
theorem dX5_begin_5 : decode cX5_begin 5 = .ok (.aload_n 0, 1) := by decide +kernel
theorem dX5_begin_6 : decode cX5_begin 6 = .ok (.iconst (-1), 1) := by decide +kernel
theorem dX5_begin_7 : decode cX5_begin 7 = .ok (.putfield 23, 3) := by decide +kernel
theorem dX5_begin_10 : decode cX5_begin 10 = .ok (.aload_n 0, 1) := by decide +kernel
theorem dX5_begin_11 : decode cX5_begin 11 = .ok (.iload_n 2, 1) := by decide +kernel
theorem dX5_begin_12 : decode cX5_begin 12 = .ok (.putfield 26, 3) := by decide +kernel
theorem dX5_begin_15 : decode cX5_begin 15 = .ok (.aload_n 0, 1) := by decide +kernel
theorem dX5_begin_16 : decode cX5_begin 16 = .ok (.iconst 0, 1) := by decide +kernel
theorem dX5_begin_17 : decode cX5_begin 17 = .ok (.putfield 29, 3) := by decide +kernel
theorem dX5_begin_20 : decode cX5_begin 20 = .ok (.aload_n 0, 1) := by decide +kernel
theorem dX5_begin_21 : decode cX5_begin 21 = .ok (.iconst 1, 1) := by decide +kernel
theorem dX5_begin_22 : decode cX5_begin 22 = .ok (.putfield 32, 3) := by decide +kernel
theorem dX5_begin_25 : decode cX5_begin 25 = .ok (.aload_n 0, 1) := by decide +kernel
theorem dX5_begin_26 : decode cX5_begin 26 = .ok (.iconst 1, 1) := by decide +kernel
theorem dX5_begin_27 : decode cX5_begin 27 = .ok (.putfield 35, 3) := by decide +kernel
theorem dX5_begin_30 : decode cX5_begin 30 = .ok (.aload_n 0, 1) := by decide +kernel
theorem dX5_begin_31 : decode cX5_begin 31 = .ok (.iconst 0, 1) := by decide +kernel
theorem dX5_begin_32 : decode cX5_begin 32 = .ok (.putfield 38, 3) := by decide +kernel
theorem dX5_begin_35 : decode cX5_begin 35 = .ok (.aload_n 0, 1) := by decide +kernel
theorem dX5_begin_36 : decode cX5_begin 36 = .ok (.iconst (-1), 1) := by decide +kernel
theorem dX5_begin_37 : decode cX5_begin 37 = .ok (.putfield 41, 3) := by decide +kernel
theorem dX5_begin_40 : decode cX5_begin 40 = .ok (.aload_n 0, 1) := by decide +kernel
theorem dX5_begin_41 : decode cX5_begin 41 = .ok (.iconst 0, 1) := by decide +kernel
theorem dX5_begin_42 : decode cX5_begin 42 = .ok (.putfield 44, 3) := by decide +kernel
theorem dX5_begin_45 : decode cX5_begin 45 = .ok (.aload_n 0, 1) := by decide +kernel
theorem dX5_begin_46 : decode cX5_begin 46 = .ok (.iconst 0, 1) := by decide +kernel
theorem dX5_begin_47 : decode cX5_begin 47 = .ok (.putfield 47, 3) := by decide +kernel
theorem dX5_begin_50 : decode cX5_begin 50 = .ok (.aload_n 0, 1) := by decide +kernel
theorem dX5_begin_51 : decode cX5_begin 51 = .ok (.iconst 0, 1) := by decide +kernel
theorem dX5_begin_52 : decode cX5_begin 52 = .ok (.putfield 50, 3) := by decide +kernel
theorem dX5_begin_55 : decode cX5_begin 55 = .ok (.aload_n 0, 1) := by decide +kernel
theorem dX5_begin_56 : decode cX5_begin 56 = .ok (.iconst 0, 1) := by decide +kernel
theorem dX5_begin_57 : decode cX5_begin 57 = .ok (.putfield 53, 3) := by decide +kernel
theorem dX5_begin_60 : decode cX5_begin 60 = .ok (.aload_n 0, 1) := by decide +kernel
theorem dX5_begin_61 : decode cX5_begin 61 = .ok (.iconst 0, 1) := by decide +kernel
theorem dX5_begin_62 : decode cX5_begin 62 = .ok (.putfield 56, 3) := by decide +kernel
theorem dX5_begin_65 : decode cX5_begin 65 = .ok (.aload_n 0, 1) := by decide +kernel
theorem dX5_begin_66 : decode cX5_begin 66 = .ok (.iconst 1, 1) := by decide +kernel
theorem dX5_begin_67 : decode cX5_begin 67 = .ok (.putfield 59, 3) := by decide +kernel
theorem dX5_begin_70 : decode cX5_begin 70 = .ok (.return_, 1) := by decide +kernel
theorem dX5_copyFrom_0 : decode cX5_copyFrom 0 = .ok (.aload_n 0, 1) := by decide +kernel
theorem dX5_copyFrom_1 : decode cX5_copyFrom 1 = .ok (.aload_n 1, 1) := by decide +kernel
theorem dX5_copyFrom_2 : decode cX5_copyFrom 2 = .ok (.getfield 19, 3) := by decide +kernel
theorem dX5_copyFrom_5 : decode cX5_copyFrom 5 = .ok (.putfield 19, 3) := by decide +kernel
theorem dX5_copyFrom_8 : decode cX5_copyFrom 8 = .ok (.aload_n 0, 1) := by decide +kernel
theorem dX5_copyFrom_9 : decode cX5_copyFrom 9 = .ok (.aload_n 1, 1) := by decide +kernel
theorem dX5_copyFrom_10 : decode cX5_copyFrom 10 = .ok (.getfield 23, 3) := by decide +kernel
theorem dX5_copyFrom_13 : decode cX5_copyFrom 13 = .ok (.putfield 23, 3) := by decide +kernel
theorem dX5_copyFrom_16 : decode cX5_copyFrom 16 = .ok (.aload_n 0, 1) := by decide +kernel
theorem dX5_copyFrom_17 : decode cX5_copyFrom 17 = .ok (.aload_n 1, 1) := by decide +kernel
theorem dX5_copyFrom_18 : decode cX5_copyFrom 18 = .ok (.getfield 26, 3) := by decide +kernel
theorem dX5_copyFrom_21 : decode cX5_copyFrom 21 = .ok (.putfield 26, 3) := by decide +kernel
theorem dX5_copyFrom_24 : decode cX5_copyFrom 24 = .ok (.aload_n 0, 1) := by decide +kernel
theorem dX5_copyFrom_25 : decode cX5_copyFrom 25 = .ok (.aload_n 1, 1) := by decide +kernel
theorem dX5_copyFrom_26 : decode cX5_copyFrom 26 = .ok (.getfield 29, 3) := by decide +kernel
theorem dX5_copyFrom_29 : decode cX5_copyFrom 29 = .ok (.putfield 29, 3) := by decide +kernel
theorem dX5_copyFrom_32 : decode cX5_copyFrom 32 = .ok (.iconst 0, 1) := by decide +kernel
theorem dX5_copyFrom_33 : decode cX5_copyFrom 33 = .ok (.istore_n 2, 1) := by decide +kernel
theorem dX5_copyFrom_34 : decode cX5_copyFrom 34 = .ok (.iload_n 2, 1) := by decide +kernel
theorem dX5_copyFrom_35 : decode cX5_copyFrom 35 = .ok (.aload_n 0, 1) := by decide +kernel
theorem dX5_copyFrom_36 : decode cX5_copyFrom 36 = .ok (.getfield 29, 3) := by decide +kernel
theorem dX5_copyFrom_39 : decode cX5_copyFrom 39 = .ok (.if_icmp .ge 38, 3) := by decide +kernel
theorem dX5_copyFrom_42 : decode cX5_copyFrom 42 = .ok (.iload_n 2, 1) := by decide +kernel
theorem dX5_copyFrom_43 : decode cX5_copyFrom 43 = .ok (.iconst 3, 1) := by decide +kernel
theorem dX5_copyFrom_44 : decode cX5_copyFrom 44 = .ok (.if_icmp .ge 33, 3) := by decide +kernel
theorem dX5_copyFrom_47 : decode cX5_copyFrom 47 = .ok (.aload_n 0, 1) := by decide +kernel
theorem dX5_copyFrom_48 : decode cX5_copyFrom 48 = .ok (.getfield 9, 3) := by decide +kernel
theorem dX5_copyFrom_51 : decode cX5_copyFrom 51 = .ok (.iload_n 2, 1) := by decide +kernel
theorem dX5_copyFrom_52 : decode cX5_copyFrom 52 = .ok (.aload_n 1, 1) := by decide +kernel
theorem dX5_copyFrom_53 : decode cX5_copyFrom 53 = .ok (.getfield 9, 3) := by decide +kernel
theorem dX5_copyFrom_56 : decode cX5_copyFrom 56 = .ok (.iload_n 2, 1) := by decide +kernel
theorem dX5_copyFrom_57 : decode cX5_copyFrom 57 = .ok (.iaload, 1) := by decide +kernel
theorem dX5_copyFrom_58 : decode cX5_copyFrom 58 = .ok (.iastore, 1) := by decide +kernel
theorem dX5_copyFrom_59 : decode cX5_copyFrom 59 = .ok (.aload_n 0, 1) := by decide +kernel
theorem dX5_copyFrom_60 : decode cX5_copyFrom 60 = .ok (.getfield 15, 3) := by decide +kernel
theorem dX5_copyFrom_63 : decode cX5_copyFrom 63 = .ok (.iload_n 2, 1) := by decide +kernel
theorem dX5_copyFrom_64 : decode cX5_copyFrom 64 = .ok (.aload_n 1, 1) := by decide +kernel
theorem dX5_copyFrom_65 : decode cX5_copyFrom 65 = .ok (.getfield 15, 3) := by decide +kernel
theorem dX5_copyFrom_68 : decode cX5_copyFrom 68 = .ok (.iload_n 2, 1) := by decide +kernel
theorem dX5_copyFrom_69 : decode cX5_copyFrom 69 = .ok (.aaload, 1) := by decide +kernel
theorem dX5_copyFrom_70 : decode cX5_copyFrom 70 = .ok (.aastore, 1) := by decide +kernel
theorem dX5_copyFrom_71 : decode cX5_copyFrom 71 = .ok (.iinc 2 1, 3) := by decide +kernel
theorem dX5_copyFrom_74 : decode cX5_copyFrom 74 = .ok (.goto (-40), 3) := by decide +kernel
theorem dX5_copyFrom_77 : decode cX5_copyFrom 77 = .ok (.aload_n 0, 1) := by decide +kernel
theorem dX5_copyFrom_78 : decode cX5_copyFrom 78 = .ok (.aload_n 1, 1) := by decide +kernel
theorem dX5_copyFrom_79 : decode cX5_copyFrom 79 = .ok (.getfield 32, 3) := by decide +kernel
theorem dX5_copyFrom_82 : decode cX5_copyFrom 82 = .ok (.putfield 32, 3) := by decide +kernel
theorem dX5_copyFrom_85 : decode cX5_copyFrom 85 = .ok (.aload_n 0, 1) := by decide +kernel
theorem dX5_copyFrom_86 : decode cX5_copyFrom 86 = .ok (.aload_n 1, 1) := by decide +kernel
theorem dX5_copyFrom_87 : decode cX5_copyFrom 87 = .ok (.getfield 35, 3) := by decide +kernel
theorem dX5_copyFrom_90 : decode cX5_copyFrom 90 = .ok (.putfield 35, 3) := by decide +kernel
theorem dX5_copyFrom_93 : decode cX5_copyFrom 93 = .ok (.aload_n 0, 1) := by decide +kernel
theorem dX5_copyFrom_94 : decode cX5_copyFrom 94 = .ok (.aload_n 1, 1) := by decide +kernel
theorem dX5_copyFrom_95 : decode cX5_copyFrom 95 = .ok (.getfield 38, 3) := by decide +kernel
theorem dX5_copyFrom_98 : decode cX5_copyFrom 98 = .ok (.putfield 38, 3) := by decide +kernel
theorem dX5_copyFrom_101 : decode cX5_copyFrom 101 = .ok (.aload_n 0, 1) := by decide +kernel
theorem dX5_copyFrom_102 : decode cX5_copyFrom 102 = .ok (.aload_n 1, 1) := by decide +kernel
theorem dX5_copyFrom_103 : decode cX5_copyFrom 103 = .ok (.getfield 41, 3) := by decide +kernel
theorem dX5_copyFrom_106 : decode cX5_copyFrom 106 = .ok (.putfield 41, 3) := by decide +kernel
theorem dX5_copyFrom_109 : decode cX5_copyFrom 109 = .ok (.aload_n 0, 1) := by decide +kernel
theorem dX5_copyFrom_110 : decode cX5_copyFrom 110 = .ok (.aload_n 1, 1) := by decide +kernel
theorem dX5_copyFrom_111 : decode cX5_copyFrom 111 = .ok (.getfield 44, 3) := by decide +kernel
theorem dX5_copyFrom_114 : decode cX5_copyFrom 114 = .ok (.putfield 44, 3) := by decide +kernel
theorem dX5_copyFrom_117 : decode cX5_copyFrom 117 = .ok (.aload_n 0, 1) := by decide +kernel
theorem dX5_copyFrom_118 : decode cX5_copyFrom 118 = .ok (.aload_n 1, 1) := by decide +kernel
theorem dX5_copyFrom_119 : decode cX5_copyFrom 119 = .ok (.getfield 47, 3) := by decide +kernel
theorem dX5_copyFrom_122 : decode cX5_copyFrom 122 = .ok (.putfield 47, 3) := by decide +kernel
theorem dX5_copyFrom_125 : decode cX5_copyFrom 125 = .ok (.aload_n 0, 1) := by decide +kernel
theorem dX5_copyFrom_126 : decode cX5_copyFrom 126 = .ok (.aload_n 1, 1) := by decide +kernel
theorem dX5_copyFrom_127 : decode cX5_copyFrom 127 = .ok (.getfield 50, 3) := by decide +kernel
theorem dX5_copyFrom_130 : decode cX5_copyFrom 130 = .ok (.putfield 50, 3) := by decide +kernel
theorem dX5_copyFrom_133 : decode cX5_copyFrom 133 = .ok (.aload_n 0, 1) := by decide +kernel
theorem dX5_copyFrom_134 : decode cX5_copyFrom 134 = .ok (.aload_n 1, 1) := by decide +kernel
theorem dX5_copyFrom_135 : decode cX5_copyFrom 135 = .ok (.getfield 53, 3) := by decide +kernel
theorem dX5_copyFrom_138 : decode cX5_copyFrom 138 = .ok (.putfield 53, 3) := by decide +kernel
theorem dX5_copyFrom_141 : decode cX5_copyFrom 141 = .ok (.aload_n 0, 1) := by decide +kernel
theorem dX5_copyFrom_142 : decode cX5_copyFrom 142 = .ok (.aload_n 1, 1) := by decide +kernel
theorem dX5_copyFrom_143 : decode cX5_copyFrom 143 = .ok (.getfield 56, 3) := by decide +kernel
theorem dX5_copyFrom_146 : decode cX5_copyFrom 146 = .ok (.putfield 56, 3) := by decide +kernel
theorem dX5_copyFrom_149 : decode cX5_copyFrom 149 = .ok (.aload_n 0, 1) := by decide +kernel
theorem dX5_copyFrom_150 : decode cX5_copyFrom 150 = .ok (.aload_n 1, 1) := by decide +kernel
theorem dX5_copyFrom_151 : decode cX5_copyFrom 151 = .ok (.getfield 59, 3) := by decide +kernel
theorem dX5_copyFrom_154 : decode cX5_copyFrom 154 = .ok (.putfield 59, 3) := by decide +kernel
theorem dX5_copyFrom_157 : decode cX5_copyFrom 157 = .ok (.return_, 1) := by decide +kernel
theorem dX5_addNumber_0 : decode cX5_addNumber 0 = .ok (.aload_n 0, 1) := by decide +kernel
theorem dX5_addNumber_1 : decode cX5_addNumber 1 = .ok (.getfield 29, 3) := by decide +kernel
theorem dX5_addNumber_4 : decode cX5_addNumber 4 = .ok (.ifCond .lt 11, 3) := by decide +kernel
theorem dX5_addNumber_7 : decode cX5_addNumber 7 = .ok (.aload_n 0, 1) := by decide +kernel
theorem dX5_addNumber_8 : decode cX5_addNumber 8 = .ok (.getfield 29, 3) := by decide +kernel
theorem dX5_addNumber_11 : decode cX5_addNumber 11 = .ok (.iconst 3, 1) := by decide +kernel
theorem dX5_addNumber_12 : decode cX5_addNumber 12 = .ok (.if_icmp .lt 4, 3) := by decide +kernel
theorem dX5_addNumber_15 : decode cX5_addNumber 15 = .ok (.return_, 1) := by decide +kernel
theorem dX5_addNumber_16 : decode cX5_addNumber 16 = .ok (.aload_n 0, 1) := by decide +kernel
theorem dX5_addNumber_17 : decode cX5_addNumber 17 = .ok (.getfield 9, 3) := by decide +kernel
theorem dX5_addNumber_20 : decode cX5_addNumber 20 = .ok (.aload_n 0, 1) := by decide +kernel
theorem dX5_addNumber_21 : decode cX5_addNumber 21 = .ok (.getfield 29, 3) := by decide +kernel
theorem dX5_addNumber_24 : decode cX5_addNumber 24 = .ok (.iload_n 1, 1) := by decide +kernel
theorem dX5_addNumber_25 : decode cX5_addNumber 25 = .ok (.iastore, 1) := by decide +kernel
theorem dX5_addNumber_26 : decode cX5_addNumber 26 = .ok (.aload_n 0, 1) := by decide +kernel
theorem dX5_addNumber_27 : decode cX5_addNumber 27 = .ok (.getfield 15, 3) := by decide +kernel
theorem dX5_addNumber_30 : decode cX5_addNumber 30 = .ok (.aload_n 0, 1) := by decide +kernel
theorem dX5_addNumber_31 : decode cX5_addNumber 31 = .ok (.getfield 29, 3) := by decide +kernel
theorem dX5_addNumber_34 : decode cX5_addNumber 34 = .ok (.aconst_null, 1) := by decide +kernel
theorem dX5_addNumber_35 : decode cX5_addNumber 35 = .ok (.aastore, 1) := by decide +kernel
theorem dX5_addNumber_36 : decode cX5_addNumber 36 = .ok (.aload_n 0, 1) := by decide +kernel
theorem dX5_addNumber_37 : decode cX5_addNumber 37 = .ok (.dup, 1) := by decide +kernel
theorem dX5_addNumber_38 : decode cX5_addNumber 38 = .ok (.getfield 29, 3) := by decide +kernel
theorem dX5_addNumber_41 : decode cX5_addNumber 41 = .ok (.iconst 1, 1) := by decide +kernel
theorem dX5_addNumber_42 : decode cX5_addNumber 42 = .ok (.iadd, 1) := by decide +kernel
theorem dX5_addNumber_43 : decode cX5_addNumber 43 = .ok (.putfield 29, 3) := by decide +kernel
theorem dX5_addNumber_46 : decode cX5_addNumber 46 = .ok (.aload_n 0, 1) := by decide +kernel
end
section
theorem dX5_addNumber_47 : decode cX5_addNumber 47 = .ok (.getfield 41, 3) := by decide +kernel
theorem dX5_addNumber_50 : decode cX5_addNumber 50 = .ok (.ifCond .ge 8, 3) := by decide +kernel
theorem dX5_addNumber_53 : decode cX5_addNumber 53 = .ok (.aload_n 0, 1) := by decide +kernel
theorem dX5_addNumber_54 : decode cX5_addNumber 54 = .ok (.iload_n 1, 1) := by decide +kernel
theorem dX5_addNumber_55 : decode cX5_addNumber 55 = .ok (.putfield 41, 3) := by decide +kernel
theorem dX5_addNumber_58 : decode cX5_addNumber 58 = .ok (.aload_n 0, 1) := by decide +kernel
theorem dX5_addNumber_59 : decode cX5_addNumber 59 = .ok (.iload_n 1, 1) := by decide +kernel
theorem dX5_addNumber_60 : decode cX5_addNumber 60 = .ok (.iload_n 1, 1) := by decide +kernel
theorem dX5_addNumber_61 : decode cX5_addNumber 61 = .ok (.iload_n 1, 1) := by decide +kernel
theorem dX5_addNumber_62 : decode cX5_addNumber 62 = .ok (.invokevirtual 63, 3) := by decide +kernel
theorem dX5_addNumber_65 : decode cX5_addNumber 65 = .ok (.aload_n 0, 1) := by decide +kernel
theorem dX5_addNumber_66 : decode cX5_addNumber 66 = .ok (.dup, 1) := by decide +kernel
theorem dX5_addNumber_67 : decode cX5_addNumber 67 = .ok (.getfield 44, 3) := by decide +kernel
theorem dX5_addNumber_70 : decode cX5_addNumber 70 = .ok (.iconst 1, 1) := by decide +kernel
theorem dX5_addNumber_71 : decode cX5_addNumber 71 = .ok (.iadd, 1) := by decide +kernel
theorem dX5_addNumber_72 : decode cX5_addNumber 72 = .ok (.putfield 44, 3) := by decide +kernel
theorem dX5_addNumber_75 : decode cX5_addNumber 75 = .ok (.aload_n 0, 1) := by decide +kernel
theorem dX5_addNumber_76 : decode cX5_addNumber 76 = .ok (.dup, 1) := by decide +kernel
theorem dX5_addNumber_77 : decode cX5_addNumber 77 = .ok (.getfield 47, 3) := by decide +kernel
theorem dX5_addNumber_80 : decode cX5_addNumber 80 = .ok (.iload_n 1, 1) := by decide +kernel
theorem dX5_addNumber_81 : decode cX5_addNumber 81 = .ok (.iadd, 1) := by decide +kernel
theorem dX5_addNumber_82 : decode cX5_addNumber 82 = .ok (.putfield 47, 3) := by decide +kernel
theorem dX5_addNumber_85 : decode cX5_addNumber 85 = .ok (.return_, 1) := by decide +kernel
theorem dX5_addPart_0 : decode cX5_addPart 0 = .ok (.aload_n 0, 1) := by decide +kernel
theorem dX5_addPart_1 : decode cX5_addPart 1 = .ok (.getfield 29, 3) := by decide +kernel
theorem dX5_addPart_4 : decode cX5_addPart 4 = .ok (.ifCond .lt 11, 3) := by decide +kernel
theorem dX5_addPart_7 : decode cX5_addPart 7 = .ok (.aload_n 0, 1) := by decide +kernel
theorem dX5_addPart_8 : decode cX5_addPart 8 = .ok (.getfield 29, 3) := by decide +kernel
theorem dX5_addPart_11 : decode cX5_addPart 11 = .ok (.iconst 3, 1) := by decide +kernel
theorem dX5_addPart_12 : decode cX5_addPart 12 = .ok (.if_icmp .lt 4, 3) := by decide +kernel
theorem dX5_addPart_15 : decode cX5_addPart 15 = .ok (.return_, 1) := by decide +kernel
theorem dX5_addPart_16 : decode cX5_addPart 16 = .ok (.aload_n 0, 1) := by decide +kernel
theorem dX5_addPart_17 : decode cX5_addPart 17 = .ok (.getfield 9, 3) := by decide +kernel
theorem dX5_addPart_20 : decode cX5_addPart 20 = .ok (.aload_n 0, 1) := by decide +kernel
theorem dX5_addPart_21 : decode cX5_addPart 21 = .ok (.getfield 29, 3) := by decide +kernel
theorem dX5_addPart_24 : decode cX5_addPart 24 = .ok (.iconst 0, 1) := by decide +kernel
theorem dX5_addPart_25 : decode cX5_addPart 25 = .ok (.iastore, 1) := by decide +kernel
theorem dX5_addPart_26 : decode cX5_addPart 26 = .ok (.aload_n 0, 1) := by decide +kernel
theorem dX5_addPart_27 : decode cX5_addPart 27 = .ok (.getfield 15, 3) := by decide +kernel
theorem dX5_addPart_30 : decode cX5_addPart 30 = .ok (.aload_n 0, 1) := by decide +kernel
theorem dX5_addPart_31 : decode cX5_addPart 31 = .ok (.getfield 29, 3) := by decide +kernel
theorem dX5_addPart_34 : decode cX5_addPart 34 = .ok (.aload_n 1, 1) := by decide +kernel
theorem dX5_addPart_35 : decode cX5_addPart 35 = .ok (.aastore, 1) := by decide +kernel
theorem dX5_addPart_36 : decode cX5_addPart 36 = .ok (.aload_n 0, 1) := by decide +kernel
theorem dX5_addPart_37 : decode cX5_addPart 37 = .ok (.dup, 1) := by decide +kernel
theorem dX5_addPart_38 : decode cX5_addPart 38 = .ok (.getfield 29, 3) := by decide +kernel
theorem dX5_addPart_41 : decode cX5_addPart 41 = .ok (.iconst 1, 1) := by decide +kernel
theorem dX5_addPart_42 : decode cX5_addPart 42 = .ok (.iadd, 1) := by decide +kernel
theorem dX5_addPart_43 : decode cX5_addPart 43 = .ok (.putfield 29, 3) := by decide +kernel
theorem dX5_addPart_46 : decode cX5_addPart 46 = .ok (.aload_n 0, 1) := by decide +kernel
theorem dX5_addPart_47 : decode cX5_addPart 47 = .ok (.dup, 1) := by decide +kernel
theorem dX5_addPart_48 : decode cX5_addPart 48 = .ok (.getfield 32, 3) := by decide +kernel
theorem dX5_addPart_51 : decode cX5_addPart 51 = .ok (.aload_n 1, 1) := by decide +kernel
theorem dX5_addPart_52 : decode cX5_addPart 52 = .ok (.getfield 32, 3) := by decide +kernel
theorem dX5_addPart_55 : decode cX5_addPart 55 = .ok (.iadd, 1) := by decide +kernel
theorem dX5_addPart_56 : decode cX5_addPart 56 = .ok (.putfield 32, 3) := by decide +kernel
theorem dX5_addPart_59 : decode cX5_addPart 59 = .ok (.aload_n 0, 1) := by decide +kernel
theorem dX5_addPart_60 : decode cX5_addPart 60 = .ok (.aload_n 1, 1) := by decide +kernel
theorem dX5_addPart_61 : decode cX5_addPart 61 = .ok (.getfield 35, 3) := by decide +kernel
theorem dX5_addPart_64 : decode cX5_addPart 64 = .ok (.aload_n 0, 1) := by decide +kernel
theorem dX5_addPart_65 : decode cX5_addPart 65 = .ok (.getfield 35, 3) := by decide +kernel
theorem dX5_addPart_68 : decode cX5_addPart 68 = .ok (.if_icmp .lt 12, 3) := by decide +kernel
theorem dX5_addPart_71 : decode cX5_addPart 71 = .ok (.aload_n 1, 1) := by decide +kernel
theorem dX5_addPart_72 : decode cX5_addPart 72 = .ok (.getfield 35, 3) := by decide +kernel
theorem dX5_addPart_75 : decode cX5_addPart 75 = .ok (.iconst 1, 1) := by decide +kernel
theorem dX5_addPart_76 : decode cX5_addPart 76 = .ok (.iadd, 1) := by decide +kernel
theorem dX5_addPart_77 : decode cX5_addPart 77 = .ok (.goto 7, 3) := by decide +kernel
theorem dX5_addPart_80 : decode cX5_addPart 80 = .ok (.aload_n 0, 1) := by decide +kernel
theorem dX5_addPart_81 : decode cX5_addPart 81 = .ok (.getfield 35, 3) := by decide +kernel
theorem dX5_addPart_84 : decode cX5_addPart 84 = .ok (.putfield 35, 3) := by decide +kernel
theorem dX5_addPart_87 : decode cX5_addPart 87 = .ok (.aload_n 0, 1) := by decide +kernel
theorem dX5_addPart_88 : decode cX5_addPart 88 = .ok (.aload_n 0, 1) := by decide +kernel
theorem dX5_addPart_89 : decode cX5_addPart 89 = .ok (.getfield 38, 3) := by decide +kernel
theorem dX5_addPart_92 : decode cX5_addPart 92 = .ok (.ifCond .eq 14, 3) := by decide +kernel
theorem dX5_addPart_95 : decode cX5_addPart 95 = .ok (.aload_n 1, 1) := by decide +kernel
theorem dX5_addPart_96 : decode cX5_addPart 96 = .ok (.getfield 35, 3) := by decide +kernel
theorem dX5_addPart_99 : decode cX5_addPart 99 = .ok (.aload_n 0, 1) := by decide +kernel
theorem dX5_addPart_100 : decode cX5_addPart 100 = .ok (.getfield 38, 3) := by decide +kernel
theorem dX5_addPart_103 : decode cX5_addPart 103 = .ok (.if_icmp .ge 10, 3) := by decide +kernel
theorem dX5_addPart_106 : decode cX5_addPart 106 = .ok (.aload_n 1, 1) := by decide +kernel
theorem dX5_addPart_107 : decode cX5_addPart 107 = .ok (.getfield 35, 3) := by decide +kernel
theorem dX5_addPart_110 : decode cX5_addPart 110 = .ok (.goto 7, 3) := by decide +kernel
theorem dX5_addPart_113 : decode cX5_addPart 113 = .ok (.aload_n 0, 1) := by decide +kernel
theorem dX5_addPart_114 : decode cX5_addPart 114 = .ok (.getfield 38, 3) := by decide +kernel
theorem dX5_addPart_117 : decode cX5_addPart 117 = .ok (.putfield 38, 3) := by decide +kernel
theorem dX5_addPart_120 : decode cX5_addPart 120 = .ok (.aload_n 1, 1) := by decide +kernel
theorem dX5_addPart_121 : decode cX5_addPart 121 = .ok (.getfield 44, 3) := by decide +kernel
theorem dX5_addPart_124 : decode cX5_addPart 124 = .ok (.ifCond .le 68, 3) := by decide +kernel
theorem dX5_addPart_127 : decode cX5_addPart 127 = .ok (.aload_n 0, 1) := by decide +kernel
theorem dX5_addPart_128 : decode cX5_addPart 128 = .ok (.aload_n 1, 1) := by decide +kernel
theorem dX5_addPart_129 : decode cX5_addPart 129 = .ok (.getfield 53, 3) := by decide +kernel
theorem dX5_addPart_132 : decode cX5_addPart 132 = .ok (.aload_n 1, 1) := by decide +kernel
theorem dX5_addPart_133 : decode cX5_addPart 133 = .ok (.getfield 56, 3) := by decide +kernel
theorem dX5_addPart_136 : decode cX5_addPart 136 = .ok (.aload_n 1, 1) := by decide +kernel
theorem dX5_addPart_137 : decode cX5_addPart 137 = .ok (.getfield 50, 3) := by decide +kernel
theorem dX5_addPart_140 : decode cX5_addPart 140 = .ok (.invokevirtual 63, 3) := by decide +kernel
theorem dX5_addPart_143 : decode cX5_addPart 143 = .ok (.aload_n 0, 1) := by decide +kernel
theorem dX5_addPart_144 : decode cX5_addPart 144 = .ok (.aload_n 0, 1) := by decide +kernel
theorem dX5_addPart_145 : decode cX5_addPart 145 = .ok (.getfield 59, 3) := by decide +kernel
theorem dX5_addPart_148 : decode cX5_addPart 148 = .ok (.ifCond .eq 14, 3) := by decide +kernel
theorem dX5_addPart_151 : decode cX5_addPart 151 = .ok (.aload_n 1, 1) := by decide +kernel
theorem dX5_addPart_152 : decode cX5_addPart 152 = .ok (.getfield 59, 3) := by decide +kernel
theorem dX5_addPart_155 : decode cX5_addPart 155 = .ok (.ifCond .eq 7, 3) := by decide +kernel
theorem dX5_addPart_158 : decode cX5_addPart 158 = .ok (.iconst 1, 1) := by decide +kernel
theorem dX5_addPart_159 : decode cX5_addPart 159 = .ok (.goto 4, 3) := by decide +kernel
theorem dX5_addPart_162 : decode cX5_addPart 162 = .ok (.iconst 0, 1) := by decide +kernel
theorem dX5_addPart_163 : decode cX5_addPart 163 = .ok (.putfield 59, 3) := by decide +kernel
theorem dX5_addPart_166 : decode cX5_addPart 166 = .ok (.aload_n 0, 1) := by decide +kernel
theorem dX5_addPart_167 : decode cX5_addPart 167 = .ok (.dup, 1) := by decide +kernel
theorem dX5_addPart_168 : decode cX5_addPart 168 = .ok (.getfield 44, 3) := by decide +kernel
theorem dX5_addPart_171 : decode cX5_addPart 171 = .ok (.aload_n 1, 1) := by decide +kernel
theorem dX5_addPart_172 : decode cX5_addPart 172 = .ok (.getfield 44, 3) := by decide +kernel
theorem dX5_addPart_175 : decode cX5_addPart 175 = .ok (.iadd, 1) := by decide +kernel
theorem dX5_addPart_176 : decode cX5_addPart 176 = .ok (.putfield 44, 3) := by decide +kernel
theorem dX5_addPart_179 : decode cX5_addPart 179 = .ok (.aload_n 0, 1) := by decide +kernel
theorem dX5_addPart_180 : decode cX5_addPart 180 = .ok (.dup, 1) := by decide +kernel
theorem dX5_addPart_181 : decode cX5_addPart 181 = .ok (.getfield 47, 3) := by decide +kernel
theorem dX5_addPart_184 : decode cX5_addPart 184 = .ok (.aload_n 1, 1) := by decide +kernel
theorem dX5_addPart_185 : decode cX5_addPart 185 = .ok (.getfield 47, 3) := by decide +kernel
theorem dX5_addPart_188 : decode cX5_addPart 188 = .ok (.iadd, 1) := by decide +kernel
theorem dX5_addPart_189 : decode cX5_addPart 189 = .ok (.putfield 47, 3) := by decide +kernel
theorem dX5_addPart_192 : decode cX5_addPart 192 = .ok (.return_, 1) := by decide +kernel
theorem dX5_joinInts_0 : decode cX5_joinInts 0 = .ok (.aload_n 0, 1) := by decide +kernel
theorem dX5_joinInts_1 : decode cX5_joinInts 1 = .ok (.getfield 44, 3) := by decide +kernel
theorem dX5_joinInts_4 : decode cX5_joinInts 4 = .ok (.ifCond .ne 16, 3) := by decide +kernel
theorem dX5_joinInts_7 : decode cX5_joinInts 7 = .ok (.aload_n 0, 1) := by decide +kernel
theorem dX5_joinInts_8 : decode cX5_joinInts 8 = .ok (.iload_n 1, 1) := by decide +kernel
theorem dX5_joinInts_9 : decode cX5_joinInts 9 = .ok (.putfield 53, 3) := by decide +kernel
theorem dX5_joinInts_12 : decode cX5_joinInts 12 = .ok (.aload_n 0, 1) := by decide +kernel
theorem dX5_joinInts_13 : decode cX5_joinInts 13 = .ok (.iload_n 3, 1) := by decide +kernel
theorem dX5_joinInts_14 : decode cX5_joinInts 14 = .ok (.putfield 50, 3) := by decide +kernel
theorem dX5_joinInts_17 : decode cX5_joinInts 17 = .ok (.goto 47, 3) := by decide +kernel
theorem dX5_joinInts_20 : decode cX5_joinInts 20 = .ok (.aload_n 0, 1) := by decide +kernel
theorem dX5_joinInts_21 : decode cX5_joinInts 21 = .ok (.aload_n 0, 1) := by decide +kernel
theorem dX5_joinInts_22 : decode cX5_joinInts 22 = .ok (.getfield 59, 3) := by decide +kernel
theorem dX5_joinInts_25 : decode cX5_joinInts 25 = .ok (.ifCond .eq 15, 3) := by decide +kernel
theorem dX5_joinInts_28 : decode cX5_joinInts 28 = .ok (.aload_n 0, 1) := by decide +kernel
theorem dX5_joinInts_29 : decode cX5_joinInts 29 = .ok (.getfield 56, 3) := by decide +kernel
theorem dX5_joinInts_32 : decode cX5_joinInts 32 = .ok (.iload_n 1, 1) := by decide +kernel
theorem dX5_joinInts_33 : decode cX5_joinInts 33 = .ok (.if_icmp .ge 7, 3) := by decide +kernel
theorem dX5_joinInts_36 : decode cX5_joinInts 36 = .ok (.iconst 1, 1) := by decide +kernel
theorem dX5_joinInts_37 : decode cX5_joinInts 37 = .ok (.goto 4, 3) := by decide +kernel
theorem dX5_joinInts_40 : decode cX5_joinInts 40 = .ok (.iconst 0, 1) := by decide +kernel
theorem dX5_joinInts_41 : decode cX5_joinInts 41 = .ok (.putfield 59, 3) := by decide +kernel
theorem dX5_joinInts_44 : decode cX5_joinInts 44 = .ok (.aload_n 0, 1) := by decide +kernel
theorem dX5_joinInts_45 : decode cX5_joinInts 45 = .ok (.iload_n 3, 1) := by decide +kernel
theorem dX5_joinInts_46 : decode cX5_joinInts 46 = .ok (.aload_n 0, 1) := by decide +kernel
theorem dX5_joinInts_47 : decode cX5_joinInts 47 = .ok (.getfield 50, 3) := by decide +kernel
theorem dX5_joinInts_50 : decode cX5_joinInts 50 = .ok (.if_icmp .ge 7, 3) := by decide +kernel
theorem dX5_joinInts_53 : decode cX5_joinInts 53 = .ok (.iload_n 3, 1) := by decide +kernel
theorem dX5_joinInts_54 : decode cX5_joinInts 54 = .ok (.goto 7, 3) := by decide +kernel
theorem dX5_joinInts_57 : decode cX5_joinInts 57 = .ok (.aload_n 0, 1) := by decide +kernel
theorem dX5_joinInts_58 : decode cX5_joinInts 58 = .ok (.getfield 50, 3) := by decide +kernel
theorem dX5_joinInts_61 : decode cX5_joinInts 61 = .ok (.putfield 50, 3) := by decide +kernel
theorem dX5_joinInts_64 : decode cX5_joinInts 64 = .ok (.aload_n 0, 1) := by decide +kernel
theorem dX5_joinInts_65 : decode cX5_joinInts 65 = .ok (.iload_n 2, 1) := by decide +kernel
theorem dX5_joinInts_66 : decode cX5_joinInts 66 = .ok (.putfield 56, 3) := by decide +kernel
theorem dX5_joinInts_69 : decode cX5_joinInts 69 = .ok (.return_, 1) := by decide +kernel
theorem dX5_fits_0 : decode cX5_fits 0 = .ok (.iload_n 1, 1) := by decide +kernel
theorem dX5_fits_1 : decode cX5_fits 1 = .ok (.tableswitch 106 1 5 #[35, 40, 64, 77, 91], 35) := by decide +kernel
theorem dX5_fits_36 : decode cX5_fits 36 = .ok (.aload_n 0, 1) := by decide +kernel
theorem dX5_fits_37 : decode cX5_fits 37 = .ok (.getfield 59, 3) := by decide +kernel
theorem dX5_fits_40 : decode cX5_fits 40 = .ok (.ireturn, 1) := by decide +kernel
theorem dX5_fits_41 : decode cX5_fits 41 = .ok (.aload_n 0, 1) := by decide +kernel
theorem dX5_fits_42 : decode cX5_fits 42 = .ok (.getfield 41, 3) := by decide +kernel
theorem dX5_fits_45 : decode cX5_fits 45 = .ok (.ifCond .lt 14, 3) := by decide +kernel
theorem dX5_fits_48 : decode cX5_fits 48 = .ok (.aload_n 0, 1) := by decide +kernel
theorem dX5_fits_49 : decode cX5_fits 49 = .ok (.getfield 41, 3) := by decide +kernel
theorem dX5_fits_52 : decode cX5_fits 52 = .ok (.aload_n 0, 1) := by decide +kernel
theorem dX5_fits_53 : decode cX5_fits 53 = .ok (.getfield 50, 3) := by decide +kernel
theorem dX5_fits_56 : decode cX5_fits 56 = .ok (.if_icmp .gt 7, 3) := by decide +kernel
theorem dX5_fits_59 : decode cX5_fits 59 = .ok (.iconst 1, 1) := by decide +kernel
theorem dX5_fits_60 : decode cX5_fits 60 = .ok (.goto 4, 3) := by decide +kernel
theorem dX5_fits_63 : decode cX5_fits 63 = .ok (.iconst 0, 1) := by decide +kernel
theorem dX5_fits_64 : decode cX5_fits 64 = .ok (.ireturn, 1) := by decide +kernel
theorem dX5_fits_65 : decode cX5_fits 65 = .ok (.aload_n 0, 1) := by decide +kernel
theorem dX5_fits_66 : decode cX5_fits 66 = .ok (.invokevirtual 67, 3) := by decide +kernel
theorem dX5_fits_69 : decode cX5_fits 69 = .ok (.ifCond .ne 7, 3) := by decide +kernel
theorem dX5_fits_72 : decode cX5_fits 72 = .ok (.iconst 1, 1) := by decide +kernel
theorem dX5_fits_73 : decode cX5_fits 73 = .ok (.goto 4, 3) := by decide +kernel
theorem dX5_fits_76 : decode cX5_fits 76 = .ok (.iconst 0, 1) := by decide +kernel
theorem dX5_fits_77 : decode cX5_fits 77 = .ok (.ireturn, 1) := by decide +kernel
theorem dX5_fits_78 : decode cX5_fits 78 = .ok (.aload_n 0, 1) := by decide +kernel
theorem dX5_fits_79 : decode cX5_fits 79 = .ok (.invokevirtual 67, 3) := by decide +kernel
theorem dX5_fits_82 : decode cX5_fits 82 = .ok (.iconst 1, 1) := by decide +kernel
theorem dX5_fits_83 : decode cX5_fits 83 = .ok (.if_icmp .gt 7, 3) := by decide +kernel
theorem dX5_fits_86 : decode cX5_fits 86 = .ok (.iconst 1, 1) := by decide +kernel
theorem dX5_fits_87 : decode cX5_fits 87 = .ok (.goto 4, 3) := by decide +kernel
theorem dX5_fits_90 : decode cX5_fits 90 = .ok (.iconst 0, 1) := by decide +kernel
theorem dX5_fits_91 : decode cX5_fits 91 = .ok (.ireturn, 1) := by decide +kernel
theorem dX5_fits_92 : decode cX5_fits 92 = .ok (.aload_n 0, 1) := by decide +kernel
theorem dX5_fits_93 : decode cX5_fits 93 = .ok (.getfield 47, 3) := by decide +kernel
theorem dX5_fits_96 : decode cX5_fits 96 = .ok (.iconst 2, 1) := by decide +kernel
theorem dX5_fits_97 : decode cX5_fits 97 = .ok (.irem, 1) := by decide +kernel
theorem dX5_fits_98 : decode cX5_fits 98 = .ok (.ifCond .ne 7, 3) := by decide +kernel
theorem dX5_fits_101 : decode cX5_fits 101 = .ok (.iconst 1, 1) := by decide +kernel
theorem dX5_fits_102 : decode cX5_fits 102 = .ok (.goto 4, 3) := by decide +kernel
theorem dX5_fits_105 : decode cX5_fits 105 = .ok (.iconst 0, 1) := by decide +kernel
theorem dX5_fits_106 : decode cX5_fits 106 = .ok (.ireturn, 1) := by decide +kernel
theorem dX5_fits_107 : decode cX5_fits 107 = .ok (.iconst 1, 1) := by decide +kernel
theorem dX5_fits_108 : decode cX5_fits 108 = .ok (.ireturn, 1) := by decide +kernel
theorem dX5_clashesWith_0 : decode cX5_clashesWith 0 = .ok (.iload_n 2, 1) := by decide +kernel
theorem dX5_clashesWith_1 : decode cX5_clashesWith 1 = .ok (.tableswitch 115 1 4 #[31, 115, 62, 86], 31) := by decide +kernel
theorem dX5_clashesWith_32 : decode cX5_clashesWith 32 = .ok (.aload_n 0, 1) := by decide +kernel
theorem dX5_clashesWith_33 : decode cX5_clashesWith 33 = .ok (.getfield 44, 3) := by decide +kernel
theorem dX5_clashesWith_36 : decode cX5_clashesWith 36 = .ok (.ifCond .le 25, 3) := by decide +kernel
theorem dX5_clashesWith_39 : decode cX5_clashesWith 39 = .ok (.aload_n 1, 1) := by decide +kernel
theorem dX5_clashesWith_40 : decode cX5_clashesWith 40 = .ok (.getfield 44, 3) := by decide +kernel
theorem dX5_clashesWith_43 : decode cX5_clashesWith 43 = .ok (.ifCond .le 18, 3) := by decide +kernel
theorem dX5_clashesWith_46 : decode cX5_clashesWith 46 = .ok (.aload_n 0, 1) := by decide +kernel
theorem dX5_clashesWith_47 : decode cX5_clashesWith 47 = .ok (.getfield 56, 3) := by decide +kernel
theorem dX5_clashesWith_50 : decode cX5_clashesWith 50 = .ok (.aload_n 1, 1) := by decide +kernel
theorem dX5_clashesWith_51 : decode cX5_clashesWith 51 = .ok (.getfield 53, 3) := by decide +kernel
theorem dX5_clashesWith_54 : decode cX5_clashesWith 54 = .ok (.if_icmp .lt 7, 3) := by decide +kernel
theorem dX5_clashesWith_57 : decode cX5_clashesWith 57 = .ok (.iconst 1, 1) := by decide +kernel
theorem dX5_clashesWith_58 : decode cX5_clashesWith 58 = .ok (.goto 4, 3) := by decide +kernel
theorem dX5_clashesWith_61 : decode cX5_clashesWith 61 = .ok (.iconst 0, 1) := by decide +kernel
theorem dX5_clashesWith_62 : decode cX5_clashesWith 62 = .ok (.ireturn, 1) := by decide +kernel
theorem dX5_clashesWith_63 : decode cX5_clashesWith 63 = .ok (.aload_n 0, 1) := by decide +kernel
theorem dX5_clashesWith_64 : decode cX5_clashesWith 64 = .ok (.getfield 38, 3) := by decide +kernel
theorem dX5_clashesWith_67 : decode cX5_clashesWith 67 = .ok (.ifCond .le 18, 3) := by decide +kernel
theorem dX5_clashesWith_70 : decode cX5_clashesWith 70 = .ok (.aload_n 1, 1) := by decide +kernel
theorem dX5_clashesWith_71 : decode cX5_clashesWith 71 = .ok (.getfield 35, 3) := by decide +kernel
theorem dX5_clashesWith_74 : decode cX5_clashesWith 74 = .ok (.aload_n 0, 1) := by decide +kernel
theorem dX5_clashesWith_75 : decode cX5_clashesWith 75 = .ok (.getfield 38, 3) := by decide +kernel
theorem dX5_clashesWith_78 : decode cX5_clashesWith 78 = .ok (.if_icmp .eq 7, 3) := by decide +kernel
theorem dX5_clashesWith_81 : decode cX5_clashesWith 81 = .ok (.iconst 1, 1) := by decide +kernel
theorem dX5_clashesWith_82 : decode cX5_clashesWith 82 = .ok (.goto 4, 3) := by decide +kernel
theorem dX5_clashesWith_85 : decode cX5_clashesWith 85 = .ok (.iconst 0, 1) := by decide +kernel
theorem dX5_clashesWith_86 : decode cX5_clashesWith 86 = .ok (.ireturn, 1) := by decide +kernel
theorem dX5_clashesWith_87 : decode cX5_clashesWith 87 = .ok (.aload_n 0, 1) := by decide +kernel
theorem dX5_clashesWith_88 : decode cX5_clashesWith 88 = .ok (.getfield 38, 3) := by decide +kernel
theorem dX5_clashesWith_91 : decode cX5_clashesWith 91 = .ok (.ifCond .le 23, 3) := by decide +kernel
theorem dX5_clashesWith_94 : decode cX5_clashesWith 94 = .ok (.aload_n 1, 1) := by decide +kernel
theorem dX5_clashesWith_95 : decode cX5_clashesWith 95 = .ok (.getfield 35, 3) := by decide +kernel
theorem dX5_clashesWith_98 : decode cX5_clashesWith 98 = .ok (.aload_n 0, 1) := by decide +kernel
theorem dX5_clashesWith_99 : decode cX5_clashesWith 99 = .ok (.getfield 38, 3) := by decide +kernel
theorem dX5_clashesWith_102 : decode cX5_clashesWith 102 = .ok (.isub, 1) := by decide +kernel
theorem dX5_clashesWith_103 : decode cX5_clashesWith 103 = .ok (.invokestatic 71, 3) := by decide +kernel
theorem dX5_clashesWith_106 : decode cX5_clashesWith 106 = .ok (.iconst 1, 1) := by decide +kernel
theorem dX5_clashesWith_107 : decode cX5_clashesWith 107 = .ok (.if_icmp .le 7, 3) := by decide +kernel
theorem dX5_clashesWith_110 : decode cX5_clashesWith 110 = .ok (.iconst 1, 1) := by decide +kernel
theorem dX5_clashesWith_111 : decode cX5_clashesWith 111 = .ok (.goto 4, 3) := by decide +kernel
theorem dX5_clashesWith_114 : decode cX5_clashesWith 114 = .ok (.iconst 0, 1) := by decide +kernel
theorem dX5_clashesWith_115 : decode cX5_clashesWith 115 = .ok (.ireturn, 1) := by decide +kernel
theorem dX5_clashesWith_116 : decode cX5_clashesWith 116 = .ok (.iconst 0, 1) := by decide +kernel
theorem dX5_clashesWith_117 : decode cX5_clashesWith 117 = .ok (.ireturn, 1) := by decide +kernel
theorem dX5_partsDiffer_0 : decode cX5_partsDiffer 0 = .ok (.aload_n 0, 1) := by decide +kernel
theorem dX5_partsDiffer_1 : decode cX5_partsDiffer 1 = .ok (.getfield 35, 3) := by decide +kernel
theorem dX5_partsDiffer_4 : decode cX5_partsDiffer 4 = .ok (.iconst 1, 1) := by decide +kernel
theorem dX5_partsDiffer_5 : decode cX5_partsDiffer 5 = .ok (.isub, 1) := by decide +kernel
theorem dX5_partsDiffer_6 : decode cX5_partsDiffer 6 = .ok (.aload_n 0, 1) := by decide +kernel
theorem dX5_partsDiffer_7 : decode cX5_partsDiffer 7 = .ok (.getfield 38, 3) := by decide +kernel
theorem dX5_partsDiffer_10 : decode cX5_partsDiffer 10 = .ok (.isub, 1) := by decide +kernel
theorem dX5_partsDiffer_11 : decode cX5_partsDiffer 11 = .ok (.ireturn, 1) := by decide +kernel
theorem dX5_codeLength_0 : decode cX5_codeLength 0 = .ok (.aload_n 0, 1) := by decide +kernel
theorem dX5_codeLength_1 : decode cX5_codeLength 1 = .ok (.getfield 32, 3) := by decide +kernel
theorem dX5_codeLength_4 : decode cX5_codeLength 4 = .ok (.aload_n 0, 1) := by decide +kernel
theorem dX5_codeLength_5 : decode cX5_codeLength 5 = .ok (.getfield 44, 3) := by decide +kernel
theorem dX5_codeLength_8 : decode cX5_codeLength 8 = .ok (.iadd, 1) := by decide +kernel
theorem dX5_codeLength_9 : decode cX5_codeLength 9 = .ok (.ireturn, 1) := by decide +kernel
theorem dX5_partAt_0 : decode cX5_partAt 0 = .ok (.iload_n 1, 1) := by decide +kernel
theorem dX5_partAt_1 : decode cX5_partAt 1 = .ok (.ifCond .lt 25, 3) := by decide +kernel
theorem dX5_partAt_4 : decode cX5_partAt 4 = .ok (.iload_n 1, 1) := by decide +kernel
theorem dX5_partAt_5 : decode cX5_partAt 5 = .ok (.aload_n 0, 1) := by decide +kernel
theorem dX5_partAt_6 : decode cX5_partAt 6 = .ok (.getfield 29, 3) := by decide +kernel
theorem dX5_partAt_9 : decode cX5_partAt 9 = .ok (.if_icmp .ge 17, 3) := by decide +kernel
theorem dX5_partAt_12 : decode cX5_partAt 12 = .ok (.iload_n 1, 1) := by decide +kernel
theorem dX5_partAt_13 : decode cX5_partAt 13 = .ok (.iconst 3, 1) := by decide +kernel
theorem dX5_partAt_14 : decode cX5_partAt 14 = .ok (.if_icmp .ge 12, 3) := by decide +kernel
theorem dX5_partAt_17 : decode cX5_partAt 17 = .ok (.aload_n 0, 1) := by decide +kernel
theorem dX5_partAt_18 : decode cX5_partAt 18 = .ok (.getfield 15, 3) := by decide +kernel
theorem dX5_partAt_21 : decode cX5_partAt 21 = .ok (.iload_n 1, 1) := by decide +kernel
theorem dX5_partAt_22 : decode cX5_partAt 22 = .ok (.aaload, 1) := by decide +kernel
theorem dX5_partAt_23 : decode cX5_partAt 23 = .ok (.goto 4, 3) := by decide +kernel
theorem dX5_partAt_26 : decode cX5_partAt 26 = .ok (.aconst_null, 1) := by decide +kernel
theorem dX5_partAt_27 : decode cX5_partAt 27 = .ok (.areturn, 1) := by decide +kernel
theorem dX5_differsFrom_0 : decode cX5_differsFrom 0 = .ok (.aload_n 0, 1) := by decide +kernel
theorem dX5_differsFrom_1 : decode cX5_differsFrom 1 = .ok (.aload_n 1, 1) := by decide +kernel
theorem dX5_differsFrom_2 : decode cX5_differsFrom 2 = .ok (.iconst 0, 1) := by decide +kernel
theorem dX5_differsFrom_3 : decode cX5_differsFrom 3 = .ok (.invokestatic 77, 3) := by decide +kernel
theorem dX5_differsFrom_6 : decode cX5_differsFrom 6 = .ok (.ireturn, 1) := by decide +kernel
theorem dX5_distance_0 : decode cX5_distance 0 = .ok (.aload_n 0, 1) := by decide +kernel
theorem dX5_distance_1 : decode cX5_distance 1 = .ok (.ifnull 24, 3) := by decide +kernel
theorem dX5_distance_4 : decode cX5_distance 4 = .ok (.aload_n 1, 1) := by decide +kernel
theorem dX5_distance_5 : decode cX5_distance 5 = .ok (.ifnull 20, 3) := by decide +kernel
theorem dX5_distance_8 : decode cX5_distance 8 = .ok (.iload_n 2, 1) := by decide +kernel
theorem dX5_distance_9 : decode cX5_distance 9 = .ok (.bipush 8, 2) := by decide +kernel
theorem dX5_distance_11 : decode cX5_distance 11 = .ok (.if_icmp .gt 14, 3) := by decide +kernel
theorem dX5_distance_14 : decode cX5_distance 14 = .ok (.aload_n 0, 1) := by decide +kernel
theorem dX5_distance_15 : decode cX5_distance 15 = .ok (.getfield 26, 3) := by decide +kernel
theorem dX5_distance_18 : decode cX5_distance 18 = .ok (.aload_n 1, 1) := by decide +kernel
theorem dX5_distance_19 : decode cX5_distance 19 = .ok (.getfield 26, 3) := by decide +kernel
theorem dX5_distance_22 : decode cX5_distance 22 = .ok (.if_icmp .eq 6, 3) := by decide +kernel
theorem dX5_distance_25 : decode cX5_distance 25 = .ok (.bipush 100, 2) := by decide +kernel
theorem dX5_distance_27 : decode cX5_distance 27 = .ok (.ireturn, 1) := by decide +kernel
theorem dX5_distance_28 : decode cX5_distance 28 = .ok (.iconst 0, 1) := by decide +kernel
theorem dX5_distance_29 : decode cX5_distance 29 = .ok (.istore_n 3, 1) := by decide +kernel
theorem dX5_distance_30 : decode cX5_distance 30 = .ok (.iconst 0, 1) := by decide +kernel
theorem dX5_distance_31 : decode cX5_distance 31 = .ok (.istore 4, 2) := by decide +kernel
theorem dX5_distance_33 : decode cX5_distance 33 = .ok (.iload 4, 2) := by decide +kernel
theorem dX5_distance_35 : decode cX5_distance 35 = .ok (.aload_n 0, 1) := by decide +kernel
theorem dX5_distance_36 : decode cX5_distance 36 = .ok (.getfield 29, 3) := by decide +kernel
theorem dX5_distance_39 : decode cX5_distance 39 = .ok (.if_icmp .ge 71, 3) := by decide +kernel
theorem dX5_distance_42 : decode cX5_distance 42 = .ok (.iload 4, 2) := by decide +kernel
theorem dX5_distance_44 : decode cX5_distance 44 = .ok (.iconst 3, 1) := by decide +kernel
theorem dX5_distance_45 : decode cX5_distance 45 = .ok (.if_icmp .ge 65, 3) := by decide +kernel
theorem dX5_distance_48 : decode cX5_distance 48 = .ok (.aload_n 0, 1) := by decide +kernel
theorem dX5_distance_49 : decode cX5_distance 49 = .ok (.getfield 15, 3) := by decide +kernel
theorem dX5_distance_52 : decode cX5_distance 52 = .ok (.iload 4, 2) := by decide +kernel
theorem dX5_distance_54 : decode cX5_distance 54 = .ok (.aaload, 1) := by decide +kernel
theorem dX5_distance_55 : decode cX5_distance 55 = .ok (.ifnull 29, 3) := by decide +kernel
theorem dX5_distance_58 : decode cX5_distance 58 = .ok (.iload_n 3, 1) := by decide +kernel
theorem dX5_distance_59 : decode cX5_distance 59 = .ok (.aload_n 0, 1) := by decide +kernel
theorem dX5_distance_60 : decode cX5_distance 60 = .ok (.getfield 15, 3) := by decide +kernel
theorem dX5_distance_63 : decode cX5_distance 63 = .ok (.iload 4, 2) := by decide +kernel
theorem dX5_distance_65 : decode cX5_distance 65 = .ok (.aaload, 1) := by decide +kernel
theorem dX5_distance_66 : decode cX5_distance 66 = .ok (.aload_n 1, 1) := by decide +kernel
theorem dX5_distance_67 : decode cX5_distance 67 = .ok (.getfield 15, 3) := by decide +kernel
theorem dX5_distance_70 : decode cX5_distance 70 = .ok (.iload 4, 2) := by decide +kernel
theorem dX5_distance_72 : decode cX5_distance 72 = .ok (.aaload, 1) := by decide +kernel
theorem dX5_distance_73 : decode cX5_distance 73 = .ok (.iload_n 2, 1) := by decide +kernel
theorem dX5_distance_74 : decode cX5_distance 74 = .ok (.iconst 1, 1) := by decide +kernel
theorem dX5_distance_75 : decode cX5_distance 75 = .ok (.iadd, 1) := by decide +kernel
theorem dX5_distance_76 : decode cX5_distance 76 = .ok (.invokestatic 77, 3) := by decide +kernel
theorem dX5_distance_79 : decode cX5_distance 79 = .ok (.iadd, 1) := by decide +kernel
theorem dX5_distance_80 : decode cX5_distance 80 = .ok (.istore_n 3, 1) := by decide +kernel
theorem dX5_distance_81 : decode cX5_distance 81 = .ok (.goto 23, 3) := by decide +kernel
theorem dX5_distance_84 : decode cX5_distance 84 = .ok (.aload_n 0, 1) := by decide +kernel
theorem dX5_distance_85 : decode cX5_distance 85 = .ok (.getfield 9, 3) := by decide +kernel
theorem dX5_distance_88 : decode cX5_distance 88 = .ok (.iload 4, 2) := by decide +kernel
theorem dX5_distance_90 : decode cX5_distance 90 = .ok (.iaload, 1) := by decide +kernel
theorem dX5_distance_91 : decode cX5_distance 91 = .ok (.aload_n 1, 1) := by decide +kernel
theorem dX5_distance_92 : decode cX5_distance 92 = .ok (.getfield 9, 3) := by decide +kernel
theorem dX5_distance_95 : decode cX5_distance 95 = .ok (.iload 4, 2) := by decide +kernel
theorem dX5_distance_97 : decode cX5_distance 97 = .ok (.iaload, 1) := by decide +kernel
theorem dX5_distance_98 : decode cX5_distance 98 = .ok (.if_icmp .eq 6, 3) := by decide +kernel
theorem dX5_distance_101 : decode cX5_distance 101 = .ok (.iinc 3 1, 3) := by decide +kernel
theorem dX5_distance_104 : decode cX5_distance 104 = .ok (.iinc 4 1, 3) := by decide +kernel
theorem dX5_distance_107 : decode cX5_distance 107 = .ok (.goto (-74), 3) := by decide +kernel
theorem dX5_distance_110 : decode cX5_distance 110 = .ok (.iload_n 3, 1) := by decide +kernel
theorem dX5_distance_111 : decode cX5_distance 111 = .ok (.ireturn, 1) := by decide +kernel
theorem dX6_init_0 : decode cX6_init 0 = .ok (.aload_n 0, 1) := by decide +kernel
theorem dX6_init_1 : decode cX6_init 1 = .ok (.invokespecial 1, 3) := by decide +kernel
theorem dX6_init_4 : decode cX6_init 4 = .ok (.aload_n 0, 1) := by decide +kernel
theorem dX6_init_5 : decode cX6_init 5 = .ok (.new 7, 3) := by decide +kernel
theorem dX6_init_8 : decode cX6_init 8 = .ok (.dup, 1) := by decide +kernel
theorem dX6_init_9 : decode cX6_init 9 = .ok (.invokespecial 9, 3) := by decide +kernel
theorem dX6_init_12 : decode cX6_init 12 = .ok (.putfield 10, 3) := by decide +kernel
theorem dX6_init_15 : decode cX6_init 15 = .ok (.aload_n 0, 1) := by decide +kernel
theorem dX6_init_16 : decode cX6_init 16 = .ok (.new 16, 3) := by decide +kernel
theorem dX6_init_19 : decode cX6_init 19 = .ok (.dup, 1) := by decide +kernel
theorem dX6_init_20 : decode cX6_init 20 = .ok (.aload_n 0, 1) := by decide +kernel
theorem dX6_init_21 : decode cX6_init 21 = .ok (.getfield 10, 3) := by decide +kernel
theorem dX6_init_24 : decode cX6_init 24 = .ok (.invokespecial 18, 3) := by decide +kernel
theorem dX6_init_27 : decode cX6_init 27 = .ok (.putfield 21, 3) := by decide +kernel
theorem dX6_init_30 : decode cX6_init 30 = .ok (.aload_n 0, 1) := by decide +kernel
theorem dX6_init_31 : decode cX6_init 31 = .ok (.new 25, 3) := by decide +kernel
theorem dX6_init_34 : decode cX6_init 34 = .ok (.dup, 1) := by decide +kernel
theorem dX6_init_35 : decode cX6_init 35 = .ok (.aload_n 0, 1) := by decide +kernel
theorem dX6_init_36 : decode cX6_init 36 = .ok (.getfield 10, 3) := by decide +kernel
theorem dX6_init_39 : decode cX6_init 39 = .ok (.invokespecial 27, 3) := by decide +kernel
theorem dX6_init_42 : decode cX6_init 42 = .ok (.putfield 28, 3) := by decide +kernel
theorem dX6_init_45 : decode cX6_init 45 = .ok (.aload_n 0, 1) := by decide +kernel
theorem dX6_init_46 : decode cX6_init 46 = .ok (.new 32, 3) := by decide +kernel
theorem dX6_init_49 : decode cX6_init 49 = .ok (.dup, 1) := by decide +kernel
theorem dX6_init_50 : decode cX6_init 50 = .ok (.invokespecial 34, 3) := by decide +kernel
theorem dX6_init_53 : decode cX6_init 53 = .ok (.putfield 35, 3) := by decide +kernel
theorem dX6_init_56 : decode cX6_init 56 = .ok (.aload_n 0, 1) := by decide +kernel
theorem dX6_init_57 : decode cX6_init 57 = .ok (.new 39, 3) := by decide +kernel
theorem dX6_init_60 : decode cX6_init 60 = .ok (.dup, 1) := by decide +kernel
theorem dX6_init_61 : decode cX6_init 61 = .ok (.invokespecial 41, 3) := by decide +kernel
theorem dX6_init_64 : decode cX6_init 64 = .ok (.putfield 42, 3) := by decide +kernel
theorem dX6_init_67 : decode cX6_init 67 = .ok (.aload_n 0, 1) := by decide +kernel
theorem dX6_init_68 : decode cX6_init 68 = .ok (.aconst_null, 1) := by decide +kernel
theorem dX6_init_69 : decode cX6_init 69 = .ok (.putfield 46, 3) := by decide +kernel
theorem dX6_init_72 : decode cX6_init 72 = .ok (.return_, 1) := by decide +kernel
theorem dX6_setRange_0 : decode cX6_setRange 0 = .ok (.iload_n 1, 1) := by decide +kernel
theorem dX6_setRange_1 : decode cX6_setRange 1 = .ok (.ifCond .lt 13, 3) := by decide +kernel
theorem dX6_setRange_4 : decode cX6_setRange 4 = .ok (.iload_n 2, 1) := by decide +kernel
theorem dX6_setRange_5 : decode cX6_setRange 5 = .ok (.iconst 5, 1) := by decide +kernel
theorem dX6_setRange_6 : decode cX6_setRange 6 = .ok (.if_icmp .gt 8, 3) := by decide +kernel
theorem dX6_setRange_9 : decode cX6_setRange 9 = .ok (.iload_n 1, 1) := by decide +kernel
theorem dX6_setRange_10 : decode cX6_setRange 10 = .ok (.iload_n 2, 1) := by decide +kernel
theorem dX6_setRange_11 : decode cX6_setRange 11 = .ok (.if_icmp .le 13, 3) := by decide +kernel
theorem dX6_setRange_14 : decode cX6_setRange 14 = .ok (.new 50, 3) := by decide +kernel
theorem dX6_setRange_17 : decode cX6_setRange 17 = .ok (.dup, 1) := by decide +kernel
theorem dX6_setRange_18 : decode cX6_setRange 18 = .ok (.ldc 52, 2) := by decide +kernel
theorem dX6_setRange_20 : decode cX6_setRange 20 = .ok (.invokespecial 54, 3) := by decide +kernel
theorem dX6_setRange_23 : decode cX6_setRange 23 = .ok (.athrow, 1) := by decide +kernel
theorem dX6_setRange_24 : decode cX6_setRange 24 = .ok (.iload_n 1, 1) := by decide +kernel
theorem dX6_setRange_25 : decode cX6_setRange 25 = .ok (.aload_n 0, 1) := by decide +kernel
theorem dX6_setRange_26 : decode cX6_setRange 26 = .ok (.getfield 10, 3) := by decide +kernel
theorem dX6_setRange_29 : decode cX6_setRange 29 = .ok (.getfield 57, 3) := by decide +kernel
theorem dX6_setRange_32 : decode cX6_setRange 32 = .ok (.if_icmp .ne 14, 3) := by decide +kernel
theorem dX6_setRange_35 : decode cX6_setRange 35 = .ok (.iload_n 2, 1) := by decide +kernel
theorem dX6_setRange_36 : decode cX6_setRange 36 = .ok (.aload_n 0, 1) := by decide +kernel
theorem dX6_setRange_37 : decode cX6_setRange 37 = .ok (.getfield 10, 3) := by decide +kernel
theorem dX6_setRange_40 : decode cX6_setRange 40 = .ok (.getfield 61, 3) := by decide +kernel
theorem dX6_setRange_43 : decode cX6_setRange 43 = .ok (.if_icmp .eq 7, 3) := by decide +kernel
theorem dX6_setRange_46 : decode cX6_setRange 46 = .ok (.iconst 1, 1) := by decide +kernel
theorem dX6_setRange_47 : decode cX6_setRange 47 = .ok (.goto 4, 3) := by decide +kernel
theorem dX6_setRange_50 : decode cX6_setRange 50 = .ok (.iconst 0, 1) := by decide +kernel
theorem dX6_setRange_51 : decode cX6_setRange 51 = .ok (.istore_n 3, 1) := by decide +kernel
theorem dX6_setRange_52 : decode cX6_setRange 52 = .ok (.aload_n 0, 1) := by decide +kernel
theorem dX6_setRange_53 : decode cX6_setRange 53 = .ok (.getfield 10, 3) := by decide +kernel
theorem dX6_setRange_56 : decode cX6_setRange 56 = .ok (.iload_n 1, 1) := by decide +kernel
theorem dX6_setRange_57 : decode cX6_setRange 57 = .ok (.putfield 57, 3) := by decide +kernel
theorem dX6_setRange_60 : decode cX6_setRange 60 = .ok (.aload_n 0, 1) := by decide +kernel
theorem dX6_setRange_61 : decode cX6_setRange 61 = .ok (.getfield 10, 3) := by decide +kernel
theorem dX6_setRange_64 : decode cX6_setRange 64 = .ok (.iload_n 2, 1) := by decide +kernel
theorem dX6_setRange_65 : decode cX6_setRange 65 = .ok (.putfield 61, 3) := by decide +kernel
theorem dX6_setRange_68 : decode cX6_setRange 68 = .ok (.aload_n 0, 1) := by decide +kernel
theorem dX6_setRange_69 : decode cX6_setRange 69 = .ok (.invokevirtual 64, 3) := by decide +kernel
theorem dX6_setRange_72 : decode cX6_setRange 72 = .ok (.iload_n 3, 1) := by decide +kernel
theorem dX6_setRange_73 : decode cX6_setRange 73 = .ok (.ireturn, 1) := by decide +kernel
theorem dX6_addType_0 : decode cX6_addType 0 = .ok (.aload_n 0, 1) := by decide +kernel
theorem dX6_addType_1 : decode cX6_addType 1 = .ok (.getfield 10, 3) := by decide +kernel
theorem dX6_addType_4 : decode cX6_addType 4 = .ok (.getfield 67, 3) := by decide +kernel
theorem dX6_addType_7 : decode cX6_addType 7 = .ok (.iconst 4, 1) := by decide +kernel
theorem dX6_addType_8 : decode cX6_addType 8 = .ok (.if_icmp .lt 13, 3) := by decide +kernel
theorem dX6_addType_11 : decode cX6_addType 11 = .ok (.new 70, 3) := by decide +kernel
theorem dX6_addType_14 : decode cX6_addType 14 = .ok (.dup, 1) := by decide +kernel
theorem dX6_addType_15 : decode cX6_addType 15 = .ok (.ldc 72, 2) := by decide +kernel
theorem dX6_addType_17 : decode cX6_addType 17 = .ok (.invokespecial 74, 3) := by decide +kernel
theorem dX6_addType_20 : decode cX6_addType 20 = .ok (.athrow, 1) := by decide +kernel
theorem dX6_addType_21 : decode cX6_addType 21 = .ok (.aload_n 0, 1) := by decide +kernel
theorem dX6_addType_22 : decode cX6_addType 22 = .ok (.getfield 10, 3) := by decide +kernel
theorem dX6_addType_25 : decode cX6_addType 25 = .ok (.dup, 1) := by decide +kernel
theorem dX6_addType_26 : decode cX6_addType 26 = .ok (.getfield 67, 3) := by decide +kernel
theorem dX6_addType_29 : decode cX6_addType 29 = .ok (.iconst 1, 1) := by decide +kernel
theorem dX6_addType_30 : decode cX6_addType 30 = .ok (.iadd, 1) := by decide +kernel
theorem dX6_addType_31 : decode cX6_addType 31 = .ok (.putfield 67, 3) := by decide +kernel
theorem dX6_addType_34 : decode cX6_addType 34 = .ok (.aload_n 0, 1) := by decide +kernel
theorem dX6_addType_35 : decode cX6_addType 35 = .ok (.invokevirtual 64, 3) := by decide +kernel
theorem dX6_addType_38 : decode cX6_addType 38 = .ok (.aload_n 0, 1) := by decide +kernel
theorem dX6_addType_39 : decode cX6_addType 39 = .ok (.getfield 10, 3) := by decide +kernel
theorem dX6_addType_42 : decode cX6_addType 42 = .ok (.getfield 67, 3) := by decide +kernel
theorem dX6_addType_45 : decode cX6_addType 45 = .ok (.iconst 1, 1) := by decide +kernel
theorem dX6_addType_46 : decode cX6_addType 46 = .ok (.isub, 1) := by decide +kernel
theorem dX6_addType_47 : decode cX6_addType 47 = .ok (.ireturn, 1) := by decide +kernel
theorem dX6_addConstructor_0 : decode cX6_addConstructor 0 = .ok (.aload_n 0, 1) := by decide +kernel
theorem dX6_addConstructor_1 : decode cX6_addConstructor 1 = .ok (.iload_n 1, 1) := by decide +kernel
theorem dX6_addConstructor_2 : decode cX6_addConstructor 2 = .ok (.invokevirtual 75, 3) := by decide +kernel
theorem dX6_addConstructor_5 : decode cX6_addConstructor 5 = .ok (.aload_n 0, 1) := by decide +kernel
theorem dX6_addConstructor_6 : decode cX6_addConstructor 6 = .ok (.getfield 10, 3) := by decide +kernel
theorem dX6_addConstructor_9 : decode cX6_addConstructor 9 = .ok (.iload_n 2, 1) := by decide +kernel
theorem dX6_addConstructor_10 : decode cX6_addConstructor 10 = .ok (.iload_n 3, 1) := by decide +kernel
theorem dX6_addConstructor_11 : decode cX6_addConstructor 11 = .ok (.iload 4, 2) := by decide +kernel
theorem dX6_addConstructor_13 : decode cX6_addConstructor 13 = .ok (.invokevirtual 79, 3) := by decide +kernel
theorem dX6_addConstructor_16 : decode cX6_addConstructor 16 = .ok (.ifCond .ne 13, 3) := by decide +kernel
theorem dX6_addConstructor_19 : decode cX6_addConstructor 19 = .ok (.new 50, 3) := by decide +kernel
theorem dX6_addConstructor_22 : decode cX6_addConstructor 22 = .ok (.dup, 1) := by decide +kernel
theorem dX6_addConstructor_23 : decode cX6_addConstructor 23 = .ok (.ldc 83, 2) := by decide +kernel
theorem dX6_addConstructor_25 : decode cX6_addConstructor 25 = .ok (.invokespecial 54, 3) := by decide +kernel
theorem dX6_addConstructor_28 : decode cX6_addConstructor 28 = .ok (.athrow, 1) := by decide +kernel
theorem dX6_addConstructor_29 : decode cX6_addConstructor 29 = .ok (.iload 5, 2) := by decide +kernel
theorem dX6_addConstructor_31 : decode cX6_addConstructor 31 = .ok (.ifCond .lt 9, 3) := by decide +kernel
theorem dX6_addConstructor_34 : decode cX6_addConstructor 34 = .ok (.iload 5, 2) := by decide +kernel
theorem dX6_addConstructor_36 : decode cX6_addConstructor 36 = .ok (.iconst 5, 1) := by decide +kernel
theorem dX6_addConstructor_37 : decode cX6_addConstructor 37 = .ok (.if_icmp .le 13, 3) := by decide +kernel
theorem dX6_addConstructor_40 : decode cX6_addConstructor 40 = .ok (.new 50, 3) := by decide +kernel
theorem dX6_addConstructor_43 : decode cX6_addConstructor 43 = .ok (.dup, 1) := by decide +kernel
theorem dX6_addConstructor_44 : decode cX6_addConstructor 44 = .ok (.ldc 85, 2) := by decide +kernel
theorem dX6_addConstructor_46 : decode cX6_addConstructor 46 = .ok (.invokespecial 54, 3) := by decide +kernel
theorem dX6_addConstructor_49 : decode cX6_addConstructor 49 = .ok (.athrow, 1) := by decide +kernel
theorem dX6_addConstructor_50 : decode cX6_addConstructor 50 = .ok (.aload_n 0, 1) := by decide +kernel
theorem dX6_addConstructor_51 : decode cX6_addConstructor 51 = .ok (.getfield 10, 3) := by decide +kernel
theorem dX6_addConstructor_54 : decode cX6_addConstructor 54 = .ok (.getfield 87, 3) := by decide +kernel
theorem dX6_addConstructor_57 : decode cX6_addConstructor 57 = .ok (.bipush 6, 2) := by decide +kernel
theorem dX6_addConstructor_59 : decode cX6_addConstructor 59 = .ok (.if_icmp .lt 13, 3) := by decide +kernel
theorem dX6_addConstructor_62 : decode cX6_addConstructor 62 = .ok (.new 70, 3) := by decide +kernel
theorem dX6_addConstructor_65 : decode cX6_addConstructor 65 = .ok (.dup, 1) := by decide +kernel
theorem dX6_addConstructor_66 : decode cX6_addConstructor 66 = .ok (.ldc 90, 2) := by decide +kernel
theorem dX6_addConstructor_68 : decode cX6_addConstructor 68 = .ok (.invokespecial 74, 3) := by decide +kernel
theorem dX6_addConstructor_71 : decode cX6_addConstructor 71 = .ok (.athrow, 1) := by decide +kernel
theorem dX6_addConstructor_72 : decode cX6_addConstructor 72 = .ok (.aload_n 0, 1) := by decide +kernel
theorem dX6_addConstructor_73 : decode cX6_addConstructor 73 = .ok (.getfield 10, 3) := by decide +kernel
theorem dX6_addConstructor_76 : decode cX6_addConstructor 76 = .ok (.iload_n 1, 1) := by decide +kernel
theorem dX6_addConstructor_77 : decode cX6_addConstructor 77 = .ok (.iload_n 2, 1) := by decide +kernel
theorem dX6_addConstructor_78 : decode cX6_addConstructor 78 = .ok (.iload_n 3, 1) := by decide +kernel
theorem dX6_addConstructor_79 : decode cX6_addConstructor 79 = .ok (.iload 4, 2) := by decide +kernel
theorem dX6_addConstructor_81 : decode cX6_addConstructor 81 = .ok (.iload 5, 2) := by decide +kernel
theorem dX6_addConstructor_83 : decode cX6_addConstructor 83 = .ok (.invokevirtual 92, 3) := by decide +kernel
theorem dX6_addConstructor_86 : decode cX6_addConstructor 86 = .ok (.aload_n 0, 1) := by decide +kernel
theorem dX6_addConstructor_87 : decode cX6_addConstructor 87 = .ok (.invokevirtual 64, 3) := by decide +kernel
theorem dX6_addConstructor_90 : decode cX6_addConstructor 90 = .ok (.aload_n 0, 1) := by decide +kernel
theorem dX6_addConstructor_91 : decode cX6_addConstructor 91 = .ok (.getfield 10, 3) := by decide +kernel
theorem dX6_addConstructor_94 : decode cX6_addConstructor 94 = .ok (.getfield 87, 3) := by decide +kernel
theorem dX6_addConstructor_97 : decode cX6_addConstructor 97 = .ok (.iconst 1, 1) := by decide +kernel
theorem dX6_addConstructor_98 : decode cX6_addConstructor 98 = .ok (.isub, 1) := by decide +kernel
theorem dX6_addConstructor_99 : decode cX6_addConstructor 99 = .ok (.ireturn, 1) := by decide +kernel
theorem dX6_typeCount_0 : decode cX6_typeCount 0 = .ok (.aload_n 0, 1) := by decide +kernel
theorem dX6_typeCount_1 : decode cX6_typeCount 1 = .ok (.getfield 10, 3) := by decide +kernel
theorem dX6_typeCount_4 : decode cX6_typeCount 4 = .ok (.getfield 67, 3) := by decide +kernel
theorem dX6_typeCount_7 : decode cX6_typeCount 7 = .ok (.ireturn, 1) := by decide +kernel
theorem dX6_horizon_0 : decode cX6_horizon 0 = .ok (.aload_n 0, 1) := by decide +kernel
theorem dX6_horizon_1 : decode cX6_horizon 1 = .ok (.getfield 21, 3) := by decide +kernel
theorem dX6_horizon_4 : decode cX6_horizon 4 = .ok (.invokevirtual 96, 3) := by decide +kernel
theorem dX6_horizon_7 : decode cX6_horizon 7 = .ok (.aload_n 0, 1) := by decide +kernel
theorem dX6_horizon_8 : decode cX6_horizon 8 = .ok (.getfield 21, 3) := by decide +kernel
theorem dX6_horizon_11 : decode cX6_horizon 11 = .ok (.getfield 99, 3) := by decide +kernel
theorem dX6_horizon_14 : decode cX6_horizon 14 = .ok (.ireturn, 1) := by decide +kernel
theorem dX6_count_0 : decode cX6_count 0 = .ok (.aload_n 0, 1) := by decide +kernel
theorem dX6_count_1 : decode cX6_count 1 = .ok (.iload_n 1, 1) := by decide +kernel
theorem dX6_count_2 : decode cX6_count 2 = .ok (.invokevirtual 75, 3) := by decide +kernel
theorem dX6_count_5 : decode cX6_count 5 = .ok (.aload_n 0, 1) := by decide +kernel
theorem dX6_count_6 : decode cX6_count 6 = .ok (.iload_n 2, 1) := by decide +kernel
theorem dX6_count_7 : decode cX6_count 7 = .ok (.invokevirtual 102, 3) := by decide +kernel
theorem dX6_count_10 : decode cX6_count 10 = .ok (.aload_n 0, 1) := by decide +kernel
theorem dX6_count_11 : decode cX6_count 11 = .ok (.iload_n 2, 1) := by decide +kernel
theorem dX6_count_12 : decode cX6_count 12 = .ok (.invokevirtual 105, 3) := by decide +kernel
theorem dX6_count_15 : decode cX6_count 15 = .ok (.aload_n 0, 1) := by decide +kernel
theorem dX6_count_16 : decode cX6_count 16 = .ok (.getfield 21, 3) := by decide +kernel
theorem dX6_count_19 : decode cX6_count 19 = .ok (.iload_n 1, 1) := by decide +kernel
theorem dX6_count_20 : decode cX6_count 20 = .ok (.iload_n 2, 1) := by decide +kernel
theorem dX6_count_21 : decode cX6_count 21 = .ok (.invokevirtual 108, 3) := by decide +kernel
theorem dX6_count_24 : decode cX6_count 24 = .ok (.aload_n 0, 1) := by decide +kernel
theorem dX6_count_25 : decode cX6_count 25 = .ok (.getfield 21, 3) := by decide +kernel
theorem dX6_count_28 : decode cX6_count 28 = .ok (.iload_n 1, 1) := by decide +kernel
theorem dX6_count_29 : decode cX6_count 29 = .ok (.iload_n 2, 1) := by decide +kernel
theorem dX6_count_30 : decode cX6_count 30 = .ok (.iconst 1, 1) := by decide +kernel
theorem dX6_count_31 : decode cX6_count 31 = .ok (.isub, 1) := by decide +kernel
theorem dX6_count_32 : decode cX6_count 32 = .ok (.invokevirtual 108, 3) := by decide +kernel
theorem dX6_count_35 : decode cX6_count 35 = .ok (.isub, 1) := by decide +kernel
theorem dX6_count_36 : decode cX6_count 36 = .ok (.ireturn, 1) := by decide +kernel
theorem dX6_total_0 : decode cX6_total 0 = .ok (.aload_n 0, 1) := by decide +kernel
theorem dX6_total_1 : decode cX6_total 1 = .ok (.iload_n 1, 1) := by decide +kernel
theorem dX6_total_2 : decode cX6_total 2 = .ok (.invokevirtual 75, 3) := by decide +kernel
theorem dX6_total_5 : decode cX6_total 5 = .ok (.aload_n 0, 1) := by decide +kernel
theorem dX6_total_6 : decode cX6_total 6 = .ok (.iload_n 2, 1) := by decide +kernel
theorem dX6_total_7 : decode cX6_total 7 = .ok (.invokevirtual 102, 3) := by decide +kernel
theorem dX6_total_10 : decode cX6_total 10 = .ok (.aload_n 0, 1) := by decide +kernel
theorem dX6_total_11 : decode cX6_total 11 = .ok (.iload_n 2, 1) := by decide +kernel
theorem dX6_total_12 : decode cX6_total 12 = .ok (.invokevirtual 105, 3) := by decide +kernel
theorem dX6_total_15 : decode cX6_total 15 = .ok (.aload_n 0, 1) := by decide +kernel
theorem dX6_total_16 : decode cX6_total 16 = .ok (.getfield 21, 3) := by decide +kernel
theorem dX6_total_19 : decode cX6_total 19 = .ok (.iload_n 1, 1) := by decide +kernel
theorem dX6_total_20 : decode cX6_total 20 = .ok (.iload_n 2, 1) := by decide +kernel
theorem dX6_total_21 : decode cX6_total 21 = .ok (.invokevirtual 108, 3) := by decide +kernel
theorem dX6_total_24 : decode cX6_total 24 = .ok (.ireturn, 1) := by decide +kernel
theorem dX6_firstAgainst_0 : decode cX6_firstAgainst 0 = .ok (.aload_n 0, 1) := by decide +kernel
theorem dX6_firstAgainst_1 : decode cX6_firstAgainst 1 = .ok (.iload_n 1, 1) := by decide +kernel
theorem dX6_firstAgainst_2 : decode cX6_firstAgainst 2 = .ok (.invokevirtual 75, 3) := by decide +kernel
theorem dX6_firstAgainst_5 : decode cX6_firstAgainst 5 = .ok (.aload_n 0, 1) := by decide +kernel
theorem dX6_firstAgainst_6 : decode cX6_firstAgainst 6 = .ok (.iload_n 2, 1) := by decide +kernel
theorem dX6_firstAgainst_7 : decode cX6_firstAgainst 7 = .ok (.invokevirtual 112, 3) := by decide +kernel
theorem dX6_firstAgainst_10 : decode cX6_firstAgainst 10 = .ok (.aload_n 0, 1) := by decide +kernel
theorem dX6_firstAgainst_11 : decode cX6_firstAgainst 11 = .ok (.iload_n 3, 1) := by decide +kernel
theorem dX6_firstAgainst_12 : decode cX6_firstAgainst 12 = .ok (.invokevirtual 102, 3) := by decide +kernel
theorem dX6_firstAgainst_15 : decode cX6_firstAgainst 15 = .ok (.aload_n 0, 1) := by decide +kernel
theorem dX6_firstAgainst_16 : decode cX6_firstAgainst 16 = .ok (.iload_n 3, 1) := by decide +kernel
theorem dX6_firstAgainst_17 : decode cX6_firstAgainst 17 = .ok (.invokevirtual 105, 3) := by decide +kernel
theorem dX6_firstAgainst_20 : decode cX6_firstAgainst 20 = .ok (.aload_n 0, 1) := by decide +kernel
theorem dX6_firstAgainst_21 : decode cX6_firstAgainst 21 = .ok (.getfield 21, 3) := by decide +kernel
theorem dX6_firstAgainst_24 : decode cX6_firstAgainst 24 = .ok (.iload_n 1, 1) := by decide +kernel
theorem dX6_firstAgainst_25 : decode cX6_firstAgainst 25 = .ok (.iload_n 3, 1) := by decide +kernel
theorem dX6_firstAgainst_26 : decode cX6_firstAgainst 26 = .ok (.invokevirtual 108, 3) := by decide +kernel
theorem dX6_firstAgainst_29 : decode cX6_firstAgainst 29 = .ok (.istore 4, 2) := by decide +kernel
theorem dX6_firstAgainst_31 : decode cX6_firstAgainst 31 = .ok (.iconst 0, 1) := by decide +kernel
theorem dX6_firstAgainst_32 : decode cX6_firstAgainst 32 = .ok (.istore 5, 2) := by decide +kernel
theorem dX6_firstAgainst_34 : decode cX6_firstAgainst 34 = .ok (.iload 5, 2) := by decide +kernel
theorem dX6_firstAgainst_36 : decode cX6_firstAgainst 36 = .ok (.iload 4, 2) := by decide +kernel
theorem dX6_firstAgainst_38 : decode cX6_firstAgainst 38 = .ok (.if_icmp .ge 38, 3) := by decide +kernel
theorem dX6_firstAgainst_41 : decode cX6_firstAgainst 41 = .ok (.aload_n 0, 1) := by decide +kernel
theorem dX6_firstAgainst_42 : decode cX6_firstAgainst 42 = .ok (.getfield 21, 3) := by decide +kernel
theorem dX6_firstAgainst_45 : decode cX6_firstAgainst 45 = .ok (.iload_n 1, 1) := by decide +kernel
theorem dX6_firstAgainst_46 : decode cX6_firstAgainst 46 = .ok (.iload 5, 2) := by decide +kernel
theorem dX6_firstAgainst_48 : decode cX6_firstAgainst 48 = .ok (.invokevirtual 115, 3) := by decide +kernel
theorem dX6_firstAgainst_51 : decode cX6_firstAgainst 51 = .ok (.astore 6, 2) := by decide +kernel
theorem dX6_firstAgainst_53 : decode cX6_firstAgainst 53 = .ok (.aload 6, 2) := by decide +kernel
theorem dX6_firstAgainst_55 : decode cX6_firstAgainst 55 = .ok (.ifnull 15, 3) := by decide +kernel
theorem dX6_firstAgainst_58 : decode cX6_firstAgainst 58 = .ok (.aload 6, 2) := by decide +kernel
theorem dX6_firstAgainst_60 : decode cX6_firstAgainst 60 = .ok (.iload_n 2, 1) := by decide +kernel
theorem dX6_firstAgainst_61 : decode cX6_firstAgainst 61 = .ok (.invokevirtual 119, 3) := by decide +kernel
theorem dX6_firstAgainst_64 : decode cX6_firstAgainst 64 = .ok (.ifCond .ne 6, 3) := by decide +kernel
theorem dX6_firstAgainst_67 : decode cX6_firstAgainst 67 = .ok (.iload 5, 2) := by decide +kernel
theorem dX6_firstAgainst_69 : decode cX6_firstAgainst 69 = .ok (.ireturn, 1) := by decide +kernel
theorem dX6_firstAgainst_70 : decode cX6_firstAgainst 70 = .ok (.iinc 5 1, 3) := by decide +kernel
theorem dX6_firstAgainst_73 : decode cX6_firstAgainst 73 = .ok (.goto (-39), 3) := by decide +kernel
theorem dX6_firstAgainst_76 : decode cX6_firstAgainst 76 = .ok (.iconst (-1), 1) := by decide +kernel
theorem dX6_firstAgainst_77 : decode cX6_firstAgainst 77 = .ok (.ireturn, 1) := by decide +kernel
theorem dX6_select_0 : decode cX6_select 0 = .ok (.aload_n 0, 1) := by decide +kernel
theorem dX6_select_1 : decode cX6_select 1 = .ok (.iload_n 1, 1) := by decide +kernel
theorem dX6_select_2 : decode cX6_select 2 = .ok (.invokevirtual 75, 3) := by decide +kernel
theorem dX6_select_5 : decode cX6_select 5 = .ok (.aload_n 0, 1) := by decide +kernel
theorem dX6_select_6 : decode cX6_select 6 = .ok (.getfield 21, 3) := by decide +kernel
theorem dX6_select_9 : decode cX6_select 9 = .ok (.invokevirtual 96, 3) := by decide +kernel
theorem dX6_select_12 : decode cX6_select 12 = .ok (.aload_n 0, 1) := by decide +kernel
theorem dX6_select_13 : decode cX6_select 13 = .ok (.getfield 21, 3) := by decide +kernel
theorem dX6_select_16 : decode cX6_select 16 = .ok (.iload_n 1, 1) := by decide +kernel
theorem dX6_select_17 : decode cX6_select 17 = .ok (.iload_n 2, 1) := by decide +kernel
theorem dX6_select_18 : decode cX6_select 18 = .ok (.invokevirtual 115, 3) := by decide +kernel
theorem dX6_select_21 : decode cX6_select 21 = .ok (.astore_n 3, 1) := by decide +kernel
theorem dX6_select_22 : decode cX6_select 22 = .ok (.aload_n 3, 1) := by decide +kernel
theorem dX6_select_23 : decode cX6_select 23 = .ok (.ifnonnull 29, 3) := by decide +kernel
theorem dX6_select_26 : decode cX6_select 26 = .ok (.iload_n 2, 1) := by decide +kernel
theorem dX6_select_27 : decode cX6_select 27 = .ok (.ifCond .lt 15, 3) := by decide +kernel
theorem dX6_select_30 : decode cX6_select 30 = .ok (.aload_n 0, 1) := by decide +kernel
theorem dX6_select_31 : decode cX6_select 31 = .ok (.getfield 21, 3) := by decide +kernel
theorem dX6_select_34 : decode cX6_select 34 = .ok (.getfield 99, 3) := by decide +kernel
theorem dX6_select_37 : decode cX6_select 37 = .ok (.bipush 8, 2) := by decide +kernel
theorem dX6_select_39 : decode cX6_select 39 = .ok (.if_icmp .ne 13, 3) := by decide +kernel
theorem dX6_select_42 : decode cX6_select 42 = .ok (.new 125, 3) := by decide +kernel
theorem dX6_select_45 : decode cX6_select 45 = .ok (.dup, 1) := by decide +kernel
theorem dX6_select_46 : decode cX6_select 46 = .ok (.ldc 127, 2) := by decide +kernel
theorem dX6_select_48 : decode cX6_select 48 = .ok (.invokespecial 129, 3) := by decide +kernel
theorem dX6_select_51 : decode cX6_select 51 = .ok (.athrow, 1) := by decide +kernel
theorem dX6_select_52 : decode cX6_select 52 = .ok (.aload_n 3, 1) := by decide +kernel
theorem dX6_select_53 : decode cX6_select 53 = .ok (.ifnonnull 13, 3) := by decide +kernel
theorem dX6_select_56 : decode cX6_select 56 = .ok (.new 70, 3) := by decide +kernel
theorem dX6_select_59 : decode cX6_select 59 = .ok (.dup, 1) := by decide +kernel
theorem dX6_select_60 : decode cX6_select 60 = .ok (.ldc 130, 2) := by decide +kernel
theorem dX6_select_62 : decode cX6_select 62 = .ok (.invokespecial 74, 3) := by decide +kernel
theorem dX6_select_65 : decode cX6_select 65 = .ok (.athrow, 1) := by decide +kernel
theorem dX6_select_66 : decode cX6_select 66 = .ok (.aload_n 0, 1) := by decide +kernel
theorem dX6_select_67 : decode cX6_select 67 = .ok (.aload_n 3, 1) := by decide +kernel
theorem dX6_select_68 : decode cX6_select 68 = .ok (.putfield 46, 3) := by decide +kernel
theorem dX6_select_71 : decode cX6_select 71 = .ok (.aload_n 3, 1) := by decide +kernel
theorem dX6_select_72 : decode cX6_select 72 = .ok (.getfield 132, 3) := by decide +kernel
theorem dX6_select_75 : decode cX6_select 75 = .ok (.ireturn, 1) := by decide +kernel
theorem dX6_draw_0 : decode cX6_draw 0 = .ok (.aload_n 0, 1) := by decide +kernel
theorem dX6_draw_1 : decode cX6_draw 1 = .ok (.iload_n 1, 1) := by decide +kernel
theorem dX6_draw_2 : decode cX6_draw 2 = .ok (.invokevirtual 75, 3) := by decide +kernel
theorem dX6_draw_5 : decode cX6_draw 5 = .ok (.aload_n 0, 1) := by decide +kernel
theorem dX6_draw_6 : decode cX6_draw 6 = .ok (.iload_n 2, 1) := by decide +kernel
theorem dX6_draw_7 : decode cX6_draw 7 = .ok (.invokevirtual 102, 3) := by decide +kernel
theorem dX6_draw_10 : decode cX6_draw 10 = .ok (.aload_n 0, 1) := by decide +kernel
theorem dX6_draw_11 : decode cX6_draw 11 = .ok (.iload_n 2, 1) := by decide +kernel
theorem dX6_draw_12 : decode cX6_draw 12 = .ok (.invokevirtual 105, 3) := by decide +kernel
theorem dX6_draw_15 : decode cX6_draw 15 = .ok (.aload_n 0, 1) := by decide +kernel
theorem dX6_draw_16 : decode cX6_draw 16 = .ok (.getfield 21, 3) := by decide +kernel
theorem dX6_draw_19 : decode cX6_draw 19 = .ok (.iload_n 1, 1) := by decide +kernel
theorem dX6_draw_20 : decode cX6_draw 20 = .ok (.iload_n 2, 1) := by decide +kernel
theorem dX6_draw_21 : decode cX6_draw 21 = .ok (.iconst 1, 1) := by decide +kernel
theorem dX6_draw_22 : decode cX6_draw 22 = .ok (.isub, 1) := by decide +kernel
theorem dX6_draw_23 : decode cX6_draw 23 = .ok (.invokevirtual 108, 3) := by decide +kernel
theorem dX6_draw_26 : decode cX6_draw 26 = .ok (.istore 5, 2) := by decide +kernel
theorem dX6_draw_28 : decode cX6_draw 28 = .ok (.aload_n 0, 1) := by decide +kernel
theorem dX6_draw_29 : decode cX6_draw 29 = .ok (.getfield 21, 3) := by decide +kernel
theorem dX6_draw_32 : decode cX6_draw 32 = .ok (.iload_n 1, 1) := by decide +kernel
theorem dX6_draw_33 : decode cX6_draw 33 = .ok (.iload_n 2, 1) := by decide +kernel
theorem dX6_draw_34 : decode cX6_draw 34 = .ok (.invokevirtual 108, 3) := by decide +kernel
theorem dX6_draw_37 : decode cX6_draw 37 = .ok (.iload 5, 2) := by decide +kernel
theorem dX6_draw_39 : decode cX6_draw 39 = .ok (.isub, 1) := by decide +kernel
theorem dX6_draw_40 : decode cX6_draw 40 = .ok (.istore 6, 2) := by decide +kernel
theorem dX6_draw_42 : decode cX6_draw 42 = .ok (.iload 6, 2) := by decide +kernel
theorem dX6_draw_44 : decode cX6_draw 44 = .ok (.ifCond .gt 13, 3) := by decide +kernel
theorem dX6_draw_47 : decode cX6_draw 47 = .ok (.new 135, 3) := by decide +kernel
theorem dX6_draw_50 : decode cX6_draw 50 = .ok (.dup, 1) := by decide +kernel
theorem dX6_draw_51 : decode cX6_draw 51 = .ok (.ldc 137, 2) := by decide +kernel
theorem dX6_draw_53 : decode cX6_draw 53 = .ok (.invokespecial 139, 3) := by decide +kernel
theorem dX6_draw_56 : decode cX6_draw 56 = .ok (.athrow, 1) := by decide +kernel
theorem dX6_draw_57 : decode cX6_draw 57 = .ok (.lload_n 3, 1) := by decide +kernel
theorem dX6_draw_58 : decode cX6_draw 58 = .ok (.ldc2_w 140, 3) := by decide +kernel
theorem dX6_draw_61 : decode cX6_draw 61 = .ok (.lmul, 1) := by decide +kernel
theorem dX6_draw_62 : decode cX6_draw 62 = .ok (.ldc2_w 142, 3) := by decide +kernel
theorem dX6_draw_65 : decode cX6_draw 65 = .ok (.ladd, 1) := by decide +kernel
theorem dX6_draw_66 : decode cX6_draw 66 = .ok (.lstore 7, 2) := by decide +kernel
theorem dX6_draw_68 : decode cX6_draw 68 = .ok (.iload 5, 2) := by decide +kernel
theorem dX6_draw_70 : decode cX6_draw 70 = .ok (.lload 7, 2) := by decide +kernel
theorem dX6_draw_72 : decode cX6_draw 72 = .ok (.bipush 33, 2) := by decide +kernel
theorem dX6_draw_74 : decode cX6_draw 74 = .ok (.lushr, 1) := by decide +kernel
theorem dX6_draw_75 : decode cX6_draw 75 = .ok (.iload 6, 2) := by decide +kernel
theorem dX6_draw_77 : decode cX6_draw 77 = .ok (.i2l, 1) := by decide +kernel
theorem dX6_draw_78 : decode cX6_draw 78 = .ok (.lrem, 1) := by decide +kernel
theorem dX6_draw_79 : decode cX6_draw 79 = .ok (.l2i, 1) := by decide +kernel
theorem dX6_draw_80 : decode cX6_draw 80 = .ok (.iadd, 1) := by decide +kernel
theorem dX6_draw_81 : decode cX6_draw 81 = .ok (.istore 9, 2) := by decide +kernel
theorem dX6_draw_83 : decode cX6_draw 83 = .ok (.aload_n 0, 1) := by decide +kernel
theorem dX6_draw_84 : decode cX6_draw 84 = .ok (.aload_n 0, 1) := by decide +kernel
theorem dX6_draw_85 : decode cX6_draw 85 = .ok (.getfield 21, 3) := by decide +kernel
theorem dX6_draw_88 : decode cX6_draw 88 = .ok (.iload_n 1, 1) := by decide +kernel
theorem dX6_draw_89 : decode cX6_draw 89 = .ok (.iload 9, 2) := by decide +kernel
theorem dX6_draw_91 : decode cX6_draw 91 = .ok (.invokevirtual 115, 3) := by decide +kernel
theorem dX6_draw_94 : decode cX6_draw 94 = .ok (.putfield 46, 3) := by decide +kernel
theorem dX6_draw_97 : decode cX6_draw 97 = .ok (.iload 9, 2) := by decide +kernel
theorem dX6_draw_99 : decode cX6_draw 99 = .ok (.ireturn, 1) := by decide +kernel
theorem dX6_tell_0 : decode cX6_tell 0 = .ok (.iload_n 1, 1) := by decide +kernel
theorem dX6_tell_1 : decode cX6_tell 1 = .ok (.ifCond .lt 12, 3) := by decide +kernel
theorem dX6_tell_4 : decode cX6_tell 4 = .ok (.iload_n 1, 1) := by decide +kernel
theorem dX6_tell_5 : decode cX6_tell 5 = .ok (.iconst 5, 1) := by decide +kernel
theorem dX6_tell_6 : decode cX6_tell 6 = .ok (.if_icmp .gt 7, 3) := by decide +kernel
theorem dX6_tell_9 : decode cX6_tell 9 = .ok (.iconst 1, 1) := by decide +kernel
theorem dX6_tell_10 : decode cX6_tell 10 = .ok (.goto 4, 3) := by decide +kernel
theorem dX6_tell_13 : decode cX6_tell 13 = .ok (.iconst 0, 1) := by decide +kernel
theorem dX6_tell_14 : decode cX6_tell 14 = .ok (.istore_n 2, 1) := by decide +kernel
theorem dX6_tell_15 : decode cX6_tell 15 = .ok (.iload_n 1, 1) := by decide +kernel
theorem dX6_tell_16 : decode cX6_tell 16 = .ok (.bipush 100, 2) := by decide +kernel
theorem dX6_tell_18 : decode cX6_tell 18 = .ok (.if_icmp .lt 13, 3) := by decide +kernel
theorem dX6_tell_21 : decode cX6_tell 21 = .ok (.iload_n 1, 1) := by decide +kernel
theorem dX6_tell_22 : decode cX6_tell 22 = .ok (.bipush 106, 2) := by decide +kernel
theorem dX6_tell_24 : decode cX6_tell 24 = .ok (.if_icmp .ge 7, 3) := by decide +kernel
theorem dX6_tell_27 : decode cX6_tell 27 = .ok (.iconst 1, 1) := by decide +kernel
theorem dX6_tell_28 : decode cX6_tell 28 = .ok (.goto 4, 3) := by decide +kernel
theorem dX6_tell_31 : decode cX6_tell 31 = .ok (.iconst 0, 1) := by decide +kernel
theorem dX6_tell_32 : decode cX6_tell 32 = .ok (.istore_n 3, 1) := by decide +kernel
theorem dX6_tell_33 : decode cX6_tell 33 = .ok (.iload_n 2, 1) := by decide +kernel
theorem dX6_tell_34 : decode cX6_tell 34 = .ok (.ifCond .ne 17, 3) := by decide +kernel
theorem dX6_tell_37 : decode cX6_tell 37 = .ok (.iload_n 3, 1) := by decide +kernel
theorem dX6_tell_38 : decode cX6_tell 38 = .ok (.ifCond .ne 13, 3) := by decide +kernel
theorem dX6_tell_41 : decode cX6_tell 41 = .ok (.new 50, 3) := by decide +kernel
theorem dX6_tell_44 : decode cX6_tell 44 = .ok (.dup, 1) := by decide +kernel
theorem dX6_tell_45 : decode cX6_tell 45 = .ok (.ldc 144, 2) := by decide +kernel
theorem dX6_tell_47 : decode cX6_tell 47 = .ok (.invokespecial 54, 3) := by decide +kernel
theorem dX6_tell_50 : decode cX6_tell 50 = .ok (.athrow, 1) := by decide +kernel
theorem dX6_tell_51 : decode cX6_tell 51 = .ok (.aload_n 0, 1) := by decide +kernel
theorem dX6_tell_52 : decode cX6_tell 52 = .ok (.getfield 28, 3) := by decide +kernel
theorem dX6_tell_55 : decode cX6_tell 55 = .ok (.getfield 146, 3) := by decide +kernel
theorem dX6_tell_58 : decode cX6_tell 58 = .ok (.bipush 40, 2) := by decide +kernel
theorem dX6_tell_60 : decode cX6_tell 60 = .ok (.if_icmp .lt 13, 3) := by decide +kernel
theorem dX6_tell_63 : decode cX6_tell 63 = .ok (.new 70, 3) := by decide +kernel
theorem dX6_tell_66 : decode cX6_tell 66 = .ok (.dup, 1) := by decide +kernel
theorem dX6_tell_67 : decode cX6_tell 67 = .ok (.ldc 149, 2) := by decide +kernel
theorem dX6_tell_69 : decode cX6_tell 69 = .ok (.invokespecial 74, 3) := by decide +kernel
theorem dX6_tell_72 : decode cX6_tell 72 = .ok (.athrow, 1) := by decide +kernel
theorem dX6_tell_73 : decode cX6_tell 73 = .ok (.aload_n 0, 1) := by decide +kernel
theorem dX6_tell_74 : decode cX6_tell 74 = .ok (.getfield 28, 3) := by decide +kernel
theorem dX6_tell_77 : decode cX6_tell 77 = .ok (.iload_n 1, 1) := by decide +kernel
theorem dX6_tell_78 : decode cX6_tell 78 = .ok (.invokevirtual 151, 3) := by decide +kernel
theorem dX6_tell_81 : decode cX6_tell 81 = .ok (.aload_n 0, 1) := by decide +kernel
theorem dX6_tell_82 : decode cX6_tell 82 = .ok (.getfield 28, 3) := by decide +kernel
theorem dX6_tell_85 : decode cX6_tell 85 = .ok (.getfield 146, 3) := by decide +kernel
theorem dX6_tell_88 : decode cX6_tell 88 = .ok (.ireturn, 1) := by decide +kernel
theorem dX6_read_0 : decode cX6_read 0 = .ok (.aload_n 0, 1) := by decide +kernel
theorem dX6_read_1 : decode cX6_read 1 = .ok (.iload_n 1, 1) := by decide +kernel
theorem dX6_read_2 : decode cX6_read 2 = .ok (.invokevirtual 75, 3) := by decide +kernel
theorem dX6_read_5 : decode cX6_read 5 = .ok (.aload_n 0, 1) := by decide +kernel
theorem dX6_read_6 : decode cX6_read 6 = .ok (.getfield 21, 3) := by decide +kernel
theorem dX6_read_9 : decode cX6_read 9 = .ok (.invokevirtual 96, 3) := by decide +kernel
theorem dX6_read_12 : decode cX6_read 12 = .ok (.aload_n 0, 1) := by decide +kernel
theorem dX6_read_13 : decode cX6_read 13 = .ok (.getfield 28, 3) := by decide +kernel
theorem dX6_read_16 : decode cX6_read 16 = .ok (.iload_n 1, 1) := by decide +kernel
theorem dX6_read_17 : decode cX6_read 17 = .ok (.invokevirtual 153, 3) := by decide +kernel
theorem dX6_read_20 : decode cX6_read 20 = .ok (.astore_n 2, 1) := by decide +kernel
theorem dX6_read_21 : decode cX6_read 21 = .ok (.aload_n 0, 1) := by decide +kernel
theorem dX6_read_22 : decode cX6_read 22 = .ok (.getfield 28, 3) := by decide +kernel
theorem dX6_read_25 : decode cX6_read 25 = .ok (.iconst 0, 1) := by decide +kernel
theorem dX6_read_26 : decode cX6_read 26 = .ok (.putfield 146, 3) := by decide +kernel
theorem dX6_read_29 : decode cX6_read 29 = .ok (.aload_n 2, 1) := by decide +kernel
theorem dX6_read_30 : decode cX6_read 30 = .ok (.ifnonnull 5, 3) := by decide +kernel
theorem dX6_read_33 : decode cX6_read 33 = .ok (.iconst (-1), 1) := by decide +kernel
theorem dX6_read_34 : decode cX6_read 34 = .ok (.ireturn, 1) := by decide +kernel
theorem dX6_read_35 : decode cX6_read 35 = .ok (.aload_n 2, 1) := by decide +kernel
theorem dX6_read_36 : decode cX6_read 36 = .ok (.getfield 132, 3) := by decide +kernel
theorem dX6_read_39 : decode cX6_read 39 = .ok (.aload_n 0, 1) := by decide +kernel
theorem dX6_read_40 : decode cX6_read 40 = .ok (.getfield 21, 3) := by decide +kernel
theorem dX6_read_43 : decode cX6_read 43 = .ok (.getfield 99, 3) := by decide +kernel
theorem dX6_read_46 : decode cX6_read 46 = .ok (.if_icmp .le 13, 3) := by decide +kernel
theorem dX6_read_49 : decode cX6_read 49 = .ok (.new 70, 3) := by decide +kernel
theorem dX6_read_52 : decode cX6_read 52 = .ok (.dup, 1) := by decide +kernel
theorem dX6_read_53 : decode cX6_read 53 = .ok (.ldc 157, 2) := by decide +kernel
theorem dX6_read_55 : decode cX6_read 55 = .ok (.invokespecial 74, 3) := by decide +kernel
theorem dX6_read_58 : decode cX6_read 58 = .ok (.athrow, 1) := by decide +kernel
theorem dX6_read_59 : decode cX6_read 59 = .ok (.aload_n 0, 1) := by decide +kernel
theorem dX6_read_60 : decode cX6_read 60 = .ok (.getfield 21, 3) := by decide +kernel
theorem dX6_read_63 : decode cX6_read 63 = .ok (.aload_n 2, 1) := by decide +kernel
theorem dX6_read_64 : decode cX6_read 64 = .ok (.invokevirtual 159, 3) := by decide +kernel
theorem dX6_read_67 : decode cX6_read 67 = .ok (.astore_n 3, 1) := by decide +kernel
theorem dX6_read_68 : decode cX6_read 68 = .ok (.aload_n 3, 1) := by decide +kernel
theorem dX6_read_69 : decode cX6_read 69 = .ok (.ifnonnull 5, 3) := by decide +kernel
theorem dX6_read_72 : decode cX6_read 72 = .ok (.iconst (-1), 1) := by decide +kernel
theorem dX6_read_73 : decode cX6_read 73 = .ok (.ireturn, 1) := by decide +kernel
theorem dX6_read_74 : decode cX6_read 74 = .ok (.aload_n 0, 1) := by decide +kernel
theorem dX6_read_75 : decode cX6_read 75 = .ok (.aload_n 3, 1) := by decide +kernel
theorem dX6_read_76 : decode cX6_read 76 = .ok (.putfield 46, 3) := by decide +kernel
theorem dX6_read_79 : decode cX6_read 79 = .ok (.aload_n 3, 1) := by decide +kernel
theorem dX6_read_80 : decode cX6_read 80 = .ok (.getfield 163, 3) := by decide +kernel
theorem dX6_read_83 : decode cX6_read 83 = .ok (.ireturn, 1) := by decide +kernel
theorem dX6_length_0 : decode cX6_length 0 = .ok (.aload_n 0, 1) := by decide +kernel
theorem dX6_length_1 : decode cX6_length 1 = .ok (.invokevirtual 166, 3) := by decide +kernel
theorem dX6_length_4 : decode cX6_length 4 = .ok (.invokevirtual 170, 3) := by decide +kernel
theorem dX6_length_7 : decode cX6_length 7 = .ok (.ireturn, 1) := by decide +kernel
theorem dX6_code_0 : decode cX6_code 0 = .ok (.aload_n 0, 1) := by decide +kernel
theorem dX6_code_1 : decode cX6_code 1 = .ok (.invokevirtual 166, 3) := by decide +kernel
theorem dX6_code_4 : decode cX6_code 4 = .ok (.astore_n 2, 1) := by decide +kernel
theorem dX6_code_5 : decode cX6_code 5 = .ok (.iload_n 1, 1) := by decide +kernel
theorem dX6_code_6 : decode cX6_code 6 = .ok (.ifCond .lt 11, 3) := by decide +kernel
theorem dX6_code_9 : decode cX6_code 9 = .ok (.iload_n 1, 1) := by decide +kernel
theorem dX6_code_10 : decode cX6_code 10 = .ok (.aload_n 2, 1) := by decide +kernel
theorem dX6_code_11 : decode cX6_code 11 = .ok (.invokevirtual 170, 3) := by decide +kernel
theorem dX6_code_14 : decode cX6_code 14 = .ok (.if_icmp .lt 13, 3) := by decide +kernel
theorem dX6_code_17 : decode cX6_code 17 = .ok (.new 125, 3) := by decide +kernel
theorem dX6_code_20 : decode cX6_code 20 = .ok (.dup, 1) := by decide +kernel
theorem dX6_code_21 : decode cX6_code 21 = .ok (.ldc 174, 2) := by decide +kernel
theorem dX6_code_23 : decode cX6_code 23 = .ok (.invokespecial 129, 3) := by decide +kernel
theorem dX6_code_26 : decode cX6_code 26 = .ok (.athrow, 1) := by decide +kernel
theorem dX6_code_27 : decode cX6_code 27 = .ok (.aload_n 0, 1) := by decide +kernel
theorem dX6_code_28 : decode cX6_code 28 = .ok (.getfield 35, 3) := by decide +kernel
theorem dX6_code_31 : decode cX6_code 31 = .ok (.aload_n 2, 1) := by decide +kernel
theorem dX6_code_32 : decode cX6_code 32 = .ok (.invokevirtual 176, 3) := by decide +kernel
theorem dX6_code_35 : decode cX6_code 35 = .ok (.aload_n 0, 1) := by decide +kernel
theorem dX6_code_36 : decode cX6_code 36 = .ok (.getfield 35, 3) := by decide +kernel
theorem dX6_code_39 : decode cX6_code 39 = .ok (.iload_n 1, 1) := by decide +kernel
theorem dX6_code_40 : decode cX6_code 40 = .ok (.invokevirtual 180, 3) := by decide +kernel
theorem dX6_code_43 : decode cX6_code 43 = .ok (.ireturn, 1) := by decide +kernel
theorem dX6_number_0 : decode cX6_number 0 = .ok (.aload_n 0, 1) := by decide +kernel
theorem dX6_number_1 : decode cX6_number 1 = .ok (.invokevirtual 166, 3) := by decide +kernel
theorem dX6_number_4 : decode cX6_number 4 = .ok (.getfield 163, 3) := by decide +kernel
theorem dX6_number_7 : decode cX6_number 7 = .ok (.ireturn, 1) := by decide +kernel
theorem dX6_height_0 : decode cX6_height 0 = .ok (.aload_n 0, 1) := by decide +kernel
theorem dX6_height_1 : decode cX6_height 1 = .ok (.invokevirtual 166, 3) := by decide +kernel
theorem dX6_height_4 : decode cX6_height 4 = .ok (.getfield 184, 3) := by decide +kernel
theorem dX6_height_7 : decode cX6_height 7 = .ok (.ireturn, 1) := by decide +kernel
theorem dX6_mean_0 : decode cX6_mean 0 = .ok (.aload_n 0, 1) := by decide +kernel
theorem dX6_mean_1 : decode cX6_mean 1 = .ok (.invokevirtual 166, 3) := by decide +kernel
theorem dX6_mean_4 : decode cX6_mean 4 = .ok (.astore_n 1, 1) := by decide +kernel
theorem dX6_mean_5 : decode cX6_mean 5 = .ok (.aload_n 1, 1) := by decide +kernel
theorem dX6_mean_6 : decode cX6_mean 6 = .ok (.getfield 187, 3) := by decide +kernel
theorem dX6_mean_9 : decode cX6_mean 9 = .ok (.ifCond .gt 5, 3) := by decide +kernel
theorem dX6_mean_12 : decode cX6_mean 12 = .ok (.dconst 0, 1) := by decide +kernel
theorem dX6_mean_13 : decode cX6_mean 13 = .ok (.dreturn, 1) := by decide +kernel
theorem dX6_mean_14 : decode cX6_mean 14 = .ok (.aload_n 1, 1) := by decide +kernel
theorem dX6_mean_15 : decode cX6_mean 15 = .ok (.getfield 190, 3) := by decide +kernel
theorem dX6_mean_18 : decode cX6_mean 18 = .ok (.i2d, 1) := by decide +kernel
theorem dX6_mean_19 : decode cX6_mean 19 = .ok (.aload_n 1, 1) := by decide +kernel
theorem dX6_mean_20 : decode cX6_mean 20 = .ok (.getfield 187, 3) := by decide +kernel
theorem dX6_mean_23 : decode cX6_mean 23 = .ok (.i2d, 1) := by decide +kernel
theorem dX6_mean_24 : decode cX6_mean 24 = .ok (.ddiv, 1) := by decide +kernel
theorem dX6_mean_25 : decode cX6_mean 25 = .ok (.dreturn, 1) := by decide +kernel
theorem dX6_holds_0 : decode cX6_holds 0 = .ok (.aload_n 0, 1) := by decide +kernel
theorem dX6_holds_1 : decode cX6_holds 1 = .ok (.invokevirtual 166, 3) := by decide +kernel
theorem dX6_holds_4 : decode cX6_holds 4 = .ok (.astore_n 2, 1) := by decide +kernel
theorem dX6_holds_5 : decode cX6_holds 5 = .ok (.aload_n 0, 1) := by decide +kernel
theorem dX6_holds_6 : decode cX6_holds 6 = .ok (.iload_n 1, 1) := by decide +kernel
theorem dX6_holds_7 : decode cX6_holds 7 = .ok (.invokevirtual 112, 3) := by decide +kernel
theorem dX6_holds_10 : decode cX6_holds 10 = .ok (.aload_n 2, 1) := by decide +kernel
theorem dX6_holds_11 : decode cX6_holds 11 = .ok (.iload_n 1, 1) := by decide +kernel
theorem dX6_holds_12 : decode cX6_holds 12 = .ok (.invokevirtual 119, 3) := by decide +kernel
theorem dX6_holds_15 : decode cX6_holds 15 = .ok (.ireturn, 1) := by decide +kernel
theorem dX6_reductionCount_0 : decode cX6_reductionCount 0 = .ok (.aload_n 0, 1) := by decide +kernel
theorem dX6_reductionCount_1 : decode cX6_reductionCount 1 = .ok (.getfield 42, 3) := by decide +kernel
theorem dX6_reductionCount_4 : decode cX6_reductionCount 4 = .ok (.aload_n 0, 1) := by decide +kernel
theorem dX6_reductionCount_5 : decode cX6_reductionCount 5 = .ok (.invokevirtual 166, 3) := by decide +kernel
theorem dX6_reductionCount_8 : decode cX6_reductionCount 8 = .ok (.aload_n 0, 1) := by decide +kernel
theorem dX6_reductionCount_9 : decode cX6_reductionCount 9 = .ok (.getfield 21, 3) := by decide +kernel
theorem dX6_reductionCount_12 : decode cX6_reductionCount 12 = .ok (.invokevirtual 193, 3) := by decide +kernel
theorem dX6_reductionCount_15 : decode cX6_reductionCount 15 = .ok (.aload_n 0, 1) := by decide +kernel
theorem dX6_reductionCount_16 : decode cX6_reductionCount 16 = .ok (.getfield 42, 3) := by decide +kernel
theorem dX6_reductionCount_19 : decode cX6_reductionCount 19 = .ok (.getfield 197, 3) := by decide +kernel
theorem dX6_reductionCount_22 : decode cX6_reductionCount 22 = .ok (.ireturn, 1) := by decide +kernel
theorem dX6_reduction_0 : decode cX6_reduction 0 = .ok (.aload_n 0, 1) := by decide +kernel
theorem dX6_reduction_1 : decode cX6_reduction 1 = .ok (.getfield 42, 3) := by decide +kernel
theorem dX6_reduction_4 : decode cX6_reduction 4 = .ok (.aload_n 0, 1) := by decide +kernel
theorem dX6_reduction_5 : decode cX6_reduction 5 = .ok (.invokevirtual 166, 3) := by decide +kernel
theorem dX6_reduction_8 : decode cX6_reduction 8 = .ok (.aload_n 0, 1) := by decide +kernel
theorem dX6_reduction_9 : decode cX6_reduction 9 = .ok (.getfield 21, 3) := by decide +kernel
theorem dX6_reduction_12 : decode cX6_reduction 12 = .ok (.invokevirtual 193, 3) := by decide +kernel
theorem dX6_reduction_15 : decode cX6_reduction 15 = .ok (.aload_n 0, 1) := by decide +kernel
theorem dX6_reduction_16 : decode cX6_reduction 16 = .ok (.getfield 42, 3) := by decide +kernel
theorem dX6_reduction_19 : decode cX6_reduction 19 = .ok (.iload_n 1, 1) := by decide +kernel
theorem dX6_reduction_20 : decode cX6_reduction 20 = .ok (.invokevirtual 198, 3) := by decide +kernel
theorem dX6_reduction_23 : decode cX6_reduction 23 = .ok (.astore_n 2, 1) := by decide +kernel
theorem dX6_reduction_24 : decode cX6_reduction 24 = .ok (.aload_n 2, 1) := by decide +kernel
theorem dX6_reduction_25 : decode cX6_reduction 25 = .ok (.ifnonnull 13, 3) := by decide +kernel
theorem dX6_reduction_28 : decode cX6_reduction 28 = .ok (.new 125, 3) := by decide +kernel
theorem dX6_reduction_31 : decode cX6_reduction 31 = .ok (.dup, 1) := by decide +kernel
theorem dX6_reduction_32 : decode cX6_reduction 32 = .ok (.ldc 200, 2) := by decide +kernel
theorem dX6_reduction_34 : decode cX6_reduction 34 = .ok (.invokespecial 129, 3) := by decide +kernel
theorem dX6_reduction_37 : decode cX6_reduction 37 = .ok (.athrow, 1) := by decide +kernel
theorem dX6_reduction_38 : decode cX6_reduction 38 = .ok (.aload_n 2, 1) := by decide +kernel
theorem dX6_reduction_39 : decode cX6_reduction 39 = .ok (.getfield 163, 3) := by decide +kernel
theorem dX6_reduction_42 : decode cX6_reduction 42 = .ok (.ireturn, 1) := by decide +kernel
theorem dX6_reduce_0 : decode cX6_reduce 0 = .ok (.aload_n 0, 1) := by decide +kernel
theorem dX6_reduce_1 : decode cX6_reduce 1 = .ok (.invokevirtual 166, 3) := by decide +kernel
theorem dX6_reduce_4 : decode cX6_reduce 4 = .ok (.astore_n 2, 1) := by decide +kernel
theorem dX6_reduce_5 : decode cX6_reduce 5 = .ok (.aload_n 0, 1) := by decide +kernel
theorem dX6_reduce_6 : decode cX6_reduce 6 = .ok (.iload_n 1, 1) := by decide +kernel
theorem dX6_reduce_7 : decode cX6_reduce 7 = .ok (.invokevirtual 112, 3) := by decide +kernel
theorem dX6_reduce_10 : decode cX6_reduce 10 = .ok (.iconst 0, 1) := by decide +kernel
theorem dX6_reduce_11 : decode cX6_reduce 11 = .ok (.istore_n 3, 1) := by decide +kernel
theorem dX6_reduce_12 : decode cX6_reduce 12 = .ok (.iload_n 3, 1) := by decide +kernel
theorem dX6_reduce_13 : decode cX6_reduce 13 = .ok (.sipush 300, 3) := by decide +kernel
theorem dX6_reduce_16 : decode cX6_reduce 16 = .ok (.if_icmp .ge 50, 3) := by decide +kernel
theorem dX6_reduce_19 : decode cX6_reduce 19 = .ok (.aload_n 2, 1) := by decide +kernel
theorem dX6_reduce_20 : decode cX6_reduce 20 = .ok (.iload_n 1, 1) := by decide +kernel
theorem dX6_reduce_21 : decode cX6_reduce 21 = .ok (.invokevirtual 119, 3) := by decide +kernel
theorem dX6_reduce_24 : decode cX6_reduce 24 = .ok (.ifCond .ne 42, 3) := by decide +kernel
theorem dX6_reduce_27 : decode cX6_reduce 27 = .ok (.aload_n 0, 1) := by decide +kernel
theorem dX6_reduce_28 : decode cX6_reduce 28 = .ok (.getfield 42, 3) := by decide +kernel
theorem dX6_reduce_31 : decode cX6_reduce 31 = .ok (.aload_n 2, 1) := by decide +kernel
theorem dX6_reduce_32 : decode cX6_reduce 32 = .ok (.aload_n 0, 1) := by decide +kernel
theorem dX6_reduce_33 : decode cX6_reduce 33 = .ok (.getfield 21, 3) := by decide +kernel
theorem dX6_reduce_36 : decode cX6_reduce 36 = .ok (.invokevirtual 193, 3) := by decide +kernel
theorem dX6_reduce_39 : decode cX6_reduce 39 = .ok (.aload_n 0, 1) := by decide +kernel
theorem dX6_reduce_40 : decode cX6_reduce 40 = .ok (.getfield 42, 3) := by decide +kernel
theorem dX6_reduce_43 : decode cX6_reduce 43 = .ok (.iload_n 1, 1) := by decide +kernel
theorem dX6_reduce_44 : decode cX6_reduce 44 = .ok (.invokevirtual 202, 3) := by decide +kernel
theorem dX6_reduce_47 : decode cX6_reduce 47 = .ok (.astore 4, 2) := by decide +kernel
theorem dX6_reduce_49 : decode cX6_reduce 49 = .ok (.aload 4, 2) := by decide +kernel
theorem dX6_reduce_51 : decode cX6_reduce 51 = .ok (.ifnonnull 6, 3) := by decide +kernel
theorem dX6_reduce_54 : decode cX6_reduce 54 = .ok (.goto 12, 3) := by decide +kernel
theorem dX6_reduce_57 : decode cX6_reduce 57 = .ok (.aload 4, 2) := by decide +kernel
theorem dX6_reduce_59 : decode cX6_reduce 59 = .ok (.astore_n 2, 1) := by decide +kernel
theorem dX6_reduce_60 : decode cX6_reduce 60 = .ok (.iinc 3 1, 3) := by decide +kernel
theorem dX6_reduce_63 : decode cX6_reduce 63 = .ok (.goto (-51), 3) := by decide +kernel
theorem dX6_reduce_66 : decode cX6_reduce 66 = .ok (.aload_n 0, 1) := by decide +kernel
theorem dX6_reduce_67 : decode cX6_reduce 67 = .ok (.aload_n 2, 1) := by decide +kernel
theorem dX6_reduce_68 : decode cX6_reduce 68 = .ok (.putfield 46, 3) := by decide +kernel
theorem dX6_reduce_71 : decode cX6_reduce 71 = .ok (.iload_n 3, 1) := by decide +kernel
theorem dX6_reduce_72 : decode cX6_reduce 72 = .ok (.ireturn, 1) := by decide +kernel
theorem dX6_digest_0 : decode cX6_digest 0 = .ok (.ldc2_w 205, 3) := by decide +kernel
theorem dX6_digest_3 : decode cX6_digest 3 = .ok (.lstore_n 1, 1) := by decide +kernel
theorem dX6_digest_4 : decode cX6_digest 4 = .ok (.lload_n 1, 1) := by decide +kernel
theorem dX6_digest_5 : decode cX6_digest 5 = .ok (.ldc2_w 207, 3) := by decide +kernel
theorem dX6_digest_8 : decode cX6_digest 8 = .ok (.lmul, 1) := by decide +kernel
theorem dX6_digest_9 : decode cX6_digest 9 = .ok (.aload_n 0, 1) := by decide +kernel
theorem dX6_digest_10 : decode cX6_digest 10 = .ok (.getfield 10, 3) := by decide +kernel
theorem dX6_digest_13 : decode cX6_digest 13 = .ok (.getfield 57, 3) := by decide +kernel
theorem dX6_digest_16 : decode cX6_digest 16 = .ok (.i2l, 1) := by decide +kernel
theorem dX6_digest_17 : decode cX6_digest 17 = .ok (.ladd, 1) := by decide +kernel
theorem dX6_digest_18 : decode cX6_digest 18 = .ok (.lstore_n 1, 1) := by decide +kernel
theorem dX6_digest_19 : decode cX6_digest 19 = .ok (.lload_n 1, 1) := by decide +kernel
theorem dX6_digest_20 : decode cX6_digest 20 = .ok (.ldc2_w 207, 3) := by decide +kernel
theorem dX6_digest_23 : decode cX6_digest 23 = .ok (.lmul, 1) := by decide +kernel
theorem dX6_digest_24 : decode cX6_digest 24 = .ok (.aload_n 0, 1) := by decide +kernel
theorem dX6_digest_25 : decode cX6_digest 25 = .ok (.getfield 10, 3) := by decide +kernel
theorem dX6_digest_28 : decode cX6_digest 28 = .ok (.getfield 61, 3) := by decide +kernel
theorem dX6_digest_31 : decode cX6_digest 31 = .ok (.i2l, 1) := by decide +kernel
theorem dX6_digest_32 : decode cX6_digest 32 = .ok (.ladd, 1) := by decide +kernel
theorem dX6_digest_33 : decode cX6_digest 33 = .ok (.lstore_n 1, 1) := by decide +kernel
theorem dX6_digest_34 : decode cX6_digest 34 = .ok (.lload_n 1, 1) := by decide +kernel
theorem dX6_digest_35 : decode cX6_digest 35 = .ok (.ldc2_w 207, 3) := by decide +kernel
theorem dX6_digest_38 : decode cX6_digest 38 = .ok (.lmul, 1) := by decide +kernel
theorem dX6_digest_39 : decode cX6_digest 39 = .ok (.aload_n 0, 1) := by decide +kernel
theorem dX6_digest_40 : decode cX6_digest 40 = .ok (.getfield 10, 3) := by decide +kernel
theorem dX6_digest_43 : decode cX6_digest 43 = .ok (.getfield 67, 3) := by decide +kernel
theorem dX6_digest_46 : decode cX6_digest 46 = .ok (.i2l, 1) := by decide +kernel
theorem dX6_digest_47 : decode cX6_digest 47 = .ok (.ladd, 1) := by decide +kernel
theorem dX6_digest_48 : decode cX6_digest 48 = .ok (.lstore_n 1, 1) := by decide +kernel
theorem dX6_digest_49 : decode cX6_digest 49 = .ok (.lload_n 1, 1) := by decide +kernel
theorem dX6_digest_50 : decode cX6_digest 50 = .ok (.ldc2_w 207, 3) := by decide +kernel
theorem dX6_digest_53 : decode cX6_digest 53 = .ok (.lmul, 1) := by decide +kernel
theorem dX6_digest_54 : decode cX6_digest 54 = .ok (.aload_n 0, 1) := by decide +kernel
theorem dX6_digest_55 : decode cX6_digest 55 = .ok (.getfield 10, 3) := by decide +kernel
theorem dX6_digest_58 : decode cX6_digest 58 = .ok (.getfield 87, 3) := by decide +kernel
theorem dX6_digest_61 : decode cX6_digest 61 = .ok (.i2l, 1) := by decide +kernel
theorem dX6_digest_62 : decode cX6_digest 62 = .ok (.ladd, 1) := by decide +kernel
theorem dX6_digest_63 : decode cX6_digest 63 = .ok (.lstore_n 1, 1) := by decide +kernel
theorem dX6_digest_64 : decode cX6_digest 64 = .ok (.iconst 0, 1) := by decide +kernel
theorem dX6_digest_65 : decode cX6_digest 65 = .ok (.istore_n 3, 1) := by decide +kernel
theorem dX6_digest_66 : decode cX6_digest 66 = .ok (.iload_n 3, 1) := by decide +kernel
theorem dX6_digest_67 : decode cX6_digest 67 = .ok (.aload_n 0, 1) := by decide +kernel
theorem dX6_digest_68 : decode cX6_digest 68 = .ok (.getfield 10, 3) := by decide +kernel
theorem dX6_digest_71 : decode cX6_digest 71 = .ok (.getfield 87, 3) := by decide +kernel
theorem dX6_digest_74 : decode cX6_digest 74 = .ok (.if_icmp .ge 74, 3) := by decide +kernel
theorem dX6_digest_77 : decode cX6_digest 77 = .ok (.lload_n 1, 1) := by decide +kernel
theorem dX6_digest_78 : decode cX6_digest 78 = .ok (.ldc2_w 207, 3) := by decide +kernel
theorem dX6_digest_81 : decode cX6_digest 81 = .ok (.lmul, 1) := by decide +kernel
theorem dX6_digest_82 : decode cX6_digest 82 = .ok (.aload_n 0, 1) := by decide +kernel
theorem dX6_digest_83 : decode cX6_digest 83 = .ok (.getfield 10, 3) := by decide +kernel
theorem dX6_digest_86 : decode cX6_digest 86 = .ok (.iload_n 3, 1) := by decide +kernel
theorem dX6_digest_87 : decode cX6_digest 87 = .ok (.invokevirtual 209, 3) := by decide +kernel
theorem dX6_digest_90 : decode cX6_digest 90 = .ok (.i2l, 1) := by decide +kernel
theorem dX6_digest_91 : decode cX6_digest 91 = .ok (.ladd, 1) := by decide +kernel
theorem dX6_digest_92 : decode cX6_digest 92 = .ok (.lstore_n 1, 1) := by decide +kernel
theorem dX6_digest_93 : decode cX6_digest 93 = .ok (.iconst 0, 1) := by decide +kernel
theorem dX6_digest_94 : decode cX6_digest 94 = .ok (.istore 4, 2) := by decide +kernel
theorem dX6_digest_96 : decode cX6_digest 96 = .ok (.iload 4, 2) := by decide +kernel
theorem dX6_digest_98 : decode cX6_digest 98 = .ok (.iconst 3, 1) := by decide +kernel
theorem dX6_digest_99 : decode cX6_digest 99 = .ok (.if_icmp .ge 27, 3) := by decide +kernel
theorem dX6_digest_102 : decode cX6_digest 102 = .ok (.lload_n 1, 1) := by decide +kernel
theorem dX6_digest_103 : decode cX6_digest 103 = .ok (.ldc2_w 207, 3) := by decide +kernel
theorem dX6_digest_106 : decode cX6_digest 106 = .ok (.lmul, 1) := by decide +kernel
theorem dX6_digest_107 : decode cX6_digest 107 = .ok (.aload_n 0, 1) := by decide +kernel
theorem dX6_digest_108 : decode cX6_digest 108 = .ok (.getfield 10, 3) := by decide +kernel
theorem dX6_digest_111 : decode cX6_digest 111 = .ok (.iload_n 3, 1) := by decide +kernel
theorem dX6_digest_112 : decode cX6_digest 112 = .ok (.iload 4, 2) := by decide +kernel
theorem dX6_digest_114 : decode cX6_digest 114 = .ok (.invokevirtual 212, 3) := by decide +kernel
theorem dX6_digest_117 : decode cX6_digest 117 = .ok (.i2l, 1) := by decide +kernel
theorem dX6_digest_118 : decode cX6_digest 118 = .ok (.ladd, 1) := by decide +kernel
theorem dX6_digest_119 : decode cX6_digest 119 = .ok (.lstore_n 1, 1) := by decide +kernel
theorem dX6_digest_120 : decode cX6_digest 120 = .ok (.iinc 4 1, 3) := by decide +kernel
theorem dX6_digest_123 : decode cX6_digest 123 = .ok (.goto (-27), 3) := by decide +kernel
theorem dX6_digest_126 : decode cX6_digest 126 = .ok (.lload_n 1, 1) := by decide +kernel
theorem dX6_digest_127 : decode cX6_digest 127 = .ok (.ldc2_w 207, 3) := by decide +kernel
theorem dX6_digest_130 : decode cX6_digest 130 = .ok (.lmul, 1) := by decide +kernel
theorem dX6_digest_131 : decode cX6_digest 131 = .ok (.aload_n 0, 1) := by decide +kernel
theorem dX6_digest_132 : decode cX6_digest 132 = .ok (.getfield 10, 3) := by decide +kernel
theorem dX6_digest_135 : decode cX6_digest 135 = .ok (.iload_n 3, 1) := by decide +kernel
theorem dX6_digest_136 : decode cX6_digest 136 = .ok (.invokevirtual 215, 3) := by decide +kernel
theorem dX6_digest_139 : decode cX6_digest 139 = .ok (.i2l, 1) := by decide +kernel
theorem dX6_digest_140 : decode cX6_digest 140 = .ok (.ladd, 1) := by decide +kernel
theorem dX6_digest_141 : decode cX6_digest 141 = .ok (.lstore_n 1, 1) := by decide +kernel
theorem dX6_digest_142 : decode cX6_digest 142 = .ok (.iinc 3 1, 3) := by decide +kernel
theorem dX6_digest_145 : decode cX6_digest 145 = .ok (.goto (-79), 3) := by decide +kernel
theorem dX6_digest_148 : decode cX6_digest 148 = .ok (.lload_n 1, 1) := by decide +kernel
theorem dX6_digest_149 : decode cX6_digest 149 = .ok (.ldc2_w 207, 3) := by decide +kernel
theorem dX6_digest_152 : decode cX6_digest 152 = .ok (.lmul, 1) := by decide +kernel
theorem dX6_digest_153 : decode cX6_digest 153 = .ok (.aload_n 0, 1) := by decide +kernel
theorem dX6_digest_154 : decode cX6_digest 154 = .ok (.getfield 28, 3) := by decide +kernel
theorem dX6_digest_157 : decode cX6_digest 157 = .ok (.getfield 146, 3) := by decide +kernel
theorem dX6_digest_160 : decode cX6_digest 160 = .ok (.i2l, 1) := by decide +kernel
theorem dX6_digest_161 : decode cX6_digest 161 = .ok (.ladd, 1) := by decide +kernel
theorem dX6_digest_162 : decode cX6_digest 162 = .ok (.lstore_n 1, 1) := by decide +kernel
theorem dX6_digest_163 : decode cX6_digest 163 = .ok (.aload_n 0, 1) := by decide +kernel
theorem dX6_digest_164 : decode cX6_digest 164 = .ok (.getfield 46, 3) := by decide +kernel
theorem dX6_digest_167 : decode cX6_digest 167 = .ok (.ifnull 49, 3) := by decide +kernel
theorem dX6_digest_170 : decode cX6_digest 170 = .ok (.aload_n 0, 1) := by decide +kernel
theorem dX6_digest_171 : decode cX6_digest 171 = .ok (.getfield 35, 3) := by decide +kernel
theorem dX6_digest_174 : decode cX6_digest 174 = .ok (.aload_n 0, 1) := by decide +kernel
theorem dX6_digest_175 : decode cX6_digest 175 = .ok (.getfield 46, 3) := by decide +kernel
theorem dX6_digest_178 : decode cX6_digest 178 = .ok (.invokevirtual 176, 3) := by decide +kernel
theorem dX6_digest_181 : decode cX6_digest 181 = .ok (.iconst 0, 1) := by decide +kernel
theorem dX6_digest_182 : decode cX6_digest 182 = .ok (.istore_n 3, 1) := by decide +kernel
theorem dX6_digest_183 : decode cX6_digest 183 = .ok (.iload_n 3, 1) := by decide +kernel
theorem dX6_digest_184 : decode cX6_digest 184 = .ok (.aload_n 0, 1) := by decide +kernel
theorem dX6_digest_185 : decode cX6_digest 185 = .ok (.getfield 35, 3) := by decide +kernel
theorem dX6_digest_188 : decode cX6_digest 188 = .ok (.getfield 218, 3) := by decide +kernel
theorem dX6_digest_191 : decode cX6_digest 191 = .ok (.if_icmp .ge 25, 3) := by decide +kernel
theorem dX6_digest_194 : decode cX6_digest 194 = .ok (.lload_n 1, 1) := by decide +kernel
theorem dX6_digest_195 : decode cX6_digest 195 = .ok (.ldc2_w 207, 3) := by decide +kernel
theorem dX6_digest_198 : decode cX6_digest 198 = .ok (.lmul, 1) := by decide +kernel
theorem dX6_digest_199 : decode cX6_digest 199 = .ok (.aload_n 0, 1) := by decide +kernel
theorem dX6_digest_200 : decode cX6_digest 200 = .ok (.getfield 35, 3) := by decide +kernel
theorem dX6_digest_203 : decode cX6_digest 203 = .ok (.iload_n 3, 1) := by decide +kernel
theorem dX6_digest_204 : decode cX6_digest 204 = .ok (.invokevirtual 180, 3) := by decide +kernel
theorem dX6_digest_207 : decode cX6_digest 207 = .ok (.i2l, 1) := by decide +kernel
theorem dX6_digest_208 : decode cX6_digest 208 = .ok (.ladd, 1) := by decide +kernel
theorem dX6_digest_209 : decode cX6_digest 209 = .ok (.lstore_n 1, 1) := by decide +kernel
theorem dX6_digest_210 : decode cX6_digest 210 = .ok (.iinc 3 1, 3) := by decide +kernel
theorem dX6_digest_213 : decode cX6_digest 213 = .ok (.goto (-30), 3) := by decide +kernel
theorem dX6_digest_216 : decode cX6_digest 216 = .ok (.lload_n 1, 1) := by decide +kernel
theorem dX6_digest_217 : decode cX6_digest 217 = .ok (.lreturn, 1) := by decide +kernel
theorem dX6_forgetValues_0 : decode cX6_forgetValues 0 = .ok (.aload_n 0, 1) := by decide +kernel
theorem dX6_forgetValues_1 : decode cX6_forgetValues 1 = .ok (.getfield 21, 3) := by decide +kernel
theorem dX6_forgetValues_4 : decode cX6_forgetValues 4 = .ok (.iconst 0, 1) := by decide +kernel
theorem dX6_forgetValues_5 : decode cX6_forgetValues 5 = .ok (.putfield 219, 3) := by decide +kernel
theorem dX6_forgetValues_8 : decode cX6_forgetValues 8 = .ok (.aload_n 0, 1) := by decide +kernel
theorem dX6_forgetValues_9 : decode cX6_forgetValues 9 = .ok (.aconst_null, 1) := by decide +kernel
theorem dX6_forgetValues_10 : decode cX6_forgetValues 10 = .ok (.putfield 46, 3) := by decide +kernel
theorem dX6_forgetValues_13 : decode cX6_forgetValues 13 = .ok (.return_, 1) := by decide +kernel
theorem dX6_chosen_0 : decode cX6_chosen 0 = .ok (.aload_n 0, 1) := by decide +kernel
theorem dX6_chosen_1 : decode cX6_chosen 1 = .ok (.getfield 46, 3) := by decide +kernel
theorem dX6_chosen_4 : decode cX6_chosen 4 = .ok (.ifnonnull 13, 3) := by decide +kernel
theorem dX6_chosen_7 : decode cX6_chosen 7 = .ok (.new 70, 3) := by decide +kernel
theorem dX6_chosen_10 : decode cX6_chosen 10 = .ok (.dup, 1) := by decide +kernel
theorem dX6_chosen_11 : decode cX6_chosen 11 = .ok (.ldc 223, 2) := by decide +kernel
theorem dX6_chosen_13 : decode cX6_chosen 13 = .ok (.invokespecial 74, 3) := by decide +kernel
theorem dX6_chosen_16 : decode cX6_chosen 16 = .ok (.athrow, 1) := by decide +kernel
theorem dX6_chosen_17 : decode cX6_chosen 17 = .ok (.aload_n 0, 1) := by decide +kernel
theorem dX6_chosen_18 : decode cX6_chosen 18 = .ok (.getfield 46, 3) := by decide +kernel
theorem dX6_chosen_21 : decode cX6_chosen 21 = .ok (.areturn, 1) := by decide +kernel
theorem dX6_requireType_0 : decode cX6_requireType 0 = .ok (.aload_n 0, 1) := by decide +kernel
theorem dX6_requireType_1 : decode cX6_requireType 1 = .ok (.getfield 10, 3) := by decide +kernel
theorem dX6_requireType_4 : decode cX6_requireType 4 = .ok (.iload_n 1, 1) := by decide +kernel
theorem dX6_requireType_5 : decode cX6_requireType 5 = .ok (.invokevirtual 225, 3) := by decide +kernel
theorem dX6_requireType_8 : decode cX6_requireType 8 = .ok (.ifCond .ne 13, 3) := by decide +kernel
theorem dX6_requireType_11 : decode cX6_requireType 11 = .ok (.new 125, 3) := by decide +kernel
theorem dX6_requireType_14 : decode cX6_requireType 14 = .ok (.dup, 1) := by decide +kernel
theorem dX6_requireType_15 : decode cX6_requireType 15 = .ok (.ldc 228, 2) := by decide +kernel
theorem dX6_requireType_17 : decode cX6_requireType 17 = .ok (.invokespecial 129, 3) := by decide +kernel
theorem dX6_requireType_20 : decode cX6_requireType 20 = .ok (.athrow, 1) := by decide +kernel
theorem dX6_requireType_21 : decode cX6_requireType 21 = .ok (.return_, 1) := by decide +kernel
theorem dX6_requireProperty_0 : decode cX6_requireProperty 0 = .ok (.iload_n 1, 1) := by decide +kernel
theorem dX6_requireProperty_1 : decode cX6_requireProperty 1 = .ok (.iconst 1, 1) := by decide +kernel
theorem dX6_requireProperty_2 : decode cX6_requireProperty 2 = .ok (.if_icmp .lt 8, 3) := by decide +kernel
theorem dX6_requireProperty_5 : decode cX6_requireProperty 5 = .ok (.iload_n 1, 1) := by decide +kernel
theorem dX6_requireProperty_6 : decode cX6_requireProperty 6 = .ok (.iconst 5, 1) := by decide +kernel
theorem dX6_requireProperty_7 : decode cX6_requireProperty 7 = .ok (.if_icmp .le 13, 3) := by decide +kernel
theorem dX6_requireProperty_10 : decode cX6_requireProperty 10 = .ok (.new 50, 3) := by decide +kernel
theorem dX6_requireProperty_13 : decode cX6_requireProperty 13 = .ok (.dup, 1) := by decide +kernel
theorem dX6_requireProperty_14 : decode cX6_requireProperty 14 = .ok (.ldc 230, 2) := by decide +kernel
theorem dX6_requireProperty_16 : decode cX6_requireProperty 16 = .ok (.invokespecial 54, 3) := by decide +kernel
theorem dX6_requireProperty_19 : decode cX6_requireProperty 19 = .ok (.athrow, 1) := by decide +kernel
theorem dX6_requireProperty_20 : decode cX6_requireProperty 20 = .ok (.return_, 1) := by decide +kernel
theorem dX6_requireSize_0 : decode cX6_requireSize 0 = .ok (.iload_n 1, 1) := by decide +kernel
theorem dX6_requireSize_1 : decode cX6_requireSize 1 = .ok (.iconst 1, 1) := by decide +kernel
theorem dX6_requireSize_2 : decode cX6_requireSize 2 = .ok (.if_icmp .lt 9, 3) := by decide +kernel
theorem dX6_requireSize_5 : decode cX6_requireSize 5 = .ok (.iload_n 1, 1) := by decide +kernel
theorem dX6_requireSize_6 : decode cX6_requireSize 6 = .ok (.bipush 8, 2) := by decide +kernel
theorem dX6_requireSize_8 : decode cX6_requireSize 8 = .ok (.if_icmp .le 13, 3) := by decide +kernel
theorem dX6_requireSize_11 : decode cX6_requireSize 11 = .ok (.new 50, 3) := by decide +kernel
theorem dX6_requireSize_14 : decode cX6_requireSize 14 = .ok (.dup, 1) := by decide +kernel
theorem dX6_requireSize_15 : decode cX6_requireSize 15 = .ok (.ldc 232, 2) := by decide +kernel
theorem dX6_requireSize_17 : decode cX6_requireSize 17 = .ok (.invokespecial 54, 3) := by decide +kernel
theorem dX6_requireSize_20 : decode cX6_requireSize 20 = .ok (.athrow, 1) := by decide +kernel
theorem dX6_requireSize_21 : decode cX6_requireSize 21 = .ok (.return_, 1) := by decide +kernel
theorem dX6_requireKnown_0 : decode cX6_requireKnown 0 = .ok (.aload_n 0, 1) := by decide +kernel
theorem dX6_requireKnown_1 : decode cX6_requireKnown 1 = .ok (.getfield 21, 3) := by decide +kernel
theorem dX6_requireKnown_4 : decode cX6_requireKnown 4 = .ok (.invokevirtual 96, 3) := by decide +kernel
theorem dX6_requireKnown_7 : decode cX6_requireKnown 7 = .ok (.iload_n 1, 1) := by decide +kernel
theorem dX6_requireKnown_8 : decode cX6_requireKnown 8 = .ok (.aload_n 0, 1) := by decide +kernel
theorem dX6_requireKnown_9 : decode cX6_requireKnown 9 = .ok (.getfield 21, 3) := by decide +kernel
theorem dX6_requireKnown_12 : decode cX6_requireKnown 12 = .ok (.getfield 99, 3) := by decide +kernel
theorem dX6_requireKnown_15 : decode cX6_requireKnown 15 = .ok (.if_icmp .le 13, 3) := by decide +kernel
theorem dX6_requireKnown_18 : decode cX6_requireKnown 18 = .ok (.new 70, 3) := by decide +kernel
theorem dX6_requireKnown_21 : decode cX6_requireKnown 21 = .ok (.dup, 1) := by decide +kernel
theorem dX6_requireKnown_22 : decode cX6_requireKnown 22 = .ok (.ldc 234, 2) := by decide +kernel
theorem dX6_requireKnown_24 : decode cX6_requireKnown 24 = .ok (.invokespecial 74, 3) := by decide +kernel
theorem dX6_requireKnown_27 : decode cX6_requireKnown 27 = .ok (.athrow, 1) := by decide +kernel
theorem dX6_requireKnown_28 : decode cX6_requireKnown 28 = .ok (.return_, 1) := by decide +kernel
theorem dX7_init_0 : decode cX7_init 0 = .ok (.aload_n 0, 1) := by decide +kernel
theorem dX7_init_1 : decode cX7_init 1 = .ok (.invokespecial 1, 3) := by decide +kernel
theorem dX7_init_4 : decode cX7_init 4 = .ok (.aload_n 0, 1) := by decide +kernel
theorem dX7_init_5 : decode cX7_init 5 = .ok (.iconst 2, 1) := by decide +kernel
theorem dX7_init_6 : decode cX7_init 6 = .ok (.putfield 7, 3) := by decide +kernel
theorem dX7_init_9 : decode cX7_init 9 = .ok (.aload_n 0, 1) := by decide +kernel
theorem dX7_init_10 : decode cX7_init 10 = .ok (.bipush 6, 2) := by decide +kernel
theorem dX7_init_12 : decode cX7_init 12 = .ok (.newarray .int, 2) := by decide +kernel
theorem dX7_init_14 : decode cX7_init 14 = .ok (.putfield 13, 3) := by decide +kernel
theorem dX7_init_17 : decode cX7_init 17 = .ok (.aload_n 0, 1) := by decide +kernel
theorem dX7_init_18 : decode cX7_init 18 = .ok (.bipush 18, 2) := by decide +kernel
theorem dX7_init_20 : decode cX7_init 20 = .ok (.newarray .int, 2) := by decide +kernel
theorem dX7_init_22 : decode cX7_init 22 = .ok (.putfield 17, 3) := by decide +kernel
theorem dX7_init_25 : decode cX7_init 25 = .ok (.aload_n 0, 1) := by decide +kernel
theorem dX7_init_26 : decode cX7_init 26 = .ok (.bipush 6, 2) := by decide +kernel
theorem dX7_init_28 : decode cX7_init 28 = .ok (.newarray .int, 2) := by decide +kernel
theorem dX7_init_30 : decode cX7_init 30 = .ok (.putfield 20, 3) := by decide +kernel
theorem dX7_init_33 : decode cX7_init 33 = .ok (.aload_n 0, 1) := by decide +kernel
theorem dX7_init_34 : decode cX7_init 34 = .ok (.bipush 40, 2) := by decide +kernel
theorem dX7_init_36 : decode cX7_init 36 = .ok (.newarray .int, 2) := by decide +kernel
theorem dX7_init_38 : decode cX7_init 38 = .ok (.putfield 23, 3) := by decide +kernel
theorem dX7_init_41 : decode cX7_init 41 = .ok (.aload_n 0, 1) := by decide +kernel
theorem dX7_init_42 : decode cX7_init 42 = .ok (.iconst (-1), 1) := by decide +kernel
theorem dX7_init_43 : decode cX7_init 43 = .ok (.putfield 26, 3) := by decide +kernel
theorem dX7_init_46 : decode cX7_init 46 = .ok (.aload_n 0, 1) := by decide +kernel
theorem dX7_init_47 : decode cX7_init 47 = .ok (.sipush 300, 3) := by decide +kernel
theorem dX7_init_50 : decode cX7_init 50 = .ok (.anewarray 29, 3) := by decide +kernel
theorem dX7_init_53 : decode cX7_init 53 = .ok (.putfield 30, 3) := by decide +kernel
theorem dX7_init_56 : decode cX7_init 56 = .ok (.aload_n 0, 1) := by decide +kernel
theorem dX7_init_57 : decode cX7_init 57 = .ok (.sipush 300, 3) := by decide +kernel
theorem dX7_init_60 : decode cX7_init 60 = .ok (.newarray .int, 2) := by decide +kernel
theorem dX7_init_62 : decode cX7_init 62 = .ok (.putfield 34, 3) := by decide +kernel
theorem dX7_init_65 : decode cX7_init 65 = .ok (.aload_n 0, 1) := by decide +kernel
theorem dX7_init_66 : decode cX7_init 66 = .ok (.sipush 300, 3) := by decide +kernel
theorem dX7_init_69 : decode cX7_init 69 = .ok (.newarray .int, 2) := by decide +kernel
theorem dX7_init_71 : decode cX7_init 71 = .ok (.putfield 37, 3) := by decide +kernel
theorem dX7_init_74 : decode cX7_init 74 = .ok (.aload_n 0, 1) := by decide +kernel
theorem dX7_init_75 : decode cX7_init 75 = .ok (.iconst 4, 1) := by decide +kernel
theorem dX7_init_76 : decode cX7_init 76 = .ok (.newarray .int, 2) := by decide +kernel
theorem dX7_init_78 : decode cX7_init 78 = .ok (.putfield 40, 3) := by decide +kernel
theorem dX7_init_81 : decode cX7_init 81 = .ok (.aload_n 0, 1) := by decide +kernel
theorem dX7_init_82 : decode cX7_init 82 = .ok (.sipush 1200, 3) := by decide +kernel
theorem dX7_init_85 : decode cX7_init 85 = .ok (.newarray .int, 2) := by decide +kernel
theorem dX7_init_87 : decode cX7_init 87 = .ok (.putfield 43, 3) := by decide +kernel
theorem dX7_init_90 : decode cX7_init 90 = .ok (.aload_n 0, 1) := by decide +kernel
theorem dX7_init_91 : decode cX7_init 91 = .ok (.bipush 40, 2) := by decide +kernel
theorem dX7_init_93 : decode cX7_init 93 = .ok (.newarray .int, 2) := by decide +kernel
theorem dX7_init_95 : decode cX7_init 95 = .ok (.putfield 46, 3) := by decide +kernel
theorem dX7_init_98 : decode cX7_init 98 = .ok (.aload_n 0, 1) := by decide +kernel
theorem dX7_init_99 : decode cX7_init 99 = .ok (.sipush 1200, 3) := by decide +kernel
theorem dX7_init_102 : decode cX7_init 102 = .ok (.newarray .int, 2) := by decide +kernel
theorem dX7_init_104 : decode cX7_init 104 = .ok (.putfield 49, 3) := by decide +kernel
theorem dX7_init_107 : decode cX7_init 107 = .ok (.return_, 1) := by decide +kernel
theorem dX7_thrown_0 : decode cX7_thrown 0 = .ok (.aload_n 0, 1) := by decide +kernel
theorem dX7_thrown_1 : decode cX7_thrown 1 = .ok (.getfield 52, 3) := by decide +kernel
theorem dX7_thrown_4 : decode cX7_thrown 4 = .ok (.ireturn, 1) := by decide +kernel
theorem dX7_fail_0 : decode cX7_fail 0 = .ok (.aload_n 0, 1) := by decide +kernel
theorem dX7_fail_1 : decode cX7_fail 1 = .ok (.iload_n 1, 1) := by decide +kernel
theorem dX7_fail_2 : decode cX7_fail 2 = .ok (.putfield 52, 3) := by decide +kernel
theorem dX7_fail_5 : decode cX7_fail 5 = .ok (.iconst 0, 1) := by decide +kernel
theorem dX7_fail_6 : decode cX7_fail 6 = .ok (.ireturn, 1) := by decide +kernel
theorem dX7_isIn_0 : decode cX7_isIn 0 = .ok (.iload_n 0, 1) := by decide +kernel
theorem dX7_isIn_1 : decode cX7_isIn 1 = .ok (.iload_n 1, 1) := by decide +kernel
theorem dX7_isIn_2 : decode cX7_isIn 2 = .ok (.if_icmp .lt 12, 3) := by decide +kernel
theorem dX7_isIn_5 : decode cX7_isIn 5 = .ok (.iload_n 0, 1) := by decide +kernel
theorem dX7_isIn_6 : decode cX7_isIn 6 = .ok (.iload_n 2, 1) := by decide +kernel
theorem dX7_isIn_7 : decode cX7_isIn 7 = .ok (.if_icmp .gt 7, 3) := by decide +kernel
theorem dX7_isIn_10 : decode cX7_isIn 10 = .ok (.iconst 1, 1) := by decide +kernel
theorem dX7_isIn_11 : decode cX7_isIn 11 = .ok (.goto 4, 3) := by decide +kernel
theorem dX7_isIn_14 : decode cX7_isIn 14 = .ok (.iconst 0, 1) := by decide +kernel
theorem dX7_isIn_15 : decode cX7_isIn 15 = .ok (.ireturn, 1) := by decide +kernel
theorem dX7_isType_0 : decode cX7_isType 0 = .ok (.iload_n 1, 1) := by decide +kernel
theorem dX7_isType_1 : decode cX7_isType 1 = .ok (.iconst 0, 1) := by decide +kernel
theorem dX7_isType_2 : decode cX7_isType 2 = .ok (.aload_n 0, 1) := by decide +kernel
theorem dX7_isType_3 : decode cX7_isType 3 = .ok (.getfield 55, 3) := by decide +kernel
theorem dX7_isType_6 : decode cX7_isType 6 = .ok (.iconst 1, 1) := by decide +kernel
theorem dX7_isType_7 : decode cX7_isType 7 = .ok (.isub, 1) := by decide +kernel
theorem dX7_isType_8 : decode cX7_isType 8 = .ok (.invokestatic 58, 3) := by decide +kernel
theorem dX7_isType_11 : decode cX7_isType 11 = .ok (.ireturn, 1) := by decide +kernel
theorem dX7_change_0 : decode cX7_change 0 = .ok (.aload_n 0, 1) := by decide +kernel
theorem dX7_change_1 : decode cX7_change 1 = .ok (.iconst 0, 1) := by decide +kernel
theorem dX7_change_2 : decode cX7_change 2 = .ok (.putfield 62, 3) := by decide +kernel
theorem dX7_change_5 : decode cX7_change 5 = .ok (.aload_n 0, 1) := by decide +kernel
theorem dX7_change_6 : decode cX7_change 6 = .ok (.iconst (-1), 1) := by decide +kernel
theorem dX7_change_7 : decode cX7_change 7 = .ok (.putfield 26, 3) := by decide +kernel
theorem dX7_change_10 : decode cX7_change 10 = .ok (.return_, 1) := by decide +kernel
theorem dX7_setRange_0 : decode cX7_setRange 0 = .ok (.aload_n 0, 1) := by decide +kernel
theorem dX7_setRange_1 : decode cX7_setRange 1 = .ok (.iload_n 1, 1) := by decide +kernel
theorem dX7_setRange_2 : decode cX7_setRange 2 = .ok (.ifCond .lt 13, 3) := by decide +kernel
theorem dX7_setRange_5 : decode cX7_setRange 5 = .ok (.iload_n 2, 1) := by decide +kernel
theorem dX7_setRange_6 : decode cX7_setRange 6 = .ok (.iconst 5, 1) := by decide +kernel
theorem dX7_setRange_7 : decode cX7_setRange 7 = .ok (.if_icmp .gt 8, 3) := by decide +kernel
theorem dX7_setRange_10 : decode cX7_setRange 10 = .ok (.iload_n 1, 1) := by decide +kernel
theorem dX7_setRange_11 : decode cX7_setRange 11 = .ok (.iload_n 2, 1) := by decide +kernel
theorem dX7_setRange_12 : decode cX7_setRange 12 = .ok (.if_icmp .le 7, 3) := by decide +kernel
theorem dX7_setRange_15 : decode cX7_setRange 15 = .ok (.iconst 1, 1) := by decide +kernel
theorem dX7_setRange_16 : decode cX7_setRange 16 = .ok (.goto 4, 3) := by decide +kernel
theorem dX7_setRange_19 : decode cX7_setRange 19 = .ok (.iconst 0, 1) := by decide +kernel
theorem dX7_setRange_20 : decode cX7_setRange 20 = .ok (.putfield 52, 3) := by decide +kernel
theorem dX7_setRange_23 : decode cX7_setRange 23 = .ok (.aload_n 0, 1) := by decide +kernel
theorem dX7_setRange_24 : decode cX7_setRange 24 = .ok (.getfield 52, 3) := by decide +kernel
theorem dX7_setRange_27 : decode cX7_setRange 27 = .ok (.ifCond .eq 5, 3) := by decide +kernel
theorem dX7_setRange_30 : decode cX7_setRange 30 = .ok (.iconst 0, 1) := by decide +kernel
theorem dX7_setRange_31 : decode cX7_setRange 31 = .ok (.ireturn, 1) := by decide +kernel
theorem dX7_setRange_32 : decode cX7_setRange 32 = .ok (.aload_n 0, 1) := by decide +kernel
theorem dX7_setRange_33 : decode cX7_setRange 33 = .ok (.getfield 66, 3) := by decide +kernel
theorem dX7_setRange_36 : decode cX7_setRange 36 = .ok (.iload_n 1, 1) := by decide +kernel
theorem dX7_setRange_37 : decode cX7_setRange 37 = .ok (.if_icmp .ne 11, 3) := by decide +kernel
theorem dX7_setRange_40 : decode cX7_setRange 40 = .ok (.aload_n 0, 1) := by decide +kernel
theorem dX7_setRange_41 : decode cX7_setRange 41 = .ok (.getfield 7, 3) := by decide +kernel
theorem dX7_setRange_44 : decode cX7_setRange 44 = .ok (.iload_n 2, 1) := by decide +kernel
theorem dX7_setRange_45 : decode cX7_setRange 45 = .ok (.if_icmp .eq 7, 3) := by decide +kernel
theorem dX7_setRange_48 : decode cX7_setRange 48 = .ok (.iconst 1, 1) := by decide +kernel
theorem dX7_setRange_49 : decode cX7_setRange 49 = .ok (.goto 4, 3) := by decide +kernel
theorem dX7_setRange_52 : decode cX7_setRange 52 = .ok (.iconst 0, 1) := by decide +kernel
theorem dX7_setRange_53 : decode cX7_setRange 53 = .ok (.istore_n 3, 1) := by decide +kernel
theorem dX7_setRange_54 : decode cX7_setRange 54 = .ok (.aload_n 0, 1) := by decide +kernel
theorem dX7_setRange_55 : decode cX7_setRange 55 = .ok (.iload_n 1, 1) := by decide +kernel
theorem dX7_setRange_56 : decode cX7_setRange 56 = .ok (.putfield 66, 3) := by decide +kernel
theorem dX7_setRange_59 : decode cX7_setRange 59 = .ok (.aload_n 0, 1) := by decide +kernel
theorem dX7_setRange_60 : decode cX7_setRange 60 = .ok (.iload_n 2, 1) := by decide +kernel
theorem dX7_setRange_61 : decode cX7_setRange 61 = .ok (.putfield 7, 3) := by decide +kernel
theorem dX7_setRange_64 : decode cX7_setRange 64 = .ok (.aload_n 0, 1) := by decide +kernel
theorem dX7_setRange_65 : decode cX7_setRange 65 = .ok (.invokevirtual 69, 3) := by decide +kernel
theorem dX7_setRange_68 : decode cX7_setRange 68 = .ok (.iload_n 3, 1) := by decide +kernel
theorem dX7_setRange_69 : decode cX7_setRange 69 = .ok (.ireturn, 1) := by decide +kernel
theorem dX7_addType_0 : decode cX7_addType 0 = .ok (.aload_n 0, 1) := by decide +kernel
theorem dX7_addType_1 : decode cX7_addType 1 = .ok (.iconst 0, 1) := by decide +kernel
theorem dX7_addType_2 : decode cX7_addType 2 = .ok (.putfield 52, 3) := by decide +kernel
theorem dX7_addType_5 : decode cX7_addType 5 = .ok (.aload_n 0, 1) := by decide +kernel
theorem dX7_addType_6 : decode cX7_addType 6 = .ok (.getfield 55, 3) := by decide +kernel
theorem dX7_addType_9 : decode cX7_addType 9 = .ok (.iconst 4, 1) := by decide +kernel
theorem dX7_addType_10 : decode cX7_addType 10 = .ok (.if_icmp .ne 9, 3) := by decide +kernel
theorem dX7_addType_13 : decode cX7_addType 13 = .ok (.aload_n 0, 1) := by decide +kernel
theorem dX7_addType_14 : decode cX7_addType 14 = .ok (.iconst 1, 1) := by decide +kernel
theorem dX7_addType_15 : decode cX7_addType 15 = .ok (.invokevirtual 72, 3) := by decide +kernel
theorem dX7_addType_18 : decode cX7_addType 18 = .ok (.ireturn, 1) := by decide +kernel
theorem dX7_addType_19 : decode cX7_addType 19 = .ok (.aload_n 0, 1) := by decide +kernel
theorem dX7_addType_20 : decode cX7_addType 20 = .ok (.dup, 1) := by decide +kernel
theorem dX7_addType_21 : decode cX7_addType 21 = .ok (.getfield 55, 3) := by decide +kernel
theorem dX7_addType_24 : decode cX7_addType 24 = .ok (.iconst 1, 1) := by decide +kernel
theorem dX7_addType_25 : decode cX7_addType 25 = .ok (.iadd, 1) := by decide +kernel
theorem dX7_addType_26 : decode cX7_addType 26 = .ok (.putfield 55, 3) := by decide +kernel
theorem dX7_addType_29 : decode cX7_addType 29 = .ok (.aload_n 0, 1) := by decide +kernel
theorem dX7_addType_30 : decode cX7_addType 30 = .ok (.invokevirtual 69, 3) := by decide +kernel
theorem dX7_addType_33 : decode cX7_addType 33 = .ok (.aload_n 0, 1) := by decide +kernel
theorem dX7_addType_34 : decode cX7_addType 34 = .ok (.getfield 55, 3) := by decide +kernel
theorem dX7_addType_37 : decode cX7_addType 37 = .ok (.iconst 1, 1) := by decide +kernel
theorem dX7_addType_38 : decode cX7_addType 38 = .ok (.isub, 1) := by decide +kernel
theorem dX7_addType_39 : decode cX7_addType 39 = .ok (.ireturn, 1) := by decide +kernel
theorem dX7_addConstructor_0 : decode cX7_addConstructor 0 = .ok (.aload_n 0, 1) := by decide +kernel
theorem dX7_addConstructor_1 : decode cX7_addConstructor 1 = .ok (.iconst 0, 1) := by decide +kernel
theorem dX7_addConstructor_2 : decode cX7_addConstructor 2 = .ok (.putfield 52, 3) := by decide +kernel
theorem dX7_addConstructor_5 : decode cX7_addConstructor 5 = .ok (.aload_n 0, 1) := by decide +kernel
theorem dX7_addConstructor_6 : decode cX7_addConstructor 6 = .ok (.iload_n 1, 1) := by decide +kernel
theorem dX7_addConstructor_7 : decode cX7_addConstructor 7 = .ok (.invokevirtual 76, 3) := by decide +kernel
theorem dX7_addConstructor_10 : decode cX7_addConstructor 10 = .ok (.ifCond .ne 9, 3) := by decide +kernel
theorem dX7_addConstructor_13 : decode cX7_addConstructor 13 = .ok (.aload_n 0, 1) := by decide +kernel
theorem dX7_addConstructor_14 : decode cX7_addConstructor 14 = .ok (.iconst 1, 1) := by decide +kernel
theorem dX7_addConstructor_15 : decode cX7_addConstructor 15 = .ok (.invokevirtual 72, 3) := by decide +kernel
theorem dX7_addConstructor_18 : decode cX7_addConstructor 18 = .ok (.ireturn, 1) := by decide +kernel
theorem dX7_addConstructor_19 : decode cX7_addConstructor 19 = .ok (.iconst 3, 1) := by decide +kernel
theorem dX7_addConstructor_20 : decode cX7_addConstructor 20 = .ok (.newarray .int, 2) := by decide +kernel
theorem dX7_addConstructor_22 : decode cX7_addConstructor 22 = .ok (.dup, 1) := by decide +kernel
theorem dX7_addConstructor_23 : decode cX7_addConstructor 23 = .ok (.iconst 0, 1) := by decide +kernel
theorem dX7_addConstructor_24 : decode cX7_addConstructor 24 = .ok (.iload_n 2, 1) := by decide +kernel
theorem dX7_addConstructor_25 : decode cX7_addConstructor 25 = .ok (.iastore, 1) := by decide +kernel
theorem dX7_addConstructor_26 : decode cX7_addConstructor 26 = .ok (.dup, 1) := by decide +kernel
theorem dX7_addConstructor_27 : decode cX7_addConstructor 27 = .ok (.iconst 1, 1) := by decide +kernel
theorem dX7_addConstructor_28 : decode cX7_addConstructor 28 = .ok (.iload_n 3, 1) := by decide +kernel
theorem dX7_addConstructor_29 : decode cX7_addConstructor 29 = .ok (.iastore, 1) := by decide +kernel
theorem dX7_addConstructor_30 : decode cX7_addConstructor 30 = .ok (.dup, 1) := by decide +kernel
theorem dX7_addConstructor_31 : decode cX7_addConstructor 31 = .ok (.iconst 2, 1) := by decide +kernel
theorem dX7_addConstructor_32 : decode cX7_addConstructor 32 = .ok (.iload 4, 2) := by decide +kernel
theorem dX7_addConstructor_34 : decode cX7_addConstructor 34 = .ok (.iastore, 1) := by decide +kernel
theorem dX7_addConstructor_35 : decode cX7_addConstructor 35 = .ok (.astore 6, 2) := by decide +kernel
theorem dX7_addConstructor_37 : decode cX7_addConstructor 37 = .ok (.iconst 0, 1) := by decide +kernel
theorem dX7_addConstructor_38 : decode cX7_addConstructor 38 = .ok (.istore 7, 2) := by decide +kernel
theorem dX7_addConstructor_40 : decode cX7_addConstructor 40 = .ok (.iload 5, 2) := by decide +kernel
theorem dX7_addConstructor_42 : decode cX7_addConstructor 42 = .ok (.iconst 0, 1) := by decide +kernel
theorem dX7_addConstructor_43 : decode cX7_addConstructor 43 = .ok (.iconst 5, 1) := by decide +kernel
theorem dX7_addConstructor_44 : decode cX7_addConstructor 44 = .ok (.invokestatic 58, 3) := by decide +kernel
theorem dX7_addConstructor_47 : decode cX7_addConstructor 47 = .ok (.istore 8, 2) := by decide +kernel
theorem dX7_addConstructor_49 : decode cX7_addConstructor 49 = .ok (.iconst 0, 1) := by decide +kernel
theorem dX7_addConstructor_50 : decode cX7_addConstructor 50 = .ok (.istore 9, 2) := by decide +kernel
theorem dX7_addConstructor_52 : decode cX7_addConstructor 52 = .ok (.iload 9, 2) := by decide +kernel
theorem dX7_addConstructor_54 : decode cX7_addConstructor 54 = .ok (.iconst 3, 1) := by decide +kernel
theorem dX7_addConstructor_55 : decode cX7_addConstructor 55 = .ok (.if_icmp .ge 111, 3) := by decide +kernel
theorem dX7_addConstructor_58 : decode cX7_addConstructor 58 = .ok (.iload 8, 2) := by decide +kernel
theorem dX7_addConstructor_60 : decode cX7_addConstructor 60 = .ok (.ifCond .eq 38, 3) := by decide +kernel
theorem dX7_addConstructor_63 : decode cX7_addConstructor 63 = .ok (.aload_n 0, 1) := by decide +kernel
theorem dX7_addConstructor_64 : decode cX7_addConstructor 64 = .ok (.aload 6, 2) := by decide +kernel
theorem dX7_addConstructor_66 : decode cX7_addConstructor 66 = .ok (.iload 9, 2) := by decide +kernel
theorem dX7_addConstructor_68 : decode cX7_addConstructor 68 = .ok (.iaload, 1) := by decide +kernel
theorem dX7_addConstructor_69 : decode cX7_addConstructor 69 = .ok (.invokevirtual 76, 3) := by decide +kernel
theorem dX7_addConstructor_72 : decode cX7_addConstructor 72 = .ok (.ifCond .ne 22, 3) := by decide +kernel
theorem dX7_addConstructor_75 : decode cX7_addConstructor 75 = .ok (.aload 6, 2) := by decide +kernel
theorem dX7_addConstructor_77 : decode cX7_addConstructor 77 = .ok (.iload 9, 2) := by decide +kernel
theorem dX7_addConstructor_79 : decode cX7_addConstructor 79 = .ok (.iaload, 1) := by decide +kernel
theorem dX7_addConstructor_80 : decode cX7_addConstructor 80 = .ok (.bipush 9, 2) := by decide +kernel
theorem dX7_addConstructor_82 : decode cX7_addConstructor 82 = .ok (.if_icmp .eq 12, 3) := by decide +kernel
theorem dX7_addConstructor_85 : decode cX7_addConstructor 85 = .ok (.aload 6, 2) := by decide +kernel
theorem dX7_addConstructor_87 : decode cX7_addConstructor 87 = .ok (.iload 9, 2) := by decide +kernel
theorem dX7_addConstructor_89 : decode cX7_addConstructor 89 = .ok (.iaload, 1) := by decide +kernel
theorem dX7_addConstructor_90 : decode cX7_addConstructor 90 = .ok (.iconst (-1), 1) := by decide +kernel
theorem dX7_addConstructor_91 : decode cX7_addConstructor 91 = .ok (.if_icmp .ne 7, 3) := by decide +kernel
theorem dX7_addConstructor_94 : decode cX7_addConstructor 94 = .ok (.iconst 1, 1) := by decide +kernel
theorem dX7_addConstructor_95 : decode cX7_addConstructor 95 = .ok (.goto 4, 3) := by decide +kernel
theorem dX7_addConstructor_98 : decode cX7_addConstructor 98 = .ok (.iconst 0, 1) := by decide +kernel
theorem dX7_addConstructor_99 : decode cX7_addConstructor 99 = .ok (.istore 8, 2) := by decide +kernel
theorem dX7_addConstructor_101 : decode cX7_addConstructor 101 = .ok (.iload 8, 2) := by decide +kernel
theorem dX7_addConstructor_103 : decode cX7_addConstructor 103 = .ok (.ifCond .eq 32, 3) := by decide +kernel
theorem dX7_addConstructor_106 : decode cX7_addConstructor 106 = .ok (.iload 9, 2) := by decide +kernel
theorem dX7_addConstructor_108 : decode cX7_addConstructor 108 = .ok (.ifCond .eq 23, 3) := by decide +kernel
theorem dX7_addConstructor_111 : decode cX7_addConstructor 111 = .ok (.aload 6, 2) := by decide +kernel
theorem dX7_addConstructor_113 : decode cX7_addConstructor 113 = .ok (.iload 9, 2) := by decide +kernel
theorem dX7_addConstructor_115 : decode cX7_addConstructor 115 = .ok (.iconst 1, 1) := by decide +kernel
theorem dX7_addConstructor_116 : decode cX7_addConstructor 116 = .ok (.isub, 1) := by decide +kernel
theorem dX7_addConstructor_117 : decode cX7_addConstructor 117 = .ok (.iaload, 1) := by decide +kernel
theorem dX7_addConstructor_118 : decode cX7_addConstructor 118 = .ok (.iconst (-1), 1) := by decide +kernel
theorem dX7_addConstructor_119 : decode cX7_addConstructor 119 = .ok (.if_icmp .ne 12, 3) := by decide +kernel
theorem dX7_addConstructor_122 : decode cX7_addConstructor 122 = .ok (.aload 6, 2) := by decide +kernel
theorem dX7_addConstructor_124 : decode cX7_addConstructor 124 = .ok (.iload 9, 2) := by decide +kernel
theorem dX7_addConstructor_126 : decode cX7_addConstructor 126 = .ok (.iaload, 1) := by decide +kernel
theorem dX7_addConstructor_127 : decode cX7_addConstructor 127 = .ok (.iconst (-1), 1) := by decide +kernel
theorem dX7_addConstructor_128 : decode cX7_addConstructor 128 = .ok (.if_icmp .ne 7, 3) := by decide +kernel
theorem dX7_addConstructor_131 : decode cX7_addConstructor 131 = .ok (.iconst 1, 1) := by decide +kernel
theorem dX7_addConstructor_132 : decode cX7_addConstructor 132 = .ok (.goto 4, 3) := by decide +kernel
theorem dX7_addConstructor_135 : decode cX7_addConstructor 135 = .ok (.iconst 0, 1) := by decide +kernel
theorem dX7_addConstructor_136 : decode cX7_addConstructor 136 = .ok (.istore 8, 2) := by decide +kernel
theorem dX7_addConstructor_138 : decode cX7_addConstructor 138 = .ok (.iload 7, 2) := by decide +kernel
theorem dX7_addConstructor_140 : decode cX7_addConstructor 140 = .ok (.aload_n 0, 1) := by decide +kernel
theorem dX7_addConstructor_141 : decode cX7_addConstructor 141 = .ok (.aload 6, 2) := by decide +kernel
theorem dX7_addConstructor_143 : decode cX7_addConstructor 143 = .ok (.iload 9, 2) := by decide +kernel
theorem dX7_addConstructor_145 : decode cX7_addConstructor 145 = .ok (.iaload, 1) := by decide +kernel
theorem dX7_addConstructor_146 : decode cX7_addConstructor 146 = .ok (.invokevirtual 76, 3) := by decide +kernel
theorem dX7_addConstructor_149 : decode cX7_addConstructor 149 = .ok (.ifCond .eq 7, 3) := by decide +kernel
theorem dX7_addConstructor_152 : decode cX7_addConstructor 152 = .ok (.iconst 1, 1) := by decide +kernel
theorem dX7_addConstructor_153 : decode cX7_addConstructor 153 = .ok (.goto 4, 3) := by decide +kernel
theorem dX7_addConstructor_156 : decode cX7_addConstructor 156 = .ok (.iconst 0, 1) := by decide +kernel
theorem dX7_addConstructor_157 : decode cX7_addConstructor 157 = .ok (.iadd, 1) := by decide +kernel
theorem dX7_addConstructor_158 : decode cX7_addConstructor 158 = .ok (.istore 7, 2) := by decide +kernel
theorem dX7_addConstructor_160 : decode cX7_addConstructor 160 = .ok (.iinc 9 1, 3) := by decide +kernel
theorem dX7_addConstructor_163 : decode cX7_addConstructor 163 = .ok (.goto (-111), 3) := by decide +kernel
theorem dX7_addConstructor_166 : decode cX7_addConstructor 166 = .ok (.iload 8, 2) := by decide +kernel
theorem dX7_addConstructor_168 : decode cX7_addConstructor 168 = .ok (.ifCond .eq 9, 3) := by decide +kernel
theorem dX7_addConstructor_171 : decode cX7_addConstructor 171 = .ok (.iload 7, 2) := by decide +kernel
theorem dX7_addConstructor_173 : decode cX7_addConstructor 173 = .ok (.iconst 3, 1) := by decide +kernel
theorem dX7_addConstructor_174 : decode cX7_addConstructor 174 = .ok (.if_icmp .ne 9, 3) := by decide +kernel
theorem dX7_addConstructor_177 : decode cX7_addConstructor 177 = .ok (.aload_n 0, 1) := by decide +kernel
theorem dX7_addConstructor_178 : decode cX7_addConstructor 178 = .ok (.iconst 2, 1) := by decide +kernel
theorem dX7_addConstructor_179 : decode cX7_addConstructor 179 = .ok (.invokevirtual 72, 3) := by decide +kernel
theorem dX7_addConstructor_182 : decode cX7_addConstructor 182 = .ok (.ireturn, 1) := by decide +kernel
theorem dX7_addConstructor_183 : decode cX7_addConstructor 183 = .ok (.aload_n 0, 1) := by decide +kernel
theorem dX7_addConstructor_184 : decode cX7_addConstructor 184 = .ok (.getfield 80, 3) := by decide +kernel
theorem dX7_addConstructor_187 : decode cX7_addConstructor 187 = .ok (.bipush 6, 2) := by decide +kernel
theorem dX7_addConstructor_189 : decode cX7_addConstructor 189 = .ok (.if_icmp .ne 9, 3) := by decide +kernel
theorem dX7_addConstructor_192 : decode cX7_addConstructor 192 = .ok (.aload_n 0, 1) := by decide +kernel
theorem dX7_addConstructor_193 : decode cX7_addConstructor 193 = .ok (.iconst 3, 1) := by decide +kernel
theorem dX7_addConstructor_194 : decode cX7_addConstructor 194 = .ok (.invokevirtual 72, 3) := by decide +kernel
theorem dX7_addConstructor_197 : decode cX7_addConstructor 197 = .ok (.ireturn, 1) := by decide +kernel
theorem dX7_addConstructor_198 : decode cX7_addConstructor 198 = .ok (.aload_n 0, 1) := by decide +kernel
theorem dX7_addConstructor_199 : decode cX7_addConstructor 199 = .ok (.getfield 13, 3) := by decide +kernel
theorem dX7_addConstructor_202 : decode cX7_addConstructor 202 = .ok (.aload_n 0, 1) := by decide +kernel
theorem dX7_addConstructor_203 : decode cX7_addConstructor 203 = .ok (.getfield 80, 3) := by decide +kernel
theorem dX7_addConstructor_206 : decode cX7_addConstructor 206 = .ok (.iload_n 1, 1) := by decide +kernel
theorem dX7_addConstructor_207 : decode cX7_addConstructor 207 = .ok (.iastore, 1) := by decide +kernel
theorem dX7_addConstructor_208 : decode cX7_addConstructor 208 = .ok (.iconst 0, 1) := by decide +kernel
theorem dX7_addConstructor_209 : decode cX7_addConstructor 209 = .ok (.istore 9, 2) := by decide +kernel
theorem dX7_addConstructor_211 : decode cX7_addConstructor 211 = .ok (.iload 9, 2) := by decide +kernel
theorem dX7_addConstructor_213 : decode cX7_addConstructor 213 = .ok (.iconst 3, 1) := by decide +kernel
theorem dX7_addConstructor_214 : decode cX7_addConstructor 214 = .ok (.if_icmp .ge 28, 3) := by decide +kernel
theorem dX7_addConstructor_217 : decode cX7_addConstructor 217 = .ok (.aload_n 0, 1) := by decide +kernel
theorem dX7_addConstructor_218 : decode cX7_addConstructor 218 = .ok (.getfield 17, 3) := by decide +kernel
theorem dX7_addConstructor_221 : decode cX7_addConstructor 221 = .ok (.iconst 3, 1) := by decide +kernel
theorem dX7_addConstructor_222 : decode cX7_addConstructor 222 = .ok (.aload_n 0, 1) := by decide +kernel
theorem dX7_addConstructor_223 : decode cX7_addConstructor 223 = .ok (.getfield 80, 3) := by decide +kernel
theorem dX7_addConstructor_226 : decode cX7_addConstructor 226 = .ok (.imul, 1) := by decide +kernel
theorem dX7_addConstructor_227 : decode cX7_addConstructor 227 = .ok (.iload 9, 2) := by decide +kernel
theorem dX7_addConstructor_229 : decode cX7_addConstructor 229 = .ok (.iadd, 1) := by decide +kernel
theorem dX7_addConstructor_230 : decode cX7_addConstructor 230 = .ok (.aload 6, 2) := by decide +kernel
theorem dX7_addConstructor_232 : decode cX7_addConstructor 232 = .ok (.iload 9, 2) := by decide +kernel
theorem dX7_addConstructor_234 : decode cX7_addConstructor 234 = .ok (.iaload, 1) := by decide +kernel
theorem dX7_addConstructor_235 : decode cX7_addConstructor 235 = .ok (.iastore, 1) := by decide +kernel
theorem dX7_addConstructor_236 : decode cX7_addConstructor 236 = .ok (.iinc 9 1, 3) := by decide +kernel
theorem dX7_addConstructor_239 : decode cX7_addConstructor 239 = .ok (.goto (-28), 3) := by decide +kernel
theorem dX7_addConstructor_242 : decode cX7_addConstructor 242 = .ok (.aload_n 0, 1) := by decide +kernel
theorem dX7_addConstructor_243 : decode cX7_addConstructor 243 = .ok (.getfield 20, 3) := by decide +kernel
theorem dX7_addConstructor_246 : decode cX7_addConstructor 246 = .ok (.aload_n 0, 1) := by decide +kernel
theorem dX7_addConstructor_247 : decode cX7_addConstructor 247 = .ok (.getfield 80, 3) := by decide +kernel
theorem dX7_addConstructor_250 : decode cX7_addConstructor 250 = .ok (.iload 5, 2) := by decide +kernel
theorem dX7_addConstructor_252 : decode cX7_addConstructor 252 = .ok (.iastore, 1) := by decide +kernel
theorem dX7_addConstructor_253 : decode cX7_addConstructor 253 = .ok (.aload_n 0, 1) := by decide +kernel
theorem dX7_addConstructor_254 : decode cX7_addConstructor 254 = .ok (.dup, 1) := by decide +kernel
theorem dX7_addConstructor_255 : decode cX7_addConstructor 255 = .ok (.getfield 80, 3) := by decide +kernel
theorem dX7_addConstructor_258 : decode cX7_addConstructor 258 = .ok (.iconst 1, 1) := by decide +kernel
theorem dX7_addConstructor_259 : decode cX7_addConstructor 259 = .ok (.iadd, 1) := by decide +kernel
theorem dX7_addConstructor_260 : decode cX7_addConstructor 260 = .ok (.putfield 80, 3) := by decide +kernel
theorem dX7_addConstructor_263 : decode cX7_addConstructor 263 = .ok (.aload_n 0, 1) := by decide +kernel
theorem dX7_addConstructor_264 : decode cX7_addConstructor 264 = .ok (.invokevirtual 69, 3) := by decide +kernel
theorem dX7_addConstructor_267 : decode cX7_addConstructor 267 = .ok (.aload_n 0, 1) := by decide +kernel
theorem dX7_addConstructor_268 : decode cX7_addConstructor 268 = .ok (.getfield 80, 3) := by decide +kernel
theorem dX7_addConstructor_271 : decode cX7_addConstructor 271 = .ok (.iconst 1, 1) := by decide +kernel
theorem dX7_addConstructor_272 : decode cX7_addConstructor 272 = .ok (.isub, 1) := by decide +kernel
theorem dX7_addConstructor_273 : decode cX7_addConstructor 273 = .ok (.ireturn, 1) := by decide +kernel
theorem dX7_typeCount_0 : decode cX7_typeCount 0 = .ok (.aload_n 0, 1) := by decide +kernel
theorem dX7_typeCount_1 : decode cX7_typeCount 1 = .ok (.iconst 0, 1) := by decide +kernel
theorem dX7_typeCount_2 : decode cX7_typeCount 2 = .ok (.putfield 52, 3) := by decide +kernel
theorem dX7_typeCount_5 : decode cX7_typeCount 5 = .ok (.aload_n 0, 1) := by decide +kernel
theorem dX7_typeCount_6 : decode cX7_typeCount 6 = .ok (.getfield 55, 3) := by decide +kernel
theorem dX7_typeCount_9 : decode cX7_typeCount 9 = .ok (.ireturn, 1) := by decide +kernel
theorem dX7_look_0 : decode cX7_look 0 = .ok (.iload_n 3, 1) := by decide +kernel
theorem dX7_look_1 : decode cX7_look 1 = .ok (.iload_n 2, 1) := by decide +kernel
theorem dX7_look_2 : decode cX7_look 2 = .ok (.if_icmp .ge 38, 3) := by decide +kernel
theorem dX7_look_5 : decode cX7_look 5 = .ok (.aload_n 1, 1) := by decide +kernel
theorem dX7_look_6 : decode cX7_look 6 = .ok (.iload_n 3, 1) := by decide +kernel
theorem dX7_look_7 : decode cX7_look 7 = .ok (.iaload, 1) := by decide +kernel
theorem dX7_look_8 : decode cX7_look 8 = .ok (.bipush 100, 2) := by decide +kernel
theorem dX7_look_10 : decode cX7_look 10 = .ok (.isub, 1) := by decide +kernel
theorem dX7_look_11 : decode cX7_look 11 = .ok (.iconst 0, 1) := by decide +kernel
theorem dX7_look_12 : decode cX7_look 12 = .ok (.aload_n 0, 1) := by decide +kernel
theorem dX7_look_13 : decode cX7_look 13 = .ok (.getfield 80, 3) := by decide +kernel
theorem dX7_look_16 : decode cX7_look 16 = .ok (.iconst 1, 1) := by decide +kernel
theorem dX7_look_17 : decode cX7_look 17 = .ok (.isub, 1) := by decide +kernel
theorem dX7_look_18 : decode cX7_look 18 = .ok (.invokestatic 58, 3) := by decide +kernel
theorem dX7_look_21 : decode cX7_look 21 = .ok (.ifCond .eq 19, 3) := by decide +kernel
theorem dX7_look_24 : decode cX7_look 24 = .ok (.aload_n 0, 1) := by decide +kernel
theorem dX7_look_25 : decode cX7_look 25 = .ok (.getfield 13, 3) := by decide +kernel
theorem dX7_look_28 : decode cX7_look 28 = .ok (.aload_n 1, 1) := by decide +kernel
theorem dX7_look_29 : decode cX7_look 29 = .ok (.iload_n 3, 1) := by decide +kernel
theorem dX7_look_30 : decode cX7_look 30 = .ok (.iaload, 1) := by decide +kernel
theorem dX7_look_31 : decode cX7_look 31 = .ok (.bipush 100, 2) := by decide +kernel
theorem dX7_look_33 : decode cX7_look 33 = .ok (.isub, 1) := by decide +kernel
theorem dX7_look_34 : decode cX7_look 34 = .ok (.iaload, 1) := by decide +kernel
theorem dX7_look_35 : decode cX7_look 35 = .ok (.iload 4, 2) := by decide +kernel
theorem dX7_look_37 : decode cX7_look 37 = .ok (.if_icmp .eq 5, 3) := by decide +kernel
theorem dX7_look_40 : decode cX7_look 40 = .ok (.iconst (-1), 1) := by decide +kernel
theorem dX7_look_41 : decode cX7_look 41 = .ok (.ireturn, 1) := by decide +kernel
theorem dX7_look_42 : decode cX7_look 42 = .ok (.aload_n 1, 1) := by decide +kernel
theorem dX7_look_43 : decode cX7_look 43 = .ok (.iload_n 3, 1) := by decide +kernel
theorem dX7_look_44 : decode cX7_look 44 = .ok (.iaload, 1) := by decide +kernel
theorem dX7_look_45 : decode cX7_look 45 = .ok (.bipush 100, 2) := by decide +kernel
theorem dX7_look_47 : decode cX7_look 47 = .ok (.isub, 1) := by decide +kernel
theorem dX7_look_48 : decode cX7_look 48 = .ok (.istore 5, 2) := by decide +kernel
theorem dX7_look_50 : decode cX7_look 50 = .ok (.iload_n 3, 1) := by decide +kernel
theorem dX7_look_51 : decode cX7_look 51 = .ok (.iconst 1, 1) := by decide +kernel
theorem dX7_look_52 : decode cX7_look 52 = .ok (.iadd, 1) := by decide +kernel
theorem dX7_look_53 : decode cX7_look 53 = .ok (.istore 6, 2) := by decide +kernel
theorem dX7_look_55 : decode cX7_look 55 = .ok (.iconst 1, 1) := by decide +kernel
theorem dX7_look_56 : decode cX7_look 56 = .ok (.istore 7, 2) := by decide +kernel
theorem dX7_look_58 : decode cX7_look 58 = .ok (.sipush 320, 3) := by decide +kernel
theorem dX7_look_61 : decode cX7_look 61 = .ok (.istore 8, 2) := by decide +kernel
theorem dX7_look_63 : decode cX7_look 63 = .ok (.iconst 0, 1) := by decide +kernel
theorem dX7_look_64 : decode cX7_look 64 = .ok (.istore 9, 2) := by decide +kernel
theorem dX7_look_66 : decode cX7_look 66 = .ok (.iconst 0, 1) := by decide +kernel
theorem dX7_look_67 : decode cX7_look 67 = .ok (.istore 10, 2) := by decide +kernel
theorem dX7_look_69 : decode cX7_look 69 = .ok (.iload 10, 2) := by decide +kernel
theorem dX7_look_71 : decode cX7_look 71 = .ok (.iconst 3, 1) := by decide +kernel
theorem dX7_look_72 : decode cX7_look 72 = .ok (.if_icmp .ge 129, 3) := by decide +kernel
theorem dX7_look_75 : decode cX7_look 75 = .ok (.aload_n 0, 1) := by decide +kernel
theorem dX7_look_76 : decode cX7_look 76 = .ok (.getfield 17, 3) := by decide +kernel
theorem dX7_look_79 : decode cX7_look 79 = .ok (.iconst 3, 1) := by decide +kernel
theorem dX7_look_80 : decode cX7_look 80 = .ok (.iload 5, 2) := by decide +kernel
theorem dX7_look_82 : decode cX7_look 82 = .ok (.imul, 1) := by decide +kernel
theorem dX7_look_83 : decode cX7_look 83 = .ok (.iload 10, 2) := by decide +kernel
theorem dX7_look_85 : decode cX7_look 85 = .ok (.iadd, 1) := by decide +kernel
theorem dX7_look_86 : decode cX7_look 86 = .ok (.iaload, 1) := by decide +kernel
theorem dX7_look_87 : decode cX7_look 87 = .ok (.iconst (-1), 1) := by decide +kernel
theorem dX7_look_88 : decode cX7_look 88 = .ok (.if_icmp .eq 113, 3) := by decide +kernel
theorem dX7_look_91 : decode cX7_look 91 = .ok (.aload_n 0, 1) := by decide +kernel
theorem dX7_look_92 : decode cX7_look 92 = .ok (.getfield 17, 3) := by decide +kernel
theorem dX7_look_95 : decode cX7_look 95 = .ok (.iconst 3, 1) := by decide +kernel
theorem dX7_look_96 : decode cX7_look 96 = .ok (.iload 5, 2) := by decide +kernel
theorem dX7_look_98 : decode cX7_look 98 = .ok (.imul, 1) := by decide +kernel
theorem dX7_look_99 : decode cX7_look 99 = .ok (.iload 10, 2) := by decide +kernel
theorem dX7_look_101 : decode cX7_look 101 = .ok (.iadd, 1) := by decide +kernel
theorem dX7_look_102 : decode cX7_look 102 = .ok (.iaload, 1) := by decide +kernel
theorem dX7_look_103 : decode cX7_look 103 = .ok (.istore 11, 2) := by decide +kernel
theorem dX7_look_105 : decode cX7_look 105 = .ok (.iload 11, 2) := by decide +kernel
theorem dX7_look_107 : decode cX7_look 107 = .ok (.bipush 9, 2) := by decide +kernel
theorem dX7_look_109 : decode cX7_look 109 = .ok (.if_icmp .ne 35, 3) := by decide +kernel
theorem dX7_look_112 : decode cX7_look 112 = .ok (.iload 6, 2) := by decide +kernel
theorem dX7_look_114 : decode cX7_look 114 = .ok (.iload_n 2, 1) := by decide +kernel
theorem dX7_look_115 : decode cX7_look 115 = .ok (.if_icmp .ge 21, 3) := by decide +kernel
theorem dX7_look_118 : decode cX7_look 118 = .ok (.aload_n 1, 1) := by decide +kernel
theorem dX7_look_119 : decode cX7_look 119 = .ok (.iload 6, 2) := by decide +kernel
theorem dX7_look_121 : decode cX7_look 121 = .ok (.iaload, 1) := by decide +kernel
theorem dX7_look_122 : decode cX7_look 122 = .ok (.aload_n 0, 1) := by decide +kernel
theorem dX7_look_123 : decode cX7_look 123 = .ok (.getfield 66, 3) := by decide +kernel
theorem dX7_look_126 : decode cX7_look 126 = .ok (.aload_n 0, 1) := by decide +kernel
theorem dX7_look_127 : decode cX7_look 127 = .ok (.getfield 7, 3) := by decide +kernel
theorem dX7_look_130 : decode cX7_look 130 = .ok (.invokestatic 58, 3) := by decide +kernel
theorem dX7_look_133 : decode cX7_look 133 = .ok (.ifCond .ne 5, 3) := by decide +kernel
theorem dX7_look_136 : decode cX7_look 136 = .ok (.iconst (-1), 1) := by decide +kernel
theorem dX7_look_137 : decode cX7_look 137 = .ok (.ireturn, 1) := by decide +kernel
theorem dX7_look_138 : decode cX7_look 138 = .ok (.iinc 6 1, 3) := by decide +kernel
theorem dX7_look_141 : decode cX7_look 141 = .ok (.goto 54, 3) := by decide +kernel
theorem dX7_look_144 : decode cX7_look 144 = .ok (.aload_n 0, 1) := by decide +kernel
theorem dX7_look_145 : decode cX7_look 145 = .ok (.aload_n 1, 1) := by decide +kernel
theorem dX7_look_146 : decode cX7_look 146 = .ok (.iload_n 2, 1) := by decide +kernel
theorem dX7_look_147 : decode cX7_look 147 = .ok (.iload 6, 2) := by decide +kernel
theorem dX7_look_149 : decode cX7_look 149 = .ok (.iload 11, 2) := by decide +kernel
theorem dX7_look_151 : decode cX7_look 151 = .ok (.invokevirtual 83, 3) := by decide +kernel
theorem dX7_look_154 : decode cX7_look 154 = .ok (.istore 6, 2) := by decide +kernel
theorem dX7_look_156 : decode cX7_look 156 = .ok (.iload 6, 2) := by decide +kernel
theorem dX7_look_158 : decode cX7_look 158 = .ok (.iconst (-1), 1) := by decide +kernel
theorem dX7_look_159 : decode cX7_look 159 = .ok (.if_icmp .ne 5, 3) := by decide +kernel
theorem dX7_look_162 : decode cX7_look 162 = .ok (.iconst (-1), 1) := by decide +kernel
end
section
theorem dX7_look_163 : decode cX7_look 163 = .ok (.ireturn, 1) := by decide +kernel
theorem dX7_look_164 : decode cX7_look 164 = .ok (.iload 7, 2) := by decide +kernel
theorem dX7_look_166 : decode cX7_look 166 = .ok (.aload_n 0, 1) := by decide +kernel
theorem dX7_look_167 : decode cX7_look 167 = .ok (.getfield 87, 3) := by decide +kernel
theorem dX7_look_170 : decode cX7_look 170 = .ok (.iadd, 1) := by decide +kernel
theorem dX7_look_171 : decode cX7_look 171 = .ok (.istore 7, 2) := by decide +kernel
theorem dX7_look_173 : decode cX7_look 173 = .ok (.iload 8, 2) := by decide +kernel
theorem dX7_look_175 : decode cX7_look 175 = .ok (.aload_n 0, 1) := by decide +kernel
theorem dX7_look_176 : decode cX7_look 176 = .ok (.getfield 90, 3) := by decide +kernel
theorem dX7_look_179 : decode cX7_look 179 = .ok (.invokestatic 93, 3) := by decide +kernel
theorem dX7_look_182 : decode cX7_look 182 = .ok (.istore 8, 2) := by decide +kernel
theorem dX7_look_184 : decode cX7_look 184 = .ok (.iload 9, 2) := by decide +kernel
theorem dX7_look_186 : decode cX7_look 186 = .ok (.aload_n 0, 1) := by decide +kernel
theorem dX7_look_187 : decode cX7_look 187 = .ok (.getfield 90, 3) := by decide +kernel
theorem dX7_look_190 : decode cX7_look 190 = .ok (.invokestatic 99, 3) := by decide +kernel
theorem dX7_look_193 : decode cX7_look 193 = .ok (.istore 9, 2) := by decide +kernel
theorem dX7_look_195 : decode cX7_look 195 = .ok (.iinc 10 1, 3) := by decide +kernel
theorem dX7_look_198 : decode cX7_look 198 = .ok (.goto (-129), 3) := by decide +kernel
theorem dX7_look_201 : decode cX7_look 201 = .ok (.aload_n 0, 1) := by decide +kernel
theorem dX7_look_202 : decode cX7_look 202 = .ok (.aload_n 0, 1) := by decide +kernel
theorem dX7_look_203 : decode cX7_look 203 = .ok (.getfield 20, 3) := by decide +kernel
theorem dX7_look_206 : decode cX7_look 206 = .ok (.iload 5, 2) := by decide +kernel
theorem dX7_look_208 : decode cX7_look 208 = .ok (.iaload, 1) := by decide +kernel
theorem dX7_look_209 : decode cX7_look 209 = .ok (.aload_n 1, 1) := by decide +kernel
theorem dX7_look_210 : decode cX7_look 210 = .ok (.iload_n 3, 1) := by decide +kernel
theorem dX7_look_211 : decode cX7_look 211 = .ok (.iload 6, 2) := by decide +kernel
theorem dX7_look_213 : decode cX7_look 213 = .ok (.iload 9, 2) := by decide +kernel
theorem dX7_look_215 : decode cX7_look 215 = .ok (.iload 8, 2) := by decide +kernel
theorem dX7_look_217 : decode cX7_look 217 = .ok (.iload 9, 2) := by decide +kernel
theorem dX7_look_219 : decode cX7_look 219 = .ok (.invokestatic 93, 3) := by decide +kernel
theorem dX7_look_222 : decode cX7_look 222 = .ok (.isub, 1) := by decide +kernel
theorem dX7_look_223 : decode cX7_look 223 = .ok (.iload 5, 2) := by decide +kernel
theorem dX7_look_225 : decode cX7_look 225 = .ok (.invokevirtual 102, 3) := by decide +kernel
theorem dX7_look_228 : decode cX7_look 228 = .ok (.ifCond .ne 5, 3) := by decide +kernel
theorem dX7_look_231 : decode cX7_look 231 = .ok (.iconst (-1), 1) := by decide +kernel
theorem dX7_look_232 : decode cX7_look 232 = .ok (.ireturn, 1) := by decide +kernel
theorem dX7_look_233 : decode cX7_look 233 = .ok (.aload_n 0, 1) := by decide +kernel
theorem dX7_look_234 : decode cX7_look 234 = .ok (.iload 7, 2) := by decide +kernel
theorem dX7_look_236 : decode cX7_look 236 = .ok (.putfield 87, 3) := by decide +kernel
theorem dX7_look_239 : decode cX7_look 239 = .ok (.aload_n 0, 1) := by decide +kernel
theorem dX7_look_240 : decode cX7_look 240 = .ok (.iconst 1, 1) := by decide +kernel
theorem dX7_look_241 : decode cX7_look 241 = .ok (.iload 9, 2) := by decide +kernel
theorem dX7_look_243 : decode cX7_look 243 = .ok (.iadd, 1) := by decide +kernel
theorem dX7_look_244 : decode cX7_look 244 = .ok (.putfield 90, 3) := by decide +kernel
theorem dX7_look_247 : decode cX7_look 247 = .ok (.iload 6, 2) := by decide +kernel
theorem dX7_look_249 : decode cX7_look 249 = .ok (.ireturn, 1) := by decide +kernel
theorem dX7_isTrue_0 : decode cX7_isTrue 0 = .ok (.iload_n 1, 1) := by decide +kernel
theorem dX7_isTrue_1 : decode cX7_isTrue 1 = .ok (.iconst 3, 1) := by decide +kernel
theorem dX7_isTrue_2 : decode cX7_isTrue 2 = .ok (.if_icmp .ne 14, 3) := by decide +kernel
theorem dX7_isTrue_5 : decode cX7_isTrue 5 = .ok (.iload 5, 2) := by decide +kernel
theorem dX7_isTrue_7 : decode cX7_isTrue 7 = .ok (.ifCond .ne 7, 3) := by decide +kernel
theorem dX7_isTrue_10 : decode cX7_isTrue 10 = .ok (.iconst 1, 1) := by decide +kernel
theorem dX7_isTrue_11 : decode cX7_isTrue 11 = .ok (.goto 4, 3) := by decide +kernel
theorem dX7_isTrue_14 : decode cX7_isTrue 14 = .ok (.iconst 0, 1) := by decide +kernel
theorem dX7_isTrue_15 : decode cX7_isTrue 15 = .ok (.ireturn, 1) := by decide +kernel
theorem dX7_isTrue_16 : decode cX7_isTrue 16 = .ok (.iload_n 1, 1) := by decide +kernel
theorem dX7_isTrue_17 : decode cX7_isTrue 17 = .ok (.iconst 4, 1) := by decide +kernel
theorem dX7_isTrue_18 : decode cX7_isTrue 18 = .ok (.if_icmp .ne 15, 3) := by decide +kernel
theorem dX7_isTrue_21 : decode cX7_isTrue 21 = .ok (.iload 5, 2) := by decide +kernel
theorem dX7_isTrue_23 : decode cX7_isTrue 23 = .ok (.iconst 1, 1) := by decide +kernel
theorem dX7_isTrue_24 : decode cX7_isTrue 24 = .ok (.if_icmp .gt 7, 3) := by decide +kernel
theorem dX7_isTrue_27 : decode cX7_isTrue 27 = .ok (.iconst 1, 1) := by decide +kernel
theorem dX7_isTrue_28 : decode cX7_isTrue 28 = .ok (.goto 4, 3) := by decide +kernel
theorem dX7_isTrue_31 : decode cX7_isTrue 31 = .ok (.iconst 0, 1) := by decide +kernel
theorem dX7_isTrue_32 : decode cX7_isTrue 32 = .ok (.ireturn, 1) := by decide +kernel
theorem dX7_isTrue_33 : decode cX7_isTrue 33 = .ok (.iconst (-1), 1) := by decide +kernel
theorem dX7_isTrue_34 : decode cX7_isTrue 34 = .ok (.istore 7, 2) := by decide +kernel
theorem dX7_isTrue_36 : decode cX7_isTrue 36 = .ok (.iconst (-1), 1) := by decide +kernel
theorem dX7_isTrue_37 : decode cX7_isTrue 37 = .ok (.istore 8, 2) := by decide +kernel
theorem dX7_isTrue_39 : decode cX7_isTrue 39 = .ok (.iconst 0, 1) := by decide +kernel
theorem dX7_isTrue_40 : decode cX7_isTrue 40 = .ok (.istore 9, 2) := by decide +kernel
theorem dX7_isTrue_42 : decode cX7_isTrue 42 = .ok (.iconst 1, 1) := by decide +kernel
theorem dX7_isTrue_43 : decode cX7_isTrue 43 = .ok (.istore 10, 2) := by decide +kernel
theorem dX7_isTrue_45 : decode cX7_isTrue 45 = .ok (.bipush 100, 2) := by decide +kernel
theorem dX7_isTrue_47 : decode cX7_isTrue 47 = .ok (.istore 11, 2) := by decide +kernel
theorem dX7_isTrue_49 : decode cX7_isTrue 49 = .ok (.iload_n 3, 1) := by decide +kernel
theorem dX7_isTrue_50 : decode cX7_isTrue 50 = .ok (.istore 12, 2) := by decide +kernel
theorem dX7_isTrue_52 : decode cX7_isTrue 52 = .ok (.iload 12, 2) := by decide +kernel
theorem dX7_isTrue_54 : decode cX7_isTrue 54 = .ok (.iload 4, 2) := by decide +kernel
theorem dX7_isTrue_56 : decode cX7_isTrue 56 = .ok (.if_icmp .ge 68, 3) := by decide +kernel
theorem dX7_isTrue_59 : decode cX7_isTrue 59 = .ok (.aload_n 2, 1) := by decide +kernel
theorem dX7_isTrue_60 : decode cX7_isTrue 60 = .ok (.iload 12, 2) := by decide +kernel
theorem dX7_isTrue_62 : decode cX7_isTrue 62 = .ok (.iaload, 1) := by decide +kernel
theorem dX7_isTrue_63 : decode cX7_isTrue 63 = .ok (.bipush 100, 2) := by decide +kernel
theorem dX7_isTrue_65 : decode cX7_isTrue 65 = .ok (.if_icmp .lt 6, 3) := by decide +kernel
theorem dX7_isTrue_68 : decode cX7_isTrue 68 = .ok (.goto 50, 3) := by decide +kernel
theorem dX7_isTrue_71 : decode cX7_isTrue 71 = .ok (.iload 10, 2) := by decide +kernel
theorem dX7_isTrue_73 : decode cX7_isTrue 73 = .ok (.ifCond .eq 16, 3) := by decide +kernel
theorem dX7_isTrue_76 : decode cX7_isTrue 76 = .ok (.aload_n 2, 1) := by decide +kernel
theorem dX7_isTrue_77 : decode cX7_isTrue 77 = .ok (.iload 12, 2) := by decide +kernel
theorem dX7_isTrue_79 : decode cX7_isTrue 79 = .ok (.iaload, 1) := by decide +kernel
theorem dX7_isTrue_80 : decode cX7_isTrue 80 = .ok (.iload 8, 2) := by decide +kernel
theorem dX7_isTrue_82 : decode cX7_isTrue 82 = .ok (.if_icmp .le 7, 3) := by decide +kernel
theorem dX7_isTrue_85 : decode cX7_isTrue 85 = .ok (.iconst 1, 1) := by decide +kernel
theorem dX7_isTrue_86 : decode cX7_isTrue 86 = .ok (.goto 4, 3) := by decide +kernel
theorem dX7_isTrue_89 : decode cX7_isTrue 89 = .ok (.iconst 0, 1) := by decide +kernel
theorem dX7_isTrue_90 : decode cX7_isTrue 90 = .ok (.istore 10, 2) := by decide +kernel
theorem dX7_isTrue_92 : decode cX7_isTrue 92 = .ok (.aload_n 2, 1) := by decide +kernel
theorem dX7_isTrue_93 : decode cX7_isTrue 93 = .ok (.iload 12, 2) := by decide +kernel
theorem dX7_isTrue_95 : decode cX7_isTrue 95 = .ok (.iaload, 1) := by decide +kernel
theorem dX7_isTrue_96 : decode cX7_isTrue 96 = .ok (.istore 8, 2) := by decide +kernel
theorem dX7_isTrue_98 : decode cX7_isTrue 98 = .ok (.iload 9, 2) := by decide +kernel
theorem dX7_isTrue_100 : decode cX7_isTrue 100 = .ok (.aload_n 2, 1) := by decide +kernel
theorem dX7_isTrue_101 : decode cX7_isTrue 101 = .ok (.iload 12, 2) := by decide +kernel
theorem dX7_isTrue_103 : decode cX7_isTrue 103 = .ok (.iaload, 1) := by decide +kernel
theorem dX7_isTrue_104 : decode cX7_isTrue 104 = .ok (.iadd, 1) := by decide +kernel
theorem dX7_isTrue_105 : decode cX7_isTrue 105 = .ok (.istore 9, 2) := by decide +kernel
theorem dX7_isTrue_107 : decode cX7_isTrue 107 = .ok (.iload 11, 2) := by decide +kernel
theorem dX7_isTrue_109 : decode cX7_isTrue 109 = .ok (.aload_n 2, 1) := by decide +kernel
theorem dX7_isTrue_110 : decode cX7_isTrue 110 = .ok (.iload 12, 2) := by decide +kernel
theorem dX7_isTrue_112 : decode cX7_isTrue 112 = .ok (.iaload, 1) := by decide +kernel
theorem dX7_isTrue_113 : decode cX7_isTrue 113 = .ok (.invokestatic 93, 3) := by decide +kernel
theorem dX7_isTrue_116 : decode cX7_isTrue 116 = .ok (.istore 11, 2) := by decide +kernel
theorem dX7_isTrue_118 : decode cX7_isTrue 118 = .ok (.iinc 12 1, 3) := by decide +kernel
theorem dX7_isTrue_121 : decode cX7_isTrue 121 = .ok (.goto (-69), 3) := by decide +kernel
theorem dX7_isTrue_124 : decode cX7_isTrue 124 = .ok (.iload_n 1, 1) := by decide +kernel
theorem dX7_isTrue_125 : decode cX7_isTrue 125 = .ok (.iconst 1, 1) := by decide +kernel
theorem dX7_isTrue_126 : decode cX7_isTrue 126 = .ok (.if_icmp .ne 6, 3) := by decide +kernel
theorem dX7_isTrue_129 : decode cX7_isTrue 129 = .ok (.iload 10, 2) := by decide +kernel
theorem dX7_isTrue_131 : decode cX7_isTrue 131 = .ok (.ireturn, 1) := by decide +kernel
theorem dX7_isTrue_132 : decode cX7_isTrue 132 = .ok (.iload_n 1, 1) := by decide +kernel
theorem dX7_isTrue_133 : decode cX7_isTrue 133 = .ok (.iconst 5, 1) := by decide +kernel
theorem dX7_isTrue_134 : decode cX7_isTrue 134 = .ok (.if_icmp .ne 16, 3) := by decide +kernel
theorem dX7_isTrue_137 : decode cX7_isTrue 137 = .ok (.iload 9, 2) := by decide +kernel
theorem dX7_isTrue_139 : decode cX7_isTrue 139 = .ok (.iconst 2, 1) := by decide +kernel
theorem dX7_isTrue_140 : decode cX7_isTrue 140 = .ok (.irem, 1) := by decide +kernel
theorem dX7_isTrue_141 : decode cX7_isTrue 141 = .ok (.ifCond .ne 7, 3) := by decide +kernel
theorem dX7_isTrue_144 : decode cX7_isTrue 144 = .ok (.iconst 1, 1) := by decide +kernel
theorem dX7_isTrue_145 : decode cX7_isTrue 145 = .ok (.goto 4, 3) := by decide +kernel
theorem dX7_isTrue_148 : decode cX7_isTrue 148 = .ok (.iconst 0, 1) := by decide +kernel
theorem dX7_isTrue_149 : decode cX7_isTrue 149 = .ok (.ireturn, 1) := by decide +kernel
theorem dX7_isTrue_150 : decode cX7_isTrue 150 = .ok (.iload_n 1, 1) := by decide +kernel
theorem dX7_isTrue_151 : decode cX7_isTrue 151 = .ok (.iconst 2, 1) := by decide +kernel
theorem dX7_isTrue_152 : decode cX7_isTrue 152 = .ok (.if_icmp .eq 5, 3) := by decide +kernel
theorem dX7_isTrue_155 : decode cX7_isTrue 155 = .ok (.iconst 1, 1) := by decide +kernel
theorem dX7_isTrue_156 : decode cX7_isTrue 156 = .ok (.ireturn, 1) := by decide +kernel
theorem dX7_isTrue_157 : decode cX7_isTrue 157 = .ok (.iload_n 3, 1) := by decide +kernel
theorem dX7_isTrue_158 : decode cX7_isTrue 158 = .ok (.iconst 1, 1) := by decide +kernel
theorem dX7_isTrue_159 : decode cX7_isTrue 159 = .ok (.iadd, 1) := by decide +kernel
theorem dX7_isTrue_160 : decode cX7_isTrue 160 = .ok (.istore 12, 2) := by decide +kernel
theorem dX7_isTrue_162 : decode cX7_isTrue 162 = .ok (.iconst 0, 1) := by decide +kernel
theorem dX7_isTrue_163 : decode cX7_isTrue 163 = .ok (.istore 13, 2) := by decide +kernel
theorem dX7_isTrue_165 : decode cX7_isTrue 165 = .ok (.iload 13, 2) := by decide +kernel
theorem dX7_isTrue_167 : decode cX7_isTrue 167 = .ok (.iconst 3, 1) := by decide +kernel
theorem dX7_isTrue_168 : decode cX7_isTrue 168 = .ok (.if_icmp .ge 62, 3) := by decide +kernel
theorem dX7_isTrue_171 : decode cX7_isTrue 171 = .ok (.iload 7, 2) := by decide +kernel
theorem dX7_isTrue_173 : decode cX7_isTrue 173 = .ok (.iconst (-1), 1) := by decide +kernel
theorem dX7_isTrue_174 : decode cX7_isTrue 174 = .ok (.if_icmp .ne 56, 3) := by decide +kernel
theorem dX7_isTrue_177 : decode cX7_isTrue 177 = .ok (.aload_n 0, 1) := by decide +kernel
theorem dX7_isTrue_178 : decode cX7_isTrue 178 = .ok (.getfield 17, 3) := by decide +kernel
theorem dX7_isTrue_181 : decode cX7_isTrue 181 = .ok (.iconst 3, 1) := by decide +kernel
theorem dX7_isTrue_182 : decode cX7_isTrue 182 = .ok (.iload 6, 2) := by decide +kernel
theorem dX7_isTrue_184 : decode cX7_isTrue 184 = .ok (.imul, 1) := by decide +kernel
theorem dX7_isTrue_185 : decode cX7_isTrue 185 = .ok (.iload 13, 2) := by decide +kernel
theorem dX7_isTrue_187 : decode cX7_isTrue 187 = .ok (.iadd, 1) := by decide +kernel
theorem dX7_isTrue_188 : decode cX7_isTrue 188 = .ok (.iaload, 1) := by decide +kernel
theorem dX7_isTrue_189 : decode cX7_isTrue 189 = .ok (.istore 14, 2) := by decide +kernel
theorem dX7_isTrue_191 : decode cX7_isTrue 191 = .ok (.iload 14, 2) := by decide +kernel
theorem dX7_isTrue_193 : decode cX7_isTrue 193 = .ok (.iconst (-1), 1) := by decide +kernel
theorem dX7_isTrue_194 : decode cX7_isTrue 194 = .ok (.if_icmp .ne 5, 3) := by decide +kernel
theorem dX7_isTrue_197 : decode cX7_isTrue 197 = .ok (.iconst 1, 1) := by decide +kernel
theorem dX7_isTrue_198 : decode cX7_isTrue 198 = .ok (.ireturn, 1) := by decide +kernel
theorem dX7_isTrue_199 : decode cX7_isTrue 199 = .ok (.iload 14, 2) := by decide +kernel
theorem dX7_isTrue_201 : decode cX7_isTrue 201 = .ok (.bipush 9, 2) := by decide +kernel
theorem dX7_isTrue_203 : decode cX7_isTrue 203 = .ok (.if_icmp .ne 12, 3) := by decide +kernel
theorem dX7_isTrue_206 : decode cX7_isTrue 206 = .ok (.aload_n 2, 1) := by decide +kernel
theorem dX7_isTrue_207 : decode cX7_isTrue 207 = .ok (.iload 12, 2) := by decide +kernel
theorem dX7_isTrue_209 : decode cX7_isTrue 209 = .ok (.iaload, 1) := by decide +kernel
theorem dX7_isTrue_210 : decode cX7_isTrue 210 = .ok (.istore 7, 2) := by decide +kernel
theorem dX7_isTrue_212 : decode cX7_isTrue 212 = .ok (.goto 12, 3) := by decide +kernel
theorem dX7_isTrue_215 : decode cX7_isTrue 215 = .ok (.aload_n 0, 1) := by decide +kernel
theorem dX7_isTrue_216 : decode cX7_isTrue 216 = .ok (.aload_n 2, 1) := by decide +kernel
theorem dX7_isTrue_217 : decode cX7_isTrue 217 = .ok (.iload 12, 2) := by decide +kernel
theorem dX7_isTrue_219 : decode cX7_isTrue 219 = .ok (.invokevirtual 106, 3) := by decide +kernel
theorem dX7_isTrue_222 : decode cX7_isTrue 222 = .ok (.istore 12, 2) := by decide +kernel
theorem dX7_isTrue_224 : decode cX7_isTrue 224 = .ok (.iinc 13 1, 3) := by decide +kernel
theorem dX7_isTrue_227 : decode cX7_isTrue 227 = .ok (.goto (-62), 3) := by decide +kernel
theorem dX7_isTrue_230 : decode cX7_isTrue 230 = .ok (.iload 7, 2) := by decide +kernel
theorem dX7_isTrue_232 : decode cX7_isTrue 232 = .ok (.iconst (-1), 1) := by decide +kernel
theorem dX7_isTrue_233 : decode cX7_isTrue 233 = .ok (.if_icmp .eq 10, 3) := by decide +kernel
theorem dX7_isTrue_236 : decode cX7_isTrue 236 = .ok (.iload 7, 2) := by decide +kernel
theorem dX7_isTrue_238 : decode cX7_isTrue 238 = .ok (.iload 11, 2) := by decide +kernel
theorem dX7_isTrue_240 : decode cX7_isTrue 240 = .ok (.if_icmp .gt 7, 3) := by decide +kernel
theorem dX7_isTrue_243 : decode cX7_isTrue 243 = .ok (.iconst 1, 1) := by decide +kernel
theorem dX7_isTrue_244 : decode cX7_isTrue 244 = .ok (.goto 4, 3) := by decide +kernel
theorem dX7_isTrue_247 : decode cX7_isTrue 247 = .ok (.iconst 0, 1) := by decide +kernel
theorem dX7_isTrue_248 : decode cX7_isTrue 248 = .ok (.ireturn, 1) := by decide +kernel
theorem dX7_end_0 : decode cX7_end 0 = .ok (.aload_n 1, 1) := by decide +kernel
theorem dX7_end_1 : decode cX7_end 1 = .ok (.iload_n 2, 1) := by decide +kernel
theorem dX7_end_2 : decode cX7_end 2 = .ok (.iaload, 1) := by decide +kernel
theorem dX7_end_3 : decode cX7_end 3 = .ok (.bipush 100, 2) := by decide +kernel
theorem dX7_end_5 : decode cX7_end 5 = .ok (.isub, 1) := by decide +kernel
theorem dX7_end_6 : decode cX7_end 6 = .ok (.istore_n 3, 1) := by decide +kernel
theorem dX7_end_7 : decode cX7_end 7 = .ok (.iload_n 2, 1) := by decide +kernel
theorem dX7_end_8 : decode cX7_end 8 = .ok (.iconst 1, 1) := by decide +kernel
theorem dX7_end_9 : decode cX7_end 9 = .ok (.iadd, 1) := by decide +kernel
theorem dX7_end_10 : decode cX7_end 10 = .ok (.istore 4, 2) := by decide +kernel
theorem dX7_end_12 : decode cX7_end 12 = .ok (.iconst 0, 1) := by decide +kernel
theorem dX7_end_13 : decode cX7_end 13 = .ok (.istore 5, 2) := by decide +kernel
theorem dX7_end_15 : decode cX7_end 15 = .ok (.iload 5, 2) := by decide +kernel
theorem dX7_end_17 : decode cX7_end 17 = .ok (.iconst 3, 1) := by decide +kernel
theorem dX7_end_18 : decode cX7_end 18 = .ok (.if_icmp .ge 56, 3) := by decide +kernel
theorem dX7_end_21 : decode cX7_end 21 = .ok (.aload_n 0, 1) := by decide +kernel
theorem dX7_end_22 : decode cX7_end 22 = .ok (.getfield 17, 3) := by decide +kernel
theorem dX7_end_25 : decode cX7_end 25 = .ok (.iconst 3, 1) := by decide +kernel
theorem dX7_end_26 : decode cX7_end 26 = .ok (.iload_n 3, 1) := by decide +kernel
theorem dX7_end_27 : decode cX7_end 27 = .ok (.imul, 1) := by decide +kernel
theorem dX7_end_28 : decode cX7_end 28 = .ok (.iload 5, 2) := by decide +kernel
theorem dX7_end_30 : decode cX7_end 30 = .ok (.iadd, 1) := by decide +kernel
theorem dX7_end_31 : decode cX7_end 31 = .ok (.iaload, 1) := by decide +kernel
theorem dX7_end_32 : decode cX7_end 32 = .ok (.iconst (-1), 1) := by decide +kernel
theorem dX7_end_33 : decode cX7_end 33 = .ok (.if_icmp .eq 41, 3) := by decide +kernel
theorem dX7_end_36 : decode cX7_end 36 = .ok (.aload_n 0, 1) := by decide +kernel
theorem dX7_end_37 : decode cX7_end 37 = .ok (.getfield 17, 3) := by decide +kernel
theorem dX7_end_40 : decode cX7_end 40 = .ok (.iconst 3, 1) := by decide +kernel
theorem dX7_end_41 : decode cX7_end 41 = .ok (.iload_n 3, 1) := by decide +kernel
theorem dX7_end_42 : decode cX7_end 42 = .ok (.imul, 1) := by decide +kernel
theorem dX7_end_43 : decode cX7_end 43 = .ok (.iload 5, 2) := by decide +kernel
theorem dX7_end_45 : decode cX7_end 45 = .ok (.iadd, 1) := by decide +kernel
theorem dX7_end_46 : decode cX7_end 46 = .ok (.iaload, 1) := by decide +kernel
theorem dX7_end_47 : decode cX7_end 47 = .ok (.bipush 9, 2) := by decide +kernel
theorem dX7_end_49 : decode cX7_end 49 = .ok (.if_icmp .ne 10, 3) := by decide +kernel
theorem dX7_end_52 : decode cX7_end 52 = .ok (.iload 4, 2) := by decide +kernel
theorem dX7_end_54 : decode cX7_end 54 = .ok (.iconst 1, 1) := by decide +kernel
theorem dX7_end_55 : decode cX7_end 55 = .ok (.iadd, 1) := by decide +kernel
theorem dX7_end_56 : decode cX7_end 56 = .ok (.goto 10, 3) := by decide +kernel
theorem dX7_end_59 : decode cX7_end 59 = .ok (.aload_n 0, 1) := by decide +kernel
theorem dX7_end_60 : decode cX7_end 60 = .ok (.aload_n 1, 1) := by decide +kernel
theorem dX7_end_61 : decode cX7_end 61 = .ok (.iload 4, 2) := by decide +kernel
theorem dX7_end_63 : decode cX7_end 63 = .ok (.invokevirtual 106, 3) := by decide +kernel
theorem dX7_end_66 : decode cX7_end 66 = .ok (.istore 4, 2) := by decide +kernel
theorem dX7_end_68 : decode cX7_end 68 = .ok (.iinc 5 1, 3) := by decide +kernel
theorem dX7_end_71 : decode cX7_end 71 = .ok (.goto (-56), 3) := by decide +kernel
theorem dX7_end_74 : decode cX7_end 74 = .ok (.iload 4, 2) := by decide +kernel
theorem dX7_end_76 : decode cX7_end 76 = .ok (.ireturn, 1) := by decide +kernel
theorem dX7_value_0 : decode cX7_value 0 = .ok (.aload_n 0, 1) := by decide +kernel
theorem dX7_value_1 : decode cX7_value 1 = .ok (.getfield 43, 3) := by decide +kernel
theorem dX7_value_4 : decode cX7_value 4 = .ok (.sipush 300, 3) := by decide +kernel
theorem dX7_value_7 : decode cX7_value 7 = .ok (.iload_n 1, 1) := by decide +kernel
theorem dX7_value_8 : decode cX7_value 8 = .ok (.imul, 1) := by decide +kernel
theorem dX7_value_9 : decode cX7_value 9 = .ok (.iload_n 2, 1) := by decide +kernel
theorem dX7_value_10 : decode cX7_value 10 = .ok (.iadd, 1) := by decide +kernel
theorem dX7_value_11 : decode cX7_value 11 = .ok (.iaload, 1) := by decide +kernel
theorem dX7_value_12 : decode cX7_value 12 = .ok (.ireturn, 1) := by decide +kernel
theorem dX7_choices_0 : decode cX7_choices 0 = .ok (.iload_n 1, 1) := by decide +kernel
theorem dX7_choices_1 : decode cX7_choices 1 = .ok (.iconst (-1), 1) := by decide +kernel
theorem dX7_choices_2 : decode cX7_choices 2 = .ok (.if_icmp .ne 14, 3) := by decide +kernel
theorem dX7_choices_5 : decode cX7_choices 5 = .ok (.iconst 1, 1) := by decide +kernel
theorem dX7_choices_6 : decode cX7_choices 6 = .ok (.anewarray 29, 3) := by decide +kernel
theorem dX7_choices_9 : decode cX7_choices 9 = .ok (.dup, 1) := by decide +kernel
theorem dX7_choices_10 : decode cX7_choices 10 = .ok (.iconst 0, 1) := by decide +kernel
theorem dX7_choices_11 : decode cX7_choices 11 = .ok (.iconst 0, 1) := by decide +kernel
theorem dX7_choices_12 : decode cX7_choices 12 = .ok (.newarray .int, 2) := by decide +kernel
theorem dX7_choices_14 : decode cX7_choices 14 = .ok (.aastore, 1) := by decide +kernel
theorem dX7_choices_15 : decode cX7_choices 15 = .ok (.areturn, 1) := by decide +kernel
theorem dX7_choices_16 : decode cX7_choices 16 = .ok (.iload_n 1, 1) := by decide +kernel
theorem dX7_choices_17 : decode cX7_choices 17 = .ok (.bipush 9, 2) := by decide +kernel
theorem dX7_choices_19 : decode cX7_choices 19 = .ok (.if_icmp .ne 58, 3) := by decide +kernel
theorem dX7_choices_22 : decode cX7_choices 22 = .ok (.aload_n 0, 1) := by decide +kernel
theorem dX7_choices_23 : decode cX7_choices 23 = .ok (.getfield 7, 3) := by decide +kernel
theorem dX7_choices_26 : decode cX7_choices 26 = .ok (.aload_n 0, 1) := by decide +kernel
theorem dX7_choices_27 : decode cX7_choices 27 = .ok (.getfield 66, 3) := by decide +kernel
theorem dX7_choices_30 : decode cX7_choices 30 = .ok (.isub, 1) := by decide +kernel
theorem dX7_choices_31 : decode cX7_choices 31 = .ok (.iconst 1, 1) := by decide +kernel
theorem dX7_choices_32 : decode cX7_choices 32 = .ok (.iadd, 1) := by decide +kernel
theorem dX7_choices_33 : decode cX7_choices 33 = .ok (.anewarray 29, 3) := by decide +kernel
theorem dX7_choices_36 : decode cX7_choices 36 = .ok (.astore_n 3, 1) := by decide +kernel
theorem dX7_choices_37 : decode cX7_choices 37 = .ok (.aload_n 0, 1) := by decide +kernel
theorem dX7_choices_38 : decode cX7_choices 38 = .ok (.getfield 66, 3) := by decide +kernel
theorem dX7_choices_41 : decode cX7_choices 41 = .ok (.istore 4, 2) := by decide +kernel
theorem dX7_choices_43 : decode cX7_choices 43 = .ok (.iload 4, 2) := by decide +kernel
theorem dX7_choices_45 : decode cX7_choices 45 = .ok (.aload_n 0, 1) := by decide +kernel
theorem dX7_choices_46 : decode cX7_choices 46 = .ok (.getfield 7, 3) := by decide +kernel
theorem dX7_choices_49 : decode cX7_choices 49 = .ok (.if_icmp .gt 26, 3) := by decide +kernel
theorem dX7_choices_52 : decode cX7_choices 52 = .ok (.aload_n 3, 1) := by decide +kernel
theorem dX7_choices_53 : decode cX7_choices 53 = .ok (.iload 4, 2) := by decide +kernel
theorem dX7_choices_55 : decode cX7_choices 55 = .ok (.aload_n 0, 1) := by decide +kernel
theorem dX7_choices_56 : decode cX7_choices 56 = .ok (.getfield 66, 3) := by decide +kernel
theorem dX7_choices_59 : decode cX7_choices 59 = .ok (.isub, 1) := by decide +kernel
theorem dX7_choices_60 : decode cX7_choices 60 = .ok (.iconst 1, 1) := by decide +kernel
theorem dX7_choices_61 : decode cX7_choices 61 = .ok (.newarray .int, 2) := by decide +kernel
theorem dX7_choices_63 : decode cX7_choices 63 = .ok (.dup, 1) := by decide +kernel
theorem dX7_choices_64 : decode cX7_choices 64 = .ok (.iconst 0, 1) := by decide +kernel
theorem dX7_choices_65 : decode cX7_choices 65 = .ok (.iload 4, 2) := by decide +kernel
theorem dX7_choices_67 : decode cX7_choices 67 = .ok (.iastore, 1) := by decide +kernel
theorem dX7_choices_68 : decode cX7_choices 68 = .ok (.aastore, 1) := by decide +kernel
theorem dX7_choices_69 : decode cX7_choices 69 = .ok (.iinc 4 1, 3) := by decide +kernel
theorem dX7_choices_72 : decode cX7_choices 72 = .ok (.goto (-29), 3) := by decide +kernel
theorem dX7_choices_75 : decode cX7_choices 75 = .ok (.aload_n 3, 1) := by decide +kernel
theorem dX7_choices_76 : decode cX7_choices 76 = .ok (.areturn, 1) := by decide +kernel
theorem dX7_choices_77 : decode cX7_choices 77 = .ok (.iconst 0, 1) := by decide +kernel
theorem dX7_choices_78 : decode cX7_choices 78 = .ok (.istore_n 3, 1) := by decide +kernel
theorem dX7_choices_79 : decode cX7_choices 79 = .ok (.iload_n 3, 1) := by decide +kernel
theorem dX7_choices_80 : decode cX7_choices 80 = .ok (.aload_n 0, 1) := by decide +kernel
theorem dX7_choices_81 : decode cX7_choices 81 = .ok (.getfield 40, 3) := by decide +kernel
theorem dX7_choices_84 : decode cX7_choices 84 = .ok (.iload_n 1, 1) := by decide +kernel
theorem dX7_choices_85 : decode cX7_choices 85 = .ok (.iaload, 1) := by decide +kernel
theorem dX7_choices_86 : decode cX7_choices 86 = .ok (.if_icmp .ge 24, 3) := by decide +kernel
theorem dX7_choices_89 : decode cX7_choices 89 = .ok (.aload_n 0, 1) := by decide +kernel
theorem dX7_choices_90 : decode cX7_choices 90 = .ok (.getfield 34, 3) := by decide +kernel
theorem dX7_choices_93 : decode cX7_choices 93 = .ok (.aload_n 0, 1) := by decide +kernel
theorem dX7_choices_94 : decode cX7_choices 94 = .ok (.iload_n 1, 1) := by decide +kernel
theorem dX7_choices_95 : decode cX7_choices 95 = .ok (.iload_n 3, 1) := by decide +kernel
theorem dX7_choices_96 : decode cX7_choices 96 = .ok (.invokevirtual 110, 3) := by decide +kernel
theorem dX7_choices_99 : decode cX7_choices 99 = .ok (.iaload, 1) := by decide +kernel
theorem dX7_choices_100 : decode cX7_choices 100 = .ok (.iload_n 2, 1) := by decide +kernel
theorem dX7_choices_101 : decode cX7_choices 101 = .ok (.if_icmp .gt 9, 3) := by decide +kernel
theorem dX7_choices_104 : decode cX7_choices 104 = .ok (.iinc 3 1, 3) := by decide +kernel
theorem dX7_choices_107 : decode cX7_choices 107 = .ok (.goto (-28), 3) := by decide +kernel
theorem dX7_choices_110 : decode cX7_choices 110 = .ok (.iload_n 3, 1) := by decide +kernel
theorem dX7_choices_111 : decode cX7_choices 111 = .ok (.anewarray 29, 3) := by decide +kernel
theorem dX7_choices_114 : decode cX7_choices 114 = .ok (.astore 4, 2) := by decide +kernel
theorem dX7_choices_116 : decode cX7_choices 116 = .ok (.iconst 0, 1) := by decide +kernel
theorem dX7_choices_117 : decode cX7_choices 117 = .ok (.istore 5, 2) := by decide +kernel
theorem dX7_choices_119 : decode cX7_choices 119 = .ok (.iload 5, 2) := by decide +kernel
theorem dX7_choices_121 : decode cX7_choices 121 = .ok (.iload_n 3, 1) := by decide +kernel
theorem dX7_choices_122 : decode cX7_choices 122 = .ok (.if_icmp .ge 26, 3) := by decide +kernel
theorem dX7_choices_125 : decode cX7_choices 125 = .ok (.aload 4, 2) := by decide +kernel
theorem dX7_choices_127 : decode cX7_choices 127 = .ok (.iload 5, 2) := by decide +kernel
theorem dX7_choices_129 : decode cX7_choices 129 = .ok (.aload_n 0, 1) := by decide +kernel
theorem dX7_choices_130 : decode cX7_choices 130 = .ok (.getfield 30, 3) := by decide +kernel
theorem dX7_choices_133 : decode cX7_choices 133 = .ok (.aload_n 0, 1) := by decide +kernel
theorem dX7_choices_134 : decode cX7_choices 134 = .ok (.iload_n 1, 1) := by decide +kernel
theorem dX7_choices_135 : decode cX7_choices 135 = .ok (.iload 5, 2) := by decide +kernel
theorem dX7_choices_137 : decode cX7_choices 137 = .ok (.invokevirtual 110, 3) := by decide +kernel
theorem dX7_choices_140 : decode cX7_choices 140 = .ok (.aaload, 1) := by decide +kernel
theorem dX7_choices_141 : decode cX7_choices 141 = .ok (.aastore, 1) := by decide +kernel
theorem dX7_choices_142 : decode cX7_choices 142 = .ok (.iinc 5 1, 3) := by decide +kernel
theorem dX7_choices_145 : decode cX7_choices 145 = .ok (.goto (-26), 3) := by decide +kernel
theorem dX7_choices_148 : decode cX7_choices 148 = .ok (.aload 4, 2) := by decide +kernel
theorem dX7_choices_150 : decode cX7_choices 150 = .ok (.areturn, 1) := by decide +kernel
theorem dX7_constructorsIn_0 : decode cX7_constructorsIn 0 = .ok (.iconst 0, 1) := by decide +kernel
theorem dX7_constructorsIn_1 : decode cX7_constructorsIn 1 = .ok (.istore_n 1, 1) := by decide +kernel
theorem dX7_constructorsIn_2 : decode cX7_constructorsIn 2 = .ok (.iconst 0, 1) := by decide +kernel
theorem dX7_constructorsIn_3 : decode cX7_constructorsIn 3 = .ok (.istore_n 2, 1) := by decide +kernel
theorem dX7_constructorsIn_4 : decode cX7_constructorsIn 4 = .ok (.iload_n 2, 1) := by decide +kernel
theorem dX7_constructorsIn_5 : decode cX7_constructorsIn 5 = .ok (.aload_n 0, 1) := by decide +kernel
theorem dX7_constructorsIn_6 : decode cX7_constructorsIn 6 = .ok (.arraylength, 1) := by decide +kernel
theorem dX7_constructorsIn_7 : decode cX7_constructorsIn 7 = .ok (.if_icmp .ge 25, 3) := by decide +kernel
theorem dX7_constructorsIn_10 : decode cX7_constructorsIn 10 = .ok (.iload_n 1, 1) := by decide +kernel
theorem dX7_constructorsIn_11 : decode cX7_constructorsIn 11 = .ok (.aload_n 0, 1) := by decide +kernel
theorem dX7_constructorsIn_12 : decode cX7_constructorsIn 12 = .ok (.iload_n 2, 1) := by decide +kernel
theorem dX7_constructorsIn_13 : decode cX7_constructorsIn 13 = .ok (.iaload, 1) := by decide +kernel
theorem dX7_constructorsIn_14 : decode cX7_constructorsIn 14 = .ok (.bipush 100, 2) := by decide +kernel
theorem dX7_constructorsIn_16 : decode cX7_constructorsIn 16 = .ok (.if_icmp .lt 7, 3) := by decide +kernel
theorem dX7_constructorsIn_19 : decode cX7_constructorsIn 19 = .ok (.iconst 1, 1) := by decide +kernel
theorem dX7_constructorsIn_20 : decode cX7_constructorsIn 20 = .ok (.goto 4, 3) := by decide +kernel
theorem dX7_constructorsIn_23 : decode cX7_constructorsIn 23 = .ok (.iconst 0, 1) := by decide +kernel
theorem dX7_constructorsIn_24 : decode cX7_constructorsIn 24 = .ok (.iadd, 1) := by decide +kernel
theorem dX7_constructorsIn_25 : decode cX7_constructorsIn 25 = .ok (.istore_n 1, 1) := by decide +kernel
theorem dX7_constructorsIn_26 : decode cX7_constructorsIn 26 = .ok (.iinc 2 1, 3) := by decide +kernel
theorem dX7_constructorsIn_29 : decode cX7_constructorsIn 29 = .ok (.goto (-25), 3) := by decide +kernel
theorem dX7_constructorsIn_32 : decode cX7_constructorsIn 32 = .ok (.iload_n 1, 1) := by decide +kernel
theorem dX7_constructorsIn_33 : decode cX7_constructorsIn 33 = .ok (.ireturn, 1) := by decide +kernel
theorem dX7_write_0 : decode cX7_write 0 = .ok (.aload_n 0, 1) := by decide +kernel
theorem dX7_write_1 : decode cX7_write 1 = .ok (.aload_n 0, 1) := by decide +kernel
theorem dX7_write_2 : decode cX7_write 2 = .ok (.getfield 17, 3) := by decide +kernel
theorem dX7_write_5 : decode cX7_write 5 = .ok (.iconst 3, 1) := by decide +kernel
theorem dX7_write_6 : decode cX7_write 6 = .ok (.iload_n 1, 1) := by decide +kernel
theorem dX7_write_7 : decode cX7_write 7 = .ok (.imul, 1) := by decide +kernel
theorem dX7_write_8 : decode cX7_write 8 = .ok (.iaload, 1) := by decide +kernel
theorem dX7_write_9 : decode cX7_write 9 = .ok (.iload_n 2, 1) := by decide +kernel
theorem dX7_write_10 : decode cX7_write 10 = .ok (.iconst 1, 1) := by decide +kernel
theorem dX7_write_11 : decode cX7_write 11 = .ok (.isub, 1) := by decide +kernel
theorem dX7_write_12 : decode cX7_write 12 = .ok (.invokevirtual 113, 3) := by decide +kernel
theorem dX7_write_15 : decode cX7_write 15 = .ok (.astore_n 3, 1) := by decide +kernel
theorem dX7_write_16 : decode cX7_write 16 = .ok (.aload_n 0, 1) := by decide +kernel
theorem dX7_write_17 : decode cX7_write 17 = .ok (.aload_n 0, 1) := by decide +kernel
theorem dX7_write_18 : decode cX7_write 18 = .ok (.getfield 17, 3) := by decide +kernel
theorem dX7_write_21 : decode cX7_write 21 = .ok (.iconst 3, 1) := by decide +kernel
theorem dX7_write_22 : decode cX7_write 22 = .ok (.iload_n 1, 1) := by decide +kernel
theorem dX7_write_23 : decode cX7_write 23 = .ok (.imul, 1) := by decide +kernel
theorem dX7_write_24 : decode cX7_write 24 = .ok (.iconst 1, 1) := by decide +kernel
theorem dX7_write_25 : decode cX7_write 25 = .ok (.iadd, 1) := by decide +kernel
theorem dX7_write_26 : decode cX7_write 26 = .ok (.iaload, 1) := by decide +kernel
theorem dX7_write_27 : decode cX7_write 27 = .ok (.iload_n 2, 1) := by decide +kernel
theorem dX7_write_28 : decode cX7_write 28 = .ok (.iconst 1, 1) := by decide +kernel
theorem dX7_write_29 : decode cX7_write 29 = .ok (.isub, 1) := by decide +kernel
theorem dX7_write_30 : decode cX7_write 30 = .ok (.invokevirtual 113, 3) := by decide +kernel
theorem dX7_write_33 : decode cX7_write 33 = .ok (.astore 4, 2) := by decide +kernel
theorem dX7_write_35 : decode cX7_write 35 = .ok (.aload_n 0, 1) := by decide +kernel
theorem dX7_write_36 : decode cX7_write 36 = .ok (.aload_n 0, 1) := by decide +kernel
theorem dX7_write_37 : decode cX7_write 37 = .ok (.getfield 17, 3) := by decide +kernel
theorem dX7_write_40 : decode cX7_write 40 = .ok (.iconst 3, 1) := by decide +kernel
theorem dX7_write_41 : decode cX7_write 41 = .ok (.iload_n 1, 1) := by decide +kernel
theorem dX7_write_42 : decode cX7_write 42 = .ok (.imul, 1) := by decide +kernel
theorem dX7_write_43 : decode cX7_write 43 = .ok (.iconst 2, 1) := by decide +kernel
theorem dX7_write_44 : decode cX7_write 44 = .ok (.iadd, 1) := by decide +kernel
theorem dX7_write_45 : decode cX7_write 45 = .ok (.iaload, 1) := by decide +kernel
theorem dX7_write_46 : decode cX7_write 46 = .ok (.iload_n 2, 1) := by decide +kernel
theorem dX7_write_47 : decode cX7_write 47 = .ok (.iconst 1, 1) := by decide +kernel
theorem dX7_write_48 : decode cX7_write 48 = .ok (.isub, 1) := by decide +kernel
theorem dX7_write_49 : decode cX7_write 49 = .ok (.invokevirtual 113, 3) := by decide +kernel
theorem dX7_write_52 : decode cX7_write 52 = .ok (.astore 5, 2) := by decide +kernel
theorem dX7_write_54 : decode cX7_write 54 = .ok (.aload_n 3, 1) := by decide +kernel
theorem dX7_write_55 : decode cX7_write 55 = .ok (.astore 6, 2) := by decide +kernel
theorem dX7_write_57 : decode cX7_write 57 = .ok (.aload 6, 2) := by decide +kernel
theorem dX7_write_59 : decode cX7_write 59 = .ok (.arraylength, 1) := by decide +kernel
theorem dX7_write_60 : decode cX7_write 60 = .ok (.istore 7, 2) := by decide +kernel
theorem dX7_write_62 : decode cX7_write 62 = .ok (.iconst 0, 1) := by decide +kernel
theorem dX7_write_63 : decode cX7_write 63 = .ok (.istore 8, 2) := by decide +kernel
theorem dX7_write_65 : decode cX7_write 65 = .ok (.iload 8, 2) := by decide +kernel
theorem dX7_write_67 : decode cX7_write 67 = .ok (.iload 7, 2) := by decide +kernel
theorem dX7_write_69 : decode cX7_write 69 = .ok (.if_icmp .ge 349, 3) := by decide +kernel
theorem dX7_write_72 : decode cX7_write 72 = .ok (.aload 6, 2) := by decide +kernel
theorem dX7_write_74 : decode cX7_write 74 = .ok (.iload 8, 2) := by decide +kernel
theorem dX7_write_76 : decode cX7_write 76 = .ok (.aaload, 1) := by decide +kernel
theorem dX7_write_77 : decode cX7_write 77 = .ok (.astore 9, 2) := by decide +kernel
theorem dX7_write_79 : decode cX7_write 79 = .ok (.iload_n 2, 1) := by decide +kernel
theorem dX7_write_80 : decode cX7_write 80 = .ok (.iconst 1, 1) := by decide +kernel
theorem dX7_write_81 : decode cX7_write 81 = .ok (.isub, 1) := by decide +kernel
theorem dX7_write_82 : decode cX7_write 82 = .ok (.aload 9, 2) := by decide +kernel
theorem dX7_write_84 : decode cX7_write 84 = .ok (.invokestatic 117, 3) := by decide +kernel
theorem dX7_write_87 : decode cX7_write 87 = .ok (.isub, 1) := by decide +kernel
theorem dX7_write_88 : decode cX7_write 88 = .ok (.istore 10, 2) := by decide +kernel
theorem dX7_write_90 : decode cX7_write 90 = .ok (.aload 4, 2) := by decide +kernel
theorem dX7_write_92 : decode cX7_write 92 = .ok (.astore 11, 2) := by decide +kernel
theorem dX7_write_94 : decode cX7_write 94 = .ok (.aload 11, 2) := by decide +kernel
theorem dX7_write_96 : decode cX7_write 96 = .ok (.arraylength, 1) := by decide +kernel
theorem dX7_write_97 : decode cX7_write 97 = .ok (.istore 12, 2) := by decide +kernel
theorem dX7_write_99 : decode cX7_write 99 = .ok (.iconst 0, 1) := by decide +kernel
theorem dX7_write_100 : decode cX7_write 100 = .ok (.istore 13, 2) := by decide +kernel
theorem dX7_write_102 : decode cX7_write 102 = .ok (.iload 13, 2) := by decide +kernel
theorem dX7_write_104 : decode cX7_write 104 = .ok (.iload 12, 2) := by decide +kernel
theorem dX7_write_106 : decode cX7_write 106 = .ok (.if_icmp .ge 306, 3) := by decide +kernel
theorem dX7_write_109 : decode cX7_write 109 = .ok (.aload 11, 2) := by decide +kernel
theorem dX7_write_111 : decode cX7_write 111 = .ok (.iload 13, 2) := by decide +kernel
theorem dX7_write_113 : decode cX7_write 113 = .ok (.aaload, 1) := by decide +kernel
theorem dX7_write_114 : decode cX7_write 114 = .ok (.astore 14, 2) := by decide +kernel
theorem dX7_write_116 : decode cX7_write 116 = .ok (.iload 10, 2) := by decide +kernel
theorem dX7_write_118 : decode cX7_write 118 = .ok (.aload 14, 2) := by decide +kernel
theorem dX7_write_120 : decode cX7_write 120 = .ok (.invokestatic 117, 3) := by decide +kernel
theorem dX7_write_123 : decode cX7_write 123 = .ok (.isub, 1) := by decide +kernel
theorem dX7_write_124 : decode cX7_write 124 = .ok (.istore 15, 2) := by decide +kernel
theorem dX7_write_126 : decode cX7_write 126 = .ok (.iload 15, 2) := by decide +kernel
theorem dX7_write_128 : decode cX7_write 128 = .ok (.ifCond .ge 6, 3) := by decide +kernel
theorem dX7_write_131 : decode cX7_write 131 = .ok (.goto 275, 3) := by decide +kernel
theorem dX7_write_134 : decode cX7_write 134 = .ok (.aload 5, 2) := by decide +kernel
theorem dX7_write_136 : decode cX7_write 136 = .ok (.astore 16, 2) := by decide +kernel
theorem dX7_write_138 : decode cX7_write 138 = .ok (.aload 16, 2) := by decide +kernel
theorem dX7_write_140 : decode cX7_write 140 = .ok (.arraylength, 1) := by decide +kernel
theorem dX7_write_141 : decode cX7_write 141 = .ok (.istore 17, 2) := by decide +kernel
theorem dX7_write_143 : decode cX7_write 143 = .ok (.iconst 0, 1) := by decide +kernel
theorem dX7_write_144 : decode cX7_write 144 = .ok (.istore 18, 2) := by decide +kernel
theorem dX7_write_146 : decode cX7_write 146 = .ok (.iload 18, 2) := by decide +kernel
theorem dX7_write_148 : decode cX7_write 148 = .ok (.iload 17, 2) := by decide +kernel
theorem dX7_write_150 : decode cX7_write 150 = .ok (.if_icmp .ge 256, 3) := by decide +kernel
theorem dX7_write_153 : decode cX7_write 153 = .ok (.aload 16, 2) := by decide +kernel
theorem dX7_write_155 : decode cX7_write 155 = .ok (.iload 18, 2) := by decide +kernel
theorem dX7_write_157 : decode cX7_write 157 = .ok (.aaload, 1) := by decide +kernel
theorem dX7_write_158 : decode cX7_write 158 = .ok (.astore 19, 2) := by decide +kernel
theorem dX7_write_160 : decode cX7_write 160 = .ok (.aload 19, 2) := by decide +kernel
theorem dX7_write_162 : decode cX7_write 162 = .ok (.invokestatic 117, 3) := by decide +kernel
theorem dX7_write_165 : decode cX7_write 165 = .ok (.iload 15, 2) := by decide +kernel
theorem dX7_write_167 : decode cX7_write 167 = .ok (.if_icmp .eq 6, 3) := by decide +kernel
theorem dX7_write_170 : decode cX7_write 170 = .ok (.goto 230, 3) := by decide +kernel
theorem dX7_write_173 : decode cX7_write 173 = .ok (.iconst 1, 1) := by decide +kernel
theorem dX7_write_174 : decode cX7_write 174 = .ok (.aload 9, 2) := by decide +kernel
theorem dX7_write_176 : decode cX7_write 176 = .ok (.arraylength, 1) := by decide +kernel
theorem dX7_write_177 : decode cX7_write 177 = .ok (.iadd, 1) := by decide +kernel
theorem dX7_write_178 : decode cX7_write 178 = .ok (.aload 14, 2) := by decide +kernel
theorem dX7_write_180 : decode cX7_write 180 = .ok (.arraylength, 1) := by decide +kernel
theorem dX7_write_181 : decode cX7_write 181 = .ok (.iadd, 1) := by decide +kernel
theorem dX7_write_182 : decode cX7_write 182 = .ok (.aload 19, 2) := by decide +kernel
theorem dX7_write_184 : decode cX7_write 184 = .ok (.arraylength, 1) := by decide +kernel
theorem dX7_write_185 : decode cX7_write 185 = .ok (.iadd, 1) := by decide +kernel
theorem dX7_write_186 : decode cX7_write 186 = .ok (.istore 20, 2) := by decide +kernel
theorem dX7_write_188 : decode cX7_write 188 = .ok (.aload_n 0, 1) := by decide +kernel
theorem dX7_write_189 : decode cX7_write 189 = .ok (.getfield 46, 3) := by decide +kernel
theorem dX7_write_192 : decode cX7_write 192 = .ok (.iconst 0, 1) := by decide +kernel
theorem dX7_write_193 : decode cX7_write 193 = .ok (.bipush 100, 2) := by decide +kernel
theorem dX7_write_195 : decode cX7_write 195 = .ok (.iload_n 1, 1) := by decide +kernel
theorem dX7_write_196 : decode cX7_write 196 = .ok (.iadd, 1) := by decide +kernel
theorem dX7_write_197 : decode cX7_write 197 = .ok (.iastore, 1) := by decide +kernel
theorem dX7_write_198 : decode cX7_write 198 = .ok (.aload 9, 2) := by decide +kernel
theorem dX7_write_200 : decode cX7_write 200 = .ok (.iconst 0, 1) := by decide +kernel
theorem dX7_write_201 : decode cX7_write 201 = .ok (.aload_n 0, 1) := by decide +kernel
theorem dX7_write_202 : decode cX7_write 202 = .ok (.getfield 46, 3) := by decide +kernel
theorem dX7_write_205 : decode cX7_write 205 = .ok (.iconst 1, 1) := by decide +kernel
theorem dX7_write_206 : decode cX7_write 206 = .ok (.aload 9, 2) := by decide +kernel
theorem dX7_write_208 : decode cX7_write 208 = .ok (.arraylength, 1) := by decide +kernel
theorem dX7_write_209 : decode cX7_write 209 = .ok (.invokestatic 121, 3) := by decide +kernel
theorem dX7_write_212 : decode cX7_write 212 = .ok (.aload 14, 2) := by decide +kernel
theorem dX7_write_214 : decode cX7_write 214 = .ok (.iconst 0, 1) := by decide +kernel
theorem dX7_write_215 : decode cX7_write 215 = .ok (.aload_n 0, 1) := by decide +kernel
theorem dX7_write_216 : decode cX7_write 216 = .ok (.getfield 46, 3) := by decide +kernel
theorem dX7_write_219 : decode cX7_write 219 = .ok (.iconst 1, 1) := by decide +kernel
theorem dX7_write_220 : decode cX7_write 220 = .ok (.aload 9, 2) := by decide +kernel
theorem dX7_write_222 : decode cX7_write 222 = .ok (.arraylength, 1) := by decide +kernel
theorem dX7_write_223 : decode cX7_write 223 = .ok (.iadd, 1) := by decide +kernel
theorem dX7_write_224 : decode cX7_write 224 = .ok (.aload 14, 2) := by decide +kernel
theorem dX7_write_226 : decode cX7_write 226 = .ok (.arraylength, 1) := by decide +kernel
theorem dX7_write_227 : decode cX7_write 227 = .ok (.invokestatic 121, 3) := by decide +kernel
theorem dX7_write_230 : decode cX7_write 230 = .ok (.aload 19, 2) := by decide +kernel
theorem dX7_write_232 : decode cX7_write 232 = .ok (.iconst 0, 1) := by decide +kernel
theorem dX7_write_233 : decode cX7_write 233 = .ok (.aload_n 0, 1) := by decide +kernel
theorem dX7_write_234 : decode cX7_write 234 = .ok (.getfield 46, 3) := by decide +kernel
theorem dX7_write_237 : decode cX7_write 237 = .ok (.iconst 1, 1) := by decide +kernel
theorem dX7_write_238 : decode cX7_write 238 = .ok (.aload 9, 2) := by decide +kernel
theorem dX7_write_240 : decode cX7_write 240 = .ok (.arraylength, 1) := by decide +kernel
theorem dX7_write_241 : decode cX7_write 241 = .ok (.iadd, 1) := by decide +kernel
theorem dX7_write_242 : decode cX7_write 242 = .ok (.aload 14, 2) := by decide +kernel
theorem dX7_write_244 : decode cX7_write 244 = .ok (.arraylength, 1) := by decide +kernel
theorem dX7_write_245 : decode cX7_write 245 = .ok (.iadd, 1) := by decide +kernel
theorem dX7_write_246 : decode cX7_write 246 = .ok (.aload 19, 2) := by decide +kernel
theorem dX7_write_248 : decode cX7_write 248 = .ok (.arraylength, 1) := by decide +kernel
theorem dX7_write_249 : decode cX7_write 249 = .ok (.invokestatic 121, 3) := by decide +kernel
theorem dX7_write_252 : decode cX7_write 252 = .ok (.aload_n 0, 1) := by decide +kernel
theorem dX7_write_253 : decode cX7_write 253 = .ok (.aload_n 0, 1) := by decide +kernel
theorem dX7_write_254 : decode cX7_write 254 = .ok (.getfield 46, 3) := by decide +kernel
theorem dX7_write_257 : decode cX7_write 257 = .ok (.iload 20, 2) := by decide +kernel
theorem dX7_write_259 : decode cX7_write 259 = .ok (.iconst 0, 1) := by decide +kernel
theorem dX7_write_260 : decode cX7_write 260 = .ok (.aload_n 0, 1) := by decide +kernel
theorem dX7_write_261 : decode cX7_write 261 = .ok (.getfield 13, 3) := by decide +kernel
theorem dX7_write_264 : decode cX7_write 264 = .ok (.iload_n 1, 1) := by decide +kernel
theorem dX7_write_265 : decode cX7_write 265 = .ok (.iaload, 1) := by decide +kernel
theorem dX7_write_266 : decode cX7_write 266 = .ok (.invokevirtual 83, 3) := by decide +kernel
theorem dX7_write_269 : decode cX7_write 269 = .ok (.iconst (-1), 1) := by decide +kernel
theorem dX7_write_270 : decode cX7_write 270 = .ok (.if_icmp .ne 6, 3) := by decide +kernel
theorem dX7_write_273 : decode cX7_write 273 = .ok (.goto 127, 3) := by decide +kernel
theorem dX7_write_276 : decode cX7_write 276 = .ok (.aload_n 0, 1) := by decide +kernel
theorem dX7_write_277 : decode cX7_write 277 = .ok (.getfield 127, 3) := by decide +kernel
theorem dX7_write_280 : decode cX7_write 280 = .ok (.sipush 300, 3) := by decide +kernel
theorem dX7_write_283 : decode cX7_write 283 = .ok (.if_icmp .ne 5, 3) := by decide +kernel
theorem dX7_write_286 : decode cX7_write 286 = .ok (.iconst 0, 1) := by decide +kernel
theorem dX7_write_287 : decode cX7_write 287 = .ok (.ireturn, 1) := by decide +kernel
theorem dX7_write_288 : decode cX7_write 288 = .ok (.aload_n 0, 1) := by decide +kernel
theorem dX7_write_289 : decode cX7_write 289 = .ok (.getfield 30, 3) := by decide +kernel
theorem dX7_write_292 : decode cX7_write 292 = .ok (.aload_n 0, 1) := by decide +kernel
theorem dX7_write_293 : decode cX7_write 293 = .ok (.getfield 127, 3) := by decide +kernel
theorem dX7_write_296 : decode cX7_write 296 = .ok (.iload 20, 2) := by decide +kernel
theorem dX7_write_298 : decode cX7_write 298 = .ok (.newarray .int, 2) := by decide +kernel
theorem dX7_write_300 : decode cX7_write 300 = .ok (.aastore, 1) := by decide +kernel
theorem dX7_write_301 : decode cX7_write 301 = .ok (.aload_n 0, 1) := by decide +kernel
theorem dX7_write_302 : decode cX7_write 302 = .ok (.getfield 46, 3) := by decide +kernel
theorem dX7_write_305 : decode cX7_write 305 = .ok (.iconst 0, 1) := by decide +kernel
theorem dX7_write_306 : decode cX7_write 306 = .ok (.aload_n 0, 1) := by decide +kernel
theorem dX7_write_307 : decode cX7_write 307 = .ok (.getfield 30, 3) := by decide +kernel
theorem dX7_write_310 : decode cX7_write 310 = .ok (.aload_n 0, 1) := by decide +kernel
theorem dX7_write_311 : decode cX7_write 311 = .ok (.getfield 127, 3) := by decide +kernel
theorem dX7_write_314 : decode cX7_write 314 = .ok (.aaload, 1) := by decide +kernel
theorem dX7_write_315 : decode cX7_write 315 = .ok (.iconst 0, 1) := by decide +kernel
theorem dX7_write_316 : decode cX7_write 316 = .ok (.iload 20, 2) := by decide +kernel
theorem dX7_write_318 : decode cX7_write 318 = .ok (.invokestatic 121, 3) := by decide +kernel
theorem dX7_write_321 : decode cX7_write 321 = .ok (.aload_n 0, 1) := by decide +kernel
theorem dX7_write_322 : decode cX7_write 322 = .ok (.getfield 34, 3) := by decide +kernel
theorem dX7_write_325 : decode cX7_write 325 = .ok (.aload_n 0, 1) := by decide +kernel
theorem dX7_write_326 : decode cX7_write 326 = .ok (.getfield 127, 3) := by decide +kernel
theorem dX7_write_329 : decode cX7_write 329 = .ok (.iload_n 2, 1) := by decide +kernel
theorem dX7_write_330 : decode cX7_write 330 = .ok (.iastore, 1) := by decide +kernel
theorem dX7_write_331 : decode cX7_write 331 = .ok (.aload_n 0, 1) := by decide +kernel
theorem dX7_write_332 : decode cX7_write 332 = .ok (.getfield 37, 3) := by decide +kernel
theorem dX7_write_335 : decode cX7_write 335 = .ok (.aload_n 0, 1) := by decide +kernel
theorem dX7_write_336 : decode cX7_write 336 = .ok (.getfield 127, 3) := by decide +kernel
theorem dX7_write_339 : decode cX7_write 339 = .ok (.aload_n 0, 1) := by decide +kernel
theorem dX7_write_340 : decode cX7_write 340 = .ok (.getfield 90, 3) := by decide +kernel
theorem dX7_write_343 : decode cX7_write 343 = .ok (.iastore, 1) := by decide +kernel
theorem dX7_write_344 : decode cX7_write 344 = .ok (.aload_n 0, 1) := by decide +kernel
theorem dX7_write_345 : decode cX7_write 345 = .ok (.getfield 43, 3) := by decide +kernel
theorem dX7_write_348 : decode cX7_write 348 = .ok (.sipush 300, 3) := by decide +kernel
theorem dX7_write_351 : decode cX7_write 351 = .ok (.aload_n 0, 1) := by decide +kernel
theorem dX7_write_352 : decode cX7_write 352 = .ok (.getfield 13, 3) := by decide +kernel
theorem dX7_write_355 : decode cX7_write 355 = .ok (.iload_n 1, 1) := by decide +kernel
theorem dX7_write_356 : decode cX7_write 356 = .ok (.iaload, 1) := by decide +kernel
theorem dX7_write_357 : decode cX7_write 357 = .ok (.imul, 1) := by decide +kernel
theorem dX7_write_358 : decode cX7_write 358 = .ok (.aload_n 0, 1) := by decide +kernel
theorem dX7_write_359 : decode cX7_write 359 = .ok (.getfield 40, 3) := by decide +kernel
theorem dX7_write_362 : decode cX7_write 362 = .ok (.aload_n 0, 1) := by decide +kernel
theorem dX7_write_363 : decode cX7_write 363 = .ok (.getfield 13, 3) := by decide +kernel
theorem dX7_write_366 : decode cX7_write 366 = .ok (.iload_n 1, 1) := by decide +kernel
theorem dX7_write_367 : decode cX7_write 367 = .ok (.iaload, 1) := by decide +kernel
theorem dX7_write_368 : decode cX7_write 368 = .ok (.iaload, 1) := by decide +kernel
theorem dX7_write_369 : decode cX7_write 369 = .ok (.iadd, 1) := by decide +kernel
theorem dX7_write_370 : decode cX7_write 370 = .ok (.aload_n 0, 1) := by decide +kernel
theorem dX7_write_371 : decode cX7_write 371 = .ok (.getfield 127, 3) := by decide +kernel
theorem dX7_write_374 : decode cX7_write 374 = .ok (.iastore, 1) := by decide +kernel
theorem dX7_write_375 : decode cX7_write 375 = .ok (.aload_n 0, 1) := by decide +kernel
theorem dX7_write_376 : decode cX7_write 376 = .ok (.getfield 40, 3) := by decide +kernel
theorem dX7_write_379 : decode cX7_write 379 = .ok (.aload_n 0, 1) := by decide +kernel
theorem dX7_write_380 : decode cX7_write 380 = .ok (.getfield 13, 3) := by decide +kernel
theorem dX7_write_383 : decode cX7_write 383 = .ok (.iload_n 1, 1) := by decide +kernel
theorem dX7_write_384 : decode cX7_write 384 = .ok (.iaload, 1) := by decide +kernel
theorem dX7_write_385 : decode cX7_write 385 = .ok (.dup2, 1) := by decide +kernel
theorem dX7_write_386 : decode cX7_write 386 = .ok (.iaload, 1) := by decide +kernel
theorem dX7_write_387 : decode cX7_write 387 = .ok (.iconst 1, 1) := by decide +kernel
theorem dX7_write_388 : decode cX7_write 388 = .ok (.iadd, 1) := by decide +kernel
theorem dX7_write_389 : decode cX7_write 389 = .ok (.iastore, 1) := by decide +kernel
theorem dX7_write_390 : decode cX7_write 390 = .ok (.aload_n 0, 1) := by decide +kernel
theorem dX7_write_391 : decode cX7_write 391 = .ok (.dup, 1) := by decide +kernel
theorem dX7_write_392 : decode cX7_write 392 = .ok (.getfield 127, 3) := by decide +kernel
theorem dX7_write_395 : decode cX7_write 395 = .ok (.iconst 1, 1) := by decide +kernel
theorem dX7_write_396 : decode cX7_write 396 = .ok (.iadd, 1) := by decide +kernel
theorem dX7_write_397 : decode cX7_write 397 = .ok (.putfield 127, 3) := by decide +kernel
theorem dX7_write_400 : decode cX7_write 400 = .ok (.iinc 18 1, 3) := by decide +kernel
theorem dX7_write_403 : decode cX7_write 403 = .ok (.goto (-257), 3) := by decide +kernel
theorem dX7_write_406 : decode cX7_write 406 = .ok (.iinc 13 1, 3) := by decide +kernel
theorem dX7_write_409 : decode cX7_write 409 = .ok (.goto (-307), 3) := by decide +kernel
theorem dX7_write_412 : decode cX7_write 412 = .ok (.iinc 8 1, 3) := by decide +kernel
theorem dX7_write_415 : decode cX7_write 415 = .ok (.goto (-350), 3) := by decide +kernel
theorem dX7_write_418 : decode cX7_write 418 = .ok (.iconst 1, 1) := by decide +kernel
theorem dX7_write_419 : decode cX7_write 419 = .ok (.ireturn, 1) := by decide +kernel
theorem dX7_make_0 : decode cX7_make 0 = .ok (.aload_n 0, 1) := by decide +kernel
theorem dX7_make_1 : decode cX7_make 1 = .ok (.getfield 62, 3) := by decide +kernel
theorem dX7_make_4 : decode cX7_make 4 = .ok (.ifCond .eq 4, 3) := by decide +kernel
theorem dX7_make_7 : decode cX7_make 7 = .ok (.return_, 1) := by decide +kernel
theorem dX7_make_8 : decode cX7_make 8 = .ok (.aload_n 0, 1) := by decide +kernel
theorem dX7_make_9 : decode cX7_make 9 = .ok (.iconst 1, 1) := by decide +kernel
theorem dX7_make_10 : decode cX7_make 10 = .ok (.putfield 62, 3) := by decide +kernel
theorem dX7_make_13 : decode cX7_make 13 = .ok (.aload_n 0, 1) := by decide +kernel
theorem dX7_make_14 : decode cX7_make 14 = .ok (.iconst 0, 1) := by decide +kernel
theorem dX7_make_15 : decode cX7_make 15 = .ok (.putfield 130, 3) := by decide +kernel
theorem dX7_make_18 : decode cX7_make 18 = .ok (.aload_n 0, 1) := by decide +kernel
theorem dX7_make_19 : decode cX7_make 19 = .ok (.iconst 0, 1) := by decide +kernel
theorem dX7_make_20 : decode cX7_make 20 = .ok (.putfield 127, 3) := by decide +kernel
theorem dX7_make_23 : decode cX7_make 23 = .ok (.iconst 0, 1) := by decide +kernel
theorem dX7_make_24 : decode cX7_make 24 = .ok (.istore_n 1, 1) := by decide +kernel
theorem dX7_make_25 : decode cX7_make 25 = .ok (.iload_n 1, 1) := by decide +kernel
theorem dX7_make_26 : decode cX7_make 26 = .ok (.iconst 4, 1) := by decide +kernel
theorem dX7_make_27 : decode cX7_make 27 = .ok (.if_icmp .ge 16, 3) := by decide +kernel
theorem dX7_make_30 : decode cX7_make 30 = .ok (.aload_n 0, 1) := by decide +kernel
theorem dX7_make_31 : decode cX7_make 31 = .ok (.getfield 40, 3) := by decide +kernel
theorem dX7_make_34 : decode cX7_make 34 = .ok (.iload_n 1, 1) := by decide +kernel
theorem dX7_make_35 : decode cX7_make 35 = .ok (.iconst 0, 1) := by decide +kernel
theorem dX7_make_36 : decode cX7_make 36 = .ok (.iastore, 1) := by decide +kernel
theorem dX7_make_37 : decode cX7_make 37 = .ok (.iinc 1 1, 3) := by decide +kernel
theorem dX7_make_40 : decode cX7_make 40 = .ok (.goto (-15), 3) := by decide +kernel
theorem dX7_make_43 : decode cX7_make 43 = .ok (.iconst 1, 1) := by decide +kernel
theorem dX7_make_44 : decode cX7_make 44 = .ok (.istore_n 1, 1) := by decide +kernel
theorem dX7_make_45 : decode cX7_make 45 = .ok (.iload_n 1, 1) := by decide +kernel
theorem dX7_make_46 : decode cX7_make 46 = .ok (.ifCond .eq 129, 3) := by decide +kernel
theorem dX7_make_49 : decode cX7_make 49 = .ok (.aload_n 0, 1) := by decide +kernel
theorem dX7_make_50 : decode cX7_make 50 = .ok (.getfield 130, 3) := by decide +kernel
theorem dX7_make_53 : decode cX7_make 53 = .ok (.bipush 8, 2) := by decide +kernel
theorem dX7_make_55 : decode cX7_make 55 = .ok (.if_icmp .ge 120, 3) := by decide +kernel
theorem dX7_make_58 : decode cX7_make 58 = .ok (.iconst 4, 1) := by decide +kernel
theorem dX7_make_59 : decode cX7_make 59 = .ok (.newarray .int, 2) := by decide +kernel
theorem dX7_make_61 : decode cX7_make 61 = .ok (.astore_n 2, 1) := by decide +kernel
theorem dX7_make_62 : decode cX7_make 62 = .ok (.iconst 0, 1) := by decide +kernel
theorem dX7_make_63 : decode cX7_make 63 = .ok (.istore_n 3, 1) := by decide +kernel
theorem dX7_make_64 : decode cX7_make 64 = .ok (.iload_n 3, 1) := by decide +kernel
theorem dX7_make_65 : decode cX7_make 65 = .ok (.iconst 4, 1) := by decide +kernel
theorem dX7_make_66 : decode cX7_make 66 = .ok (.if_icmp .ge 18, 3) := by decide +kernel
theorem dX7_make_69 : decode cX7_make 69 = .ok (.aload_n 2, 1) := by decide +kernel
theorem dX7_make_70 : decode cX7_make 70 = .ok (.iload_n 3, 1) := by decide +kernel
theorem dX7_make_71 : decode cX7_make 71 = .ok (.aload_n 0, 1) := by decide +kernel
theorem dX7_make_72 : decode cX7_make 72 = .ok (.getfield 40, 3) := by decide +kernel
theorem dX7_make_75 : decode cX7_make 75 = .ok (.iload_n 3, 1) := by decide +kernel
theorem dX7_make_76 : decode cX7_make 76 = .ok (.iaload, 1) := by decide +kernel
theorem dX7_make_77 : decode cX7_make 77 = .ok (.iastore, 1) := by decide +kernel
theorem dX7_make_78 : decode cX7_make 78 = .ok (.iinc 3 1, 3) := by decide +kernel
theorem dX7_make_81 : decode cX7_make 81 = .ok (.goto (-17), 3) := by decide +kernel
theorem dX7_make_84 : decode cX7_make 84 = .ok (.aload_n 0, 1) := by decide +kernel
theorem dX7_make_85 : decode cX7_make 85 = .ok (.getfield 127, 3) := by decide +kernel
theorem dX7_make_88 : decode cX7_make 88 = .ok (.istore_n 3, 1) := by decide +kernel
theorem dX7_make_89 : decode cX7_make 89 = .ok (.iconst 0, 1) := by decide +kernel
theorem dX7_make_90 : decode cX7_make 90 = .ok (.istore 4, 2) := by decide +kernel
theorem dX7_make_92 : decode cX7_make 92 = .ok (.iload 4, 2) := by decide +kernel
theorem dX7_make_94 : decode cX7_make 94 = .ok (.aload_n 0, 1) := by decide +kernel
theorem dX7_make_95 : decode cX7_make 95 = .ok (.getfield 80, 3) := by decide +kernel
theorem dX7_make_98 : decode cX7_make 98 = .ok (.if_icmp .ge 26, 3) := by decide +kernel
theorem dX7_make_101 : decode cX7_make 101 = .ok (.iload_n 1, 1) := by decide +kernel
theorem dX7_make_102 : decode cX7_make 102 = .ok (.ifCond .eq 22, 3) := by decide +kernel
theorem dX7_make_105 : decode cX7_make 105 = .ok (.aload_n 0, 1) := by decide +kernel
theorem dX7_make_106 : decode cX7_make 106 = .ok (.iload 4, 2) := by decide +kernel
theorem dX7_make_108 : decode cX7_make 108 = .ok (.aload_n 0, 1) := by decide +kernel
theorem dX7_make_109 : decode cX7_make 109 = .ok (.getfield 130, 3) := by decide +kernel
theorem dX7_make_112 : decode cX7_make 112 = .ok (.iconst 1, 1) := by decide +kernel
theorem dX7_make_113 : decode cX7_make 113 = .ok (.iadd, 1) := by decide +kernel
theorem dX7_make_114 : decode cX7_make 114 = .ok (.invokevirtual 133, 3) := by decide +kernel
theorem dX7_make_117 : decode cX7_make 117 = .ok (.istore_n 1, 1) := by decide +kernel
theorem dX7_make_118 : decode cX7_make 118 = .ok (.iinc 4 1, 3) := by decide +kernel
theorem dX7_make_121 : decode cX7_make 121 = .ok (.goto (-29), 3) := by decide +kernel
theorem dX7_make_124 : decode cX7_make 124 = .ok (.iload_n 1, 1) := by decide +kernel
theorem dX7_make_125 : decode cX7_make 125 = .ok (.ifCond .eq 16, 3) := by decide +kernel
theorem dX7_make_128 : decode cX7_make 128 = .ok (.aload_n 0, 1) := by decide +kernel
theorem dX7_make_129 : decode cX7_make 129 = .ok (.dup, 1) := by decide +kernel
theorem dX7_make_130 : decode cX7_make 130 = .ok (.getfield 130, 3) := by decide +kernel
theorem dX7_make_133 : decode cX7_make 133 = .ok (.iconst 1, 1) := by decide +kernel
theorem dX7_make_134 : decode cX7_make 134 = .ok (.iadd, 1) := by decide +kernel
theorem dX7_make_135 : decode cX7_make 135 = .ok (.putfield 130, 3) := by decide +kernel
theorem dX7_make_138 : decode cX7_make 138 = .ok (.goto 34, 3) := by decide +kernel
theorem dX7_make_141 : decode cX7_make 141 = .ok (.aload_n 0, 1) := by decide +kernel
theorem dX7_make_142 : decode cX7_make 142 = .ok (.iload_n 3, 1) := by decide +kernel
theorem dX7_make_143 : decode cX7_make 143 = .ok (.putfield 127, 3) := by decide +kernel
theorem dX7_make_146 : decode cX7_make 146 = .ok (.iconst 0, 1) := by decide +kernel
theorem dX7_make_147 : decode cX7_make 147 = .ok (.istore 4, 2) := by decide +kernel
theorem dX7_make_149 : decode cX7_make 149 = .ok (.iload 4, 2) := by decide +kernel
theorem dX7_make_151 : decode cX7_make 151 = .ok (.iconst 4, 1) := by decide +kernel
theorem dX7_make_152 : decode cX7_make 152 = .ok (.if_icmp .ge 20, 3) := by decide +kernel
theorem dX7_make_155 : decode cX7_make 155 = .ok (.aload_n 0, 1) := by decide +kernel
theorem dX7_make_156 : decode cX7_make 156 = .ok (.getfield 40, 3) := by decide +kernel
theorem dX7_make_159 : decode cX7_make 159 = .ok (.iload 4, 2) := by decide +kernel
theorem dX7_make_161 : decode cX7_make 161 = .ok (.aload_n 2, 1) := by decide +kernel
theorem dX7_make_162 : decode cX7_make 162 = .ok (.iload 4, 2) := by decide +kernel
theorem dX7_make_164 : decode cX7_make 164 = .ok (.iaload, 1) := by decide +kernel
theorem dX7_make_165 : decode cX7_make 165 = .ok (.iastore, 1) := by decide +kernel
theorem dX7_make_166 : decode cX7_make 166 = .ok (.iinc 4 1, 3) := by decide +kernel
theorem dX7_make_169 : decode cX7_make 169 = .ok (.goto (-20), 3) := by decide +kernel
theorem dX7_make_172 : decode cX7_make 172 = .ok (.goto (-127), 3) := by decide +kernel
theorem dX7_make_175 : decode cX7_make 175 = .ok (.return_, 1) := by decide +kernel
theorem dX7_horizon_0 : decode cX7_horizon 0 = .ok (.aload_n 0, 1) := by decide +kernel
theorem dX7_horizon_1 : decode cX7_horizon 1 = .ok (.iconst 0, 1) := by decide +kernel
theorem dX7_horizon_2 : decode cX7_horizon 2 = .ok (.putfield 52, 3) := by decide +kernel
theorem dX7_horizon_5 : decode cX7_horizon 5 = .ok (.aload_n 0, 1) := by decide +kernel
theorem dX7_horizon_6 : decode cX7_horizon 6 = .ok (.invokevirtual 137, 3) := by decide +kernel
theorem dX7_horizon_9 : decode cX7_horizon 9 = .ok (.aload_n 0, 1) := by decide +kernel
theorem dX7_horizon_10 : decode cX7_horizon 10 = .ok (.getfield 130, 3) := by decide +kernel
theorem dX7_horizon_13 : decode cX7_horizon 13 = .ok (.ireturn, 1) := by decide +kernel
theorem dX7_asks_0 : decode cX7_asks 0 = .ok (.aload_n 0, 1) := by decide +kernel
theorem dX7_asks_1 : decode cX7_asks 1 = .ok (.aload_n 0, 1) := by decide +kernel
theorem dX7_asks_2 : decode cX7_asks 2 = .ok (.iload_n 1, 1) := by decide +kernel
theorem dX7_asks_3 : decode cX7_asks 3 = .ok (.invokevirtual 76, 3) := by decide +kernel
theorem dX7_asks_6 : decode cX7_asks 6 = .ok (.ifCond .ne 7, 3) := by decide +kernel
theorem dX7_asks_9 : decode cX7_asks 9 = .ok (.iconst 1, 1) := by decide +kernel
theorem dX7_asks_10 : decode cX7_asks 10 = .ok (.goto 18, 3) := by decide +kernel
theorem dX7_asks_13 : decode cX7_asks 13 = .ok (.iload_n 2, 1) := by decide +kernel
theorem dX7_asks_14 : decode cX7_asks 14 = .ok (.iconst 1, 1) := by decide +kernel
theorem dX7_asks_15 : decode cX7_asks 15 = .ok (.bipush 8, 2) := by decide +kernel
theorem dX7_asks_17 : decode cX7_asks 17 = .ok (.invokestatic 58, 3) := by decide +kernel
theorem dX7_asks_20 : decode cX7_asks 20 = .ok (.ifCond .ne 7, 3) := by decide +kernel
theorem dX7_asks_23 : decode cX7_asks 23 = .ok (.iconst 2, 1) := by decide +kernel
theorem dX7_asks_24 : decode cX7_asks 24 = .ok (.goto 4, 3) := by decide +kernel
theorem dX7_asks_27 : decode cX7_asks 27 = .ok (.iconst 0, 1) := by decide +kernel
theorem dX7_asks_28 : decode cX7_asks 28 = .ok (.putfield 52, 3) := by decide +kernel
theorem dX7_asks_31 : decode cX7_asks 31 = .ok (.aload_n 0, 1) := by decide +kernel
theorem dX7_asks_32 : decode cX7_asks 32 = .ok (.getfield 52, 3) := by decide +kernel
theorem dX7_asks_35 : decode cX7_asks 35 = .ok (.ifCond .eq 5, 3) := by decide +kernel
theorem dX7_asks_38 : decode cX7_asks 38 = .ok (.iconst 0, 1) := by decide +kernel
theorem dX7_asks_39 : decode cX7_asks 39 = .ok (.ireturn, 1) := by decide +kernel
theorem dX7_asks_40 : decode cX7_asks 40 = .ok (.aload_n 0, 1) := by decide +kernel
theorem dX7_asks_41 : decode cX7_asks 41 = .ok (.invokevirtual 137, 3) := by decide +kernel
theorem dX7_asks_44 : decode cX7_asks 44 = .ok (.iload_n 2, 1) := by decide +kernel
theorem dX7_asks_45 : decode cX7_asks 45 = .ok (.aload_n 0, 1) := by decide +kernel
theorem dX7_asks_46 : decode cX7_asks 46 = .ok (.getfield 130, 3) := by decide +kernel
theorem dX7_asks_49 : decode cX7_asks 49 = .ok (.if_icmp .le 8, 3) := by decide +kernel
theorem dX7_asks_52 : decode cX7_asks 52 = .ok (.aload_n 0, 1) := by decide +kernel
theorem dX7_asks_53 : decode cX7_asks 53 = .ok (.iconst 3, 1) := by decide +kernel
theorem dX7_asks_54 : decode cX7_asks 54 = .ok (.putfield 52, 3) := by decide +kernel
theorem dX7_asks_57 : decode cX7_asks 57 = .ok (.aload_n 0, 1) := by decide +kernel
theorem dX7_asks_58 : decode cX7_asks 58 = .ok (.getfield 52, 3) := by decide +kernel
theorem dX7_asks_61 : decode cX7_asks 61 = .ok (.ifCond .ne 7, 3) := by decide +kernel
theorem dX7_asks_64 : decode cX7_asks 64 = .ok (.iconst 1, 1) := by decide +kernel
theorem dX7_asks_65 : decode cX7_asks 65 = .ok (.goto 4, 3) := by decide +kernel
theorem dX7_asks_68 : decode cX7_asks 68 = .ok (.iconst 0, 1) := by decide +kernel
theorem dX7_asks_69 : decode cX7_asks 69 = .ok (.ireturn, 1) := by decide +kernel
theorem dX7_upTo_0 : decode cX7_upTo 0 = .ok (.iconst 0, 1) := by decide +kernel
theorem dX7_upTo_1 : decode cX7_upTo 1 = .ok (.istore_n 3, 1) := by decide +kernel
theorem dX7_upTo_2 : decode cX7_upTo 2 = .ok (.iconst 0, 1) := by decide +kernel
theorem dX7_upTo_3 : decode cX7_upTo 3 = .ok (.istore 4, 2) := by decide +kernel
theorem dX7_upTo_5 : decode cX7_upTo 5 = .ok (.iload 4, 2) := by decide +kernel
theorem dX7_upTo_7 : decode cX7_upTo 7 = .ok (.aload_n 0, 1) := by decide +kernel
theorem dX7_upTo_8 : decode cX7_upTo 8 = .ok (.getfield 40, 3) := by decide +kernel
theorem dX7_upTo_11 : decode cX7_upTo 11 = .ok (.iload_n 1, 1) := by decide +kernel
theorem dX7_upTo_12 : decode cX7_upTo 12 = .ok (.iaload, 1) := by decide +kernel
theorem dX7_upTo_13 : decode cX7_upTo 13 = .ok (.if_icmp .ge 33, 3) := by decide +kernel
theorem dX7_upTo_16 : decode cX7_upTo 16 = .ok (.iload_n 3, 1) := by decide +kernel
theorem dX7_upTo_17 : decode cX7_upTo 17 = .ok (.aload_n 0, 1) := by decide +kernel
theorem dX7_upTo_18 : decode cX7_upTo 18 = .ok (.getfield 34, 3) := by decide +kernel
theorem dX7_upTo_21 : decode cX7_upTo 21 = .ok (.aload_n 0, 1) := by decide +kernel
theorem dX7_upTo_22 : decode cX7_upTo 22 = .ok (.iload_n 1, 1) := by decide +kernel
theorem dX7_upTo_23 : decode cX7_upTo 23 = .ok (.iload 4, 2) := by decide +kernel
theorem dX7_upTo_25 : decode cX7_upTo 25 = .ok (.invokevirtual 110, 3) := by decide +kernel
theorem dX7_upTo_28 : decode cX7_upTo 28 = .ok (.iaload, 1) := by decide +kernel
theorem dX7_upTo_29 : decode cX7_upTo 29 = .ok (.iload_n 2, 1) := by decide +kernel
theorem dX7_upTo_30 : decode cX7_upTo 30 = .ok (.if_icmp .gt 7, 3) := by decide +kernel
theorem dX7_upTo_33 : decode cX7_upTo 33 = .ok (.iconst 1, 1) := by decide +kernel
theorem dX7_upTo_34 : decode cX7_upTo 34 = .ok (.goto 4, 3) := by decide +kernel
theorem dX7_upTo_37 : decode cX7_upTo 37 = .ok (.iconst 0, 1) := by decide +kernel
theorem dX7_upTo_38 : decode cX7_upTo 38 = .ok (.iadd, 1) := by decide +kernel
theorem dX7_upTo_39 : decode cX7_upTo 39 = .ok (.istore_n 3, 1) := by decide +kernel
theorem dX7_upTo_40 : decode cX7_upTo 40 = .ok (.iinc 4 1, 3) := by decide +kernel
theorem dX7_upTo_43 : decode cX7_upTo 43 = .ok (.goto (-38), 3) := by decide +kernel
theorem dX7_upTo_46 : decode cX7_upTo 46 = .ok (.iload_n 3, 1) := by decide +kernel
theorem dX7_upTo_47 : decode cX7_upTo 47 = .ok (.ireturn, 1) := by decide +kernel
theorem dX7_count_0 : decode cX7_count 0 = .ok (.aload_n 0, 1) := by decide +kernel
theorem dX7_count_1 : decode cX7_count 1 = .ok (.iload_n 1, 1) := by decide +kernel
theorem dX7_count_2 : decode cX7_count 2 = .ok (.iload_n 2, 1) := by decide +kernel
theorem dX7_count_3 : decode cX7_count 3 = .ok (.invokevirtual 140, 3) := by decide +kernel
theorem dX7_count_6 : decode cX7_count 6 = .ok (.ifCond .eq 21, 3) := by decide +kernel
theorem dX7_count_9 : decode cX7_count 9 = .ok (.aload_n 0, 1) := by decide +kernel
theorem dX7_count_10 : decode cX7_count 10 = .ok (.iload_n 1, 1) := by decide +kernel
theorem dX7_count_11 : decode cX7_count 11 = .ok (.iload_n 2, 1) := by decide +kernel
theorem dX7_count_12 : decode cX7_count 12 = .ok (.invokevirtual 143, 3) := by decide +kernel
theorem dX7_count_15 : decode cX7_count 15 = .ok (.aload_n 0, 1) := by decide +kernel
theorem dX7_count_16 : decode cX7_count 16 = .ok (.iload_n 1, 1) := by decide +kernel
theorem dX7_count_17 : decode cX7_count 17 = .ok (.iload_n 2, 1) := by decide +kernel
theorem dX7_count_18 : decode cX7_count 18 = .ok (.iconst 1, 1) := by decide +kernel
theorem dX7_count_19 : decode cX7_count 19 = .ok (.isub, 1) := by decide +kernel
theorem dX7_count_20 : decode cX7_count 20 = .ok (.invokevirtual 143, 3) := by decide +kernel
theorem dX7_count_23 : decode cX7_count 23 = .ok (.isub, 1) := by decide +kernel
theorem dX7_count_24 : decode cX7_count 24 = .ok (.goto 4, 3) := by decide +kernel
theorem dX7_count_27 : decode cX7_count 27 = .ok (.iconst 0, 1) := by decide +kernel
theorem dX7_count_28 : decode cX7_count 28 = .ok (.ireturn, 1) := by decide +kernel
theorem dX7_total_0 : decode cX7_total 0 = .ok (.aload_n 0, 1) := by decide +kernel
theorem dX7_total_1 : decode cX7_total 1 = .ok (.iload_n 1, 1) := by decide +kernel
theorem dX7_total_2 : decode cX7_total 2 = .ok (.iload_n 2, 1) := by decide +kernel
theorem dX7_total_3 : decode cX7_total 3 = .ok (.invokevirtual 140, 3) := by decide +kernel
theorem dX7_total_6 : decode cX7_total 6 = .ok (.ifCond .eq 12, 3) := by decide +kernel
theorem dX7_total_9 : decode cX7_total 9 = .ok (.aload_n 0, 1) := by decide +kernel
theorem dX7_total_10 : decode cX7_total 10 = .ok (.iload_n 1, 1) := by decide +kernel
theorem dX7_total_11 : decode cX7_total 11 = .ok (.iload_n 2, 1) := by decide +kernel
theorem dX7_total_12 : decode cX7_total 12 = .ok (.invokevirtual 143, 3) := by decide +kernel
theorem dX7_total_15 : decode cX7_total 15 = .ok (.goto 4, 3) := by decide +kernel
theorem dX7_total_18 : decode cX7_total 18 = .ok (.iconst 0, 1) := by decide +kernel
theorem dX7_total_19 : decode cX7_total 19 = .ok (.ireturn, 1) := by decide +kernel
theorem dX7_isTrueOf_0 : decode cX7_isTrueOf 0 = .ok (.aload_n 0, 1) := by decide +kernel
theorem dX7_isTrueOf_1 : decode cX7_isTrueOf 1 = .ok (.getfield 30, 3) := by decide +kernel
theorem dX7_isTrueOf_4 : decode cX7_isTrueOf 4 = .ok (.iload_n 1, 1) := by decide +kernel
theorem dX7_isTrueOf_5 : decode cX7_isTrueOf 5 = .ok (.aaload, 1) := by decide +kernel
theorem dX7_isTrueOf_6 : decode cX7_isTrueOf 6 = .ok (.astore_n 3, 1) := by decide +kernel
theorem dX7_isTrueOf_7 : decode cX7_isTrueOf 7 = .ok (.aload_n 3, 1) := by decide +kernel
theorem dX7_isTrueOf_8 : decode cX7_isTrueOf 8 = .ok (.iconst 0, 1) := by decide +kernel
theorem dX7_isTrueOf_9 : decode cX7_isTrueOf 9 = .ok (.iaload, 1) := by decide +kernel
theorem dX7_isTrueOf_10 : decode cX7_isTrueOf 10 = .ok (.bipush 100, 2) := by decide +kernel
theorem dX7_isTrueOf_12 : decode cX7_isTrueOf 12 = .ok (.isub, 1) := by decide +kernel
theorem dX7_isTrueOf_13 : decode cX7_isTrueOf 13 = .ok (.istore 4, 2) := by decide +kernel
theorem dX7_isTrueOf_15 : decode cX7_isTrueOf 15 = .ok (.iconst 1, 1) := by decide +kernel
theorem dX7_isTrueOf_16 : decode cX7_isTrueOf 16 = .ok (.istore 5, 2) := by decide +kernel
theorem dX7_isTrueOf_18 : decode cX7_isTrueOf 18 = .ok (.bipush 8, 2) := by decide +kernel
theorem dX7_isTrueOf_20 : decode cX7_isTrueOf 20 = .ok (.istore 6, 2) := by decide +kernel
theorem dX7_isTrueOf_22 : decode cX7_isTrueOf 22 = .ok (.iconst 0, 1) := by decide +kernel
theorem dX7_isTrueOf_23 : decode cX7_isTrueOf 23 = .ok (.istore 7, 2) := by decide +kernel
theorem dX7_isTrueOf_25 : decode cX7_isTrueOf 25 = .ok (.iconst 0, 1) := by decide +kernel
theorem dX7_isTrueOf_26 : decode cX7_isTrueOf 26 = .ok (.istore 8, 2) := by decide +kernel
theorem dX7_isTrueOf_28 : decode cX7_isTrueOf 28 = .ok (.iload 8, 2) := by decide +kernel
theorem dX7_isTrueOf_30 : decode cX7_isTrueOf 30 = .ok (.iconst 3, 1) := by decide +kernel
theorem dX7_isTrueOf_31 : decode cX7_isTrueOf 31 = .ok (.if_icmp .ge 87, 3) := by decide +kernel
theorem dX7_isTrueOf_34 : decode cX7_isTrueOf 34 = .ok (.aload_n 0, 1) := by decide +kernel
theorem dX7_isTrueOf_35 : decode cX7_isTrueOf 35 = .ok (.getfield 17, 3) := by decide +kernel
theorem dX7_isTrueOf_38 : decode cX7_isTrueOf 38 = .ok (.iconst 3, 1) := by decide +kernel
theorem dX7_isTrueOf_39 : decode cX7_isTrueOf 39 = .ok (.iload 4, 2) := by decide +kernel
theorem dX7_isTrueOf_41 : decode cX7_isTrueOf 41 = .ok (.imul, 1) := by decide +kernel
theorem dX7_isTrueOf_42 : decode cX7_isTrueOf 42 = .ok (.iload 8, 2) := by decide +kernel
theorem dX7_isTrueOf_44 : decode cX7_isTrueOf 44 = .ok (.iadd, 1) := by decide +kernel
theorem dX7_isTrueOf_45 : decode cX7_isTrueOf 45 = .ok (.iaload, 1) := by decide +kernel
theorem dX7_isTrueOf_46 : decode cX7_isTrueOf 46 = .ok (.iconst (-1), 1) := by decide +kernel
theorem dX7_isTrueOf_47 : decode cX7_isTrueOf 47 = .ok (.if_icmp .eq 71, 3) := by decide +kernel
theorem dX7_isTrueOf_50 : decode cX7_isTrueOf 50 = .ok (.aload_n 0, 1) := by decide +kernel
theorem dX7_isTrueOf_51 : decode cX7_isTrueOf 51 = .ok (.getfield 17, 3) := by decide +kernel
theorem dX7_isTrueOf_54 : decode cX7_isTrueOf 54 = .ok (.iconst 3, 1) := by decide +kernel
theorem dX7_isTrueOf_55 : decode cX7_isTrueOf 55 = .ok (.iload 4, 2) := by decide +kernel
theorem dX7_isTrueOf_57 : decode cX7_isTrueOf 57 = .ok (.imul, 1) := by decide +kernel
theorem dX7_isTrueOf_58 : decode cX7_isTrueOf 58 = .ok (.iload 8, 2) := by decide +kernel
theorem dX7_isTrueOf_60 : decode cX7_isTrueOf 60 = .ok (.iadd, 1) := by decide +kernel
theorem dX7_isTrueOf_61 : decode cX7_isTrueOf 61 = .ok (.iaload, 1) := by decide +kernel
theorem dX7_isTrueOf_62 : decode cX7_isTrueOf 62 = .ok (.istore 9, 2) := by decide +kernel
theorem dX7_isTrueOf_64 : decode cX7_isTrueOf 64 = .ok (.iload 9, 2) := by decide +kernel
theorem dX7_isTrueOf_66 : decode cX7_isTrueOf 66 = .ok (.bipush 9, 2) := by decide +kernel
theorem dX7_isTrueOf_68 : decode cX7_isTrueOf 68 = .ok (.if_icmp .ne 9, 3) := by decide +kernel
theorem dX7_isTrueOf_71 : decode cX7_isTrueOf 71 = .ok (.iinc 5 1, 3) := by decide +kernel
theorem dX7_isTrueOf_74 : decode cX7_isTrueOf 74 = .ok (.goto 38, 3) := by decide +kernel
theorem dX7_isTrueOf_77 : decode cX7_isTrueOf 77 = .ok (.aload_n 0, 1) := by decide +kernel
theorem dX7_isTrueOf_78 : decode cX7_isTrueOf 78 = .ok (.aload_n 3, 1) := by decide +kernel
theorem dX7_isTrueOf_79 : decode cX7_isTrueOf 79 = .ok (.aload_n 3, 1) := by decide +kernel
theorem dX7_isTrueOf_80 : decode cX7_isTrueOf 80 = .ok (.arraylength, 1) := by decide +kernel
theorem dX7_isTrueOf_81 : decode cX7_isTrueOf 81 = .ok (.iload 5, 2) := by decide +kernel
theorem dX7_isTrueOf_83 : decode cX7_isTrueOf 83 = .ok (.iload 9, 2) := by decide +kernel
theorem dX7_isTrueOf_85 : decode cX7_isTrueOf 85 = .ok (.invokevirtual 83, 3) := by decide +kernel
theorem dX7_isTrueOf_88 : decode cX7_isTrueOf 88 = .ok (.istore 5, 2) := by decide +kernel
theorem dX7_isTrueOf_90 : decode cX7_isTrueOf 90 = .ok (.iload 6, 2) := by decide +kernel
theorem dX7_isTrueOf_92 : decode cX7_isTrueOf 92 = .ok (.aload_n 0, 1) := by decide +kernel
theorem dX7_isTrueOf_93 : decode cX7_isTrueOf 93 = .ok (.getfield 90, 3) := by decide +kernel
theorem dX7_isTrueOf_96 : decode cX7_isTrueOf 96 = .ok (.invokestatic 93, 3) := by decide +kernel
theorem dX7_isTrueOf_99 : decode cX7_isTrueOf 99 = .ok (.istore 6, 2) := by decide +kernel
theorem dX7_isTrueOf_101 : decode cX7_isTrueOf 101 = .ok (.iload 7, 2) := by decide +kernel
theorem dX7_isTrueOf_103 : decode cX7_isTrueOf 103 = .ok (.aload_n 0, 1) := by decide +kernel
theorem dX7_isTrueOf_104 : decode cX7_isTrueOf 104 = .ok (.getfield 90, 3) := by decide +kernel
theorem dX7_isTrueOf_107 : decode cX7_isTrueOf 107 = .ok (.invokestatic 99, 3) := by decide +kernel
theorem dX7_isTrueOf_110 : decode cX7_isTrueOf 110 = .ok (.istore 7, 2) := by decide +kernel
theorem dX7_isTrueOf_112 : decode cX7_isTrueOf 112 = .ok (.iinc 8 1, 3) := by decide +kernel
theorem dX7_isTrueOf_115 : decode cX7_isTrueOf 115 = .ok (.goto (-87), 3) := by decide +kernel
theorem dX7_isTrueOf_118 : decode cX7_isTrueOf 118 = .ok (.aload_n 0, 1) := by decide +kernel
theorem dX7_isTrueOf_119 : decode cX7_isTrueOf 119 = .ok (.iload_n 2, 1) := by decide +kernel
theorem dX7_isTrueOf_120 : decode cX7_isTrueOf 120 = .ok (.aload_n 3, 1) := by decide +kernel
theorem dX7_isTrueOf_121 : decode cX7_isTrueOf 121 = .ok (.iconst 0, 1) := by decide +kernel
theorem dX7_isTrueOf_122 : decode cX7_isTrueOf 122 = .ok (.aload_n 3, 1) := by decide +kernel
theorem dX7_isTrueOf_123 : decode cX7_isTrueOf 123 = .ok (.arraylength, 1) := by decide +kernel
theorem dX7_isTrueOf_124 : decode cX7_isTrueOf 124 = .ok (.iload 7, 2) := by decide +kernel
theorem dX7_isTrueOf_126 : decode cX7_isTrueOf 126 = .ok (.iload 6, 2) := by decide +kernel
theorem dX7_isTrueOf_128 : decode cX7_isTrueOf 128 = .ok (.iload 7, 2) := by decide +kernel
theorem dX7_isTrueOf_130 : decode cX7_isTrueOf 130 = .ok (.invokestatic 93, 3) := by decide +kernel
theorem dX7_isTrueOf_133 : decode cX7_isTrueOf 133 = .ok (.isub, 1) := by decide +kernel
theorem dX7_isTrueOf_134 : decode cX7_isTrueOf 134 = .ok (.iload 4, 2) := by decide +kernel
theorem dX7_isTrueOf_136 : decode cX7_isTrueOf 136 = .ok (.invokevirtual 102, 3) := by decide +kernel
theorem dX7_isTrueOf_139 : decode cX7_isTrueOf 139 = .ok (.ireturn, 1) := by decide +kernel
theorem dX7_firstAgainst_0 : decode cX7_firstAgainst 0 = .ok (.aload_n 0, 1) := by decide +kernel
theorem dX7_firstAgainst_1 : decode cX7_firstAgainst 1 = .ok (.aload_n 0, 1) := by decide +kernel
theorem dX7_firstAgainst_2 : decode cX7_firstAgainst 2 = .ok (.iload_n 1, 1) := by decide +kernel
theorem dX7_firstAgainst_3 : decode cX7_firstAgainst 3 = .ok (.invokevirtual 76, 3) := by decide +kernel
theorem dX7_firstAgainst_6 : decode cX7_firstAgainst 6 = .ok (.ifCond .ne 7, 3) := by decide +kernel
theorem dX7_firstAgainst_9 : decode cX7_firstAgainst 9 = .ok (.iconst 1, 1) := by decide +kernel
theorem dX7_firstAgainst_10 : decode cX7_firstAgainst 10 = .ok (.goto 17, 3) := by decide +kernel
theorem dX7_firstAgainst_13 : decode cX7_firstAgainst 13 = .ok (.iload_n 2, 1) := by decide +kernel
theorem dX7_firstAgainst_14 : decode cX7_firstAgainst 14 = .ok (.iconst 1, 1) := by decide +kernel
theorem dX7_firstAgainst_15 : decode cX7_firstAgainst 15 = .ok (.iconst 5, 1) := by decide +kernel
theorem dX7_firstAgainst_16 : decode cX7_firstAgainst 16 = .ok (.invokestatic 58, 3) := by decide +kernel
theorem dX7_firstAgainst_19 : decode cX7_firstAgainst 19 = .ok (.ifCond .ne 7, 3) := by decide +kernel
theorem dX7_firstAgainst_22 : decode cX7_firstAgainst 22 = .ok (.iconst 2, 1) := by decide +kernel
theorem dX7_firstAgainst_23 : decode cX7_firstAgainst 23 = .ok (.goto 4, 3) := by decide +kernel
theorem dX7_firstAgainst_26 : decode cX7_firstAgainst 26 = .ok (.iconst 0, 1) := by decide +kernel
theorem dX7_firstAgainst_27 : decode cX7_firstAgainst 27 = .ok (.putfield 52, 3) := by decide +kernel
theorem dX7_firstAgainst_30 : decode cX7_firstAgainst 30 = .ok (.aload_n 0, 1) := by decide +kernel
theorem dX7_firstAgainst_31 : decode cX7_firstAgainst 31 = .ok (.getfield 52, 3) := by decide +kernel
theorem dX7_firstAgainst_34 : decode cX7_firstAgainst 34 = .ok (.ifCond .ne 12, 3) := by decide +kernel
theorem dX7_firstAgainst_37 : decode cX7_firstAgainst 37 = .ok (.aload_n 0, 1) := by decide +kernel
theorem dX7_firstAgainst_38 : decode cX7_firstAgainst 38 = .ok (.iload_n 1, 1) := by decide +kernel
theorem dX7_firstAgainst_39 : decode cX7_firstAgainst 39 = .ok (.iload_n 3, 1) := by decide +kernel
theorem dX7_firstAgainst_40 : decode cX7_firstAgainst 40 = .ok (.invokevirtual 140, 3) := by decide +kernel
theorem dX7_firstAgainst_43 : decode cX7_firstAgainst 43 = .ok (.ifCond .ne 5, 3) := by decide +kernel
theorem dX7_firstAgainst_46 : decode cX7_firstAgainst 46 = .ok (.iconst 0, 1) := by decide +kernel
theorem dX7_firstAgainst_47 : decode cX7_firstAgainst 47 = .ok (.ireturn, 1) := by decide +kernel
theorem dX7_firstAgainst_48 : decode cX7_firstAgainst 48 = .ok (.aload_n 0, 1) := by decide +kernel
theorem dX7_firstAgainst_49 : decode cX7_firstAgainst 49 = .ok (.iload_n 1, 1) := by decide +kernel
theorem dX7_firstAgainst_50 : decode cX7_firstAgainst 50 = .ok (.iload_n 3, 1) := by decide +kernel
theorem dX7_firstAgainst_51 : decode cX7_firstAgainst 51 = .ok (.invokevirtual 143, 3) := by decide +kernel
theorem dX7_firstAgainst_54 : decode cX7_firstAgainst 54 = .ok (.istore 4, 2) := by decide +kernel
theorem dX7_firstAgainst_56 : decode cX7_firstAgainst 56 = .ok (.iconst 0, 1) := by decide +kernel
theorem dX7_firstAgainst_57 : decode cX7_firstAgainst 57 = .ok (.istore 5, 2) := by decide +kernel
theorem dX7_firstAgainst_59 : decode cX7_firstAgainst 59 = .ok (.iload 5, 2) := by decide +kernel
theorem dX7_firstAgainst_61 : decode cX7_firstAgainst 61 = .ok (.iload 4, 2) := by decide +kernel
theorem dX7_firstAgainst_63 : decode cX7_firstAgainst 63 = .ok (.if_icmp .ge 27, 3) := by decide +kernel
theorem dX7_firstAgainst_66 : decode cX7_firstAgainst 66 = .ok (.aload_n 0, 1) := by decide +kernel
theorem dX7_firstAgainst_67 : decode cX7_firstAgainst 67 = .ok (.aload_n 0, 1) := by decide +kernel
theorem dX7_firstAgainst_68 : decode cX7_firstAgainst 68 = .ok (.iload_n 1, 1) := by decide +kernel
theorem dX7_firstAgainst_69 : decode cX7_firstAgainst 69 = .ok (.iload 5, 2) := by decide +kernel
theorem dX7_firstAgainst_71 : decode cX7_firstAgainst 71 = .ok (.invokevirtual 110, 3) := by decide +kernel
theorem dX7_firstAgainst_74 : decode cX7_firstAgainst 74 = .ok (.iload_n 2, 1) := by decide +kernel
theorem dX7_firstAgainst_75 : decode cX7_firstAgainst 75 = .ok (.invokevirtual 146, 3) := by decide +kernel
theorem dX7_firstAgainst_78 : decode cX7_firstAgainst 78 = .ok (.ifCond .ne 6, 3) := by decide +kernel
theorem dX7_firstAgainst_81 : decode cX7_firstAgainst 81 = .ok (.iload 5, 2) := by decide +kernel
theorem dX7_firstAgainst_83 : decode cX7_firstAgainst 83 = .ok (.ireturn, 1) := by decide +kernel
theorem dX7_firstAgainst_84 : decode cX7_firstAgainst 84 = .ok (.iinc 5 1, 3) := by decide +kernel
theorem dX7_firstAgainst_87 : decode cX7_firstAgainst 87 = .ok (.goto (-28), 3) := by decide +kernel
theorem dX7_firstAgainst_90 : decode cX7_firstAgainst 90 = .ok (.iconst (-1), 1) := by decide +kernel
theorem dX7_firstAgainst_91 : decode cX7_firstAgainst 91 = .ok (.ireturn, 1) := by decide +kernel
theorem dX7_choose_0 : decode cX7_choose 0 = .ok (.aload_n 0, 1) := by decide +kernel
theorem dX7_choose_1 : decode cX7_choose 1 = .ok (.iload_n 1, 1) := by decide +kernel
theorem dX7_choose_2 : decode cX7_choose 2 = .ok (.putfield 26, 3) := by decide +kernel
theorem dX7_choose_5 : decode cX7_choose 5 = .ok (.aload_n 0, 1) := by decide +kernel
theorem dX7_choose_6 : decode cX7_choose 6 = .ok (.iload_n 2, 1) := by decide +kernel
theorem dX7_choose_7 : decode cX7_choose 7 = .ok (.putfield 149, 3) := by decide +kernel
theorem dX7_choose_10 : decode cX7_choose 10 = .ok (.return_, 1) := by decide +kernel
theorem dX7_select_0 : decode cX7_select 0 = .ok (.aload_n 0, 1) := by decide +kernel
theorem dX7_select_1 : decode cX7_select 1 = .ok (.iconst 0, 1) := by decide +kernel
theorem dX7_select_2 : decode cX7_select 2 = .ok (.putfield 52, 3) := by decide +kernel
theorem dX7_select_5 : decode cX7_select 5 = .ok (.aload_n 0, 1) := by decide +kernel
theorem dX7_select_6 : decode cX7_select 6 = .ok (.iload_n 1, 1) := by decide +kernel
theorem dX7_select_7 : decode cX7_select 7 = .ok (.invokevirtual 76, 3) := by decide +kernel
theorem dX7_select_10 : decode cX7_select 10 = .ok (.ifCond .eq 7, 3) := by decide +kernel
theorem dX7_select_13 : decode cX7_select 13 = .ok (.iload_n 2, 1) := by decide +kernel
theorem dX7_select_14 : decode cX7_select 14 = .ok (.ifCond .ge 9, 3) := by decide +kernel
theorem dX7_select_17 : decode cX7_select 17 = .ok (.aload_n 0, 1) := by decide +kernel
theorem dX7_select_18 : decode cX7_select 18 = .ok (.iconst 1, 1) := by decide +kernel
theorem dX7_select_19 : decode cX7_select 19 = .ok (.invokevirtual 72, 3) := by decide +kernel
theorem dX7_select_22 : decode cX7_select 22 = .ok (.ireturn, 1) := by decide +kernel
theorem dX7_select_23 : decode cX7_select 23 = .ok (.aload_n 0, 1) := by decide +kernel
theorem dX7_select_24 : decode cX7_select 24 = .ok (.invokevirtual 137, 3) := by decide +kernel
theorem dX7_select_27 : decode cX7_select 27 = .ok (.iload_n 2, 1) := by decide +kernel
theorem dX7_select_28 : decode cX7_select 28 = .ok (.aload_n 0, 1) := by decide +kernel
theorem dX7_select_29 : decode cX7_select 29 = .ok (.getfield 40, 3) := by decide +kernel
theorem dX7_select_32 : decode cX7_select 32 = .ok (.iload_n 1, 1) := by decide +kernel
theorem dX7_select_33 : decode cX7_select 33 = .ok (.iaload, 1) := by decide +kernel
theorem dX7_select_34 : decode cX7_select 34 = .ok (.if_icmp .lt 22, 3) := by decide +kernel
theorem dX7_select_37 : decode cX7_select 37 = .ok (.aload_n 0, 1) := by decide +kernel
theorem dX7_select_38 : decode cX7_select 38 = .ok (.aload_n 0, 1) := by decide +kernel
theorem dX7_select_39 : decode cX7_select 39 = .ok (.getfield 130, 3) := by decide +kernel
theorem dX7_select_42 : decode cX7_select 42 = .ok (.bipush 8, 2) := by decide +kernel
theorem dX7_select_44 : decode cX7_select 44 = .ok (.if_icmp .ne 7, 3) := by decide +kernel
theorem dX7_select_47 : decode cX7_select 47 = .ok (.iconst 1, 1) := by decide +kernel
theorem dX7_select_48 : decode cX7_select 48 = .ok (.goto 4, 3) := by decide +kernel
theorem dX7_select_51 : decode cX7_select 51 = .ok (.iconst 2, 1) := by decide +kernel
theorem dX7_select_52 : decode cX7_select 52 = .ok (.invokevirtual 72, 3) := by decide +kernel
theorem dX7_select_55 : decode cX7_select 55 = .ok (.ireturn, 1) := by decide +kernel
theorem dX7_select_56 : decode cX7_select 56 = .ok (.aload_n 0, 1) := by decide +kernel
theorem dX7_select_57 : decode cX7_select 57 = .ok (.iload_n 1, 1) := by decide +kernel
theorem dX7_select_58 : decode cX7_select 58 = .ok (.iload_n 2, 1) := by decide +kernel
theorem dX7_select_59 : decode cX7_select 59 = .ok (.invokevirtual 152, 3) := by decide +kernel
theorem dX7_select_62 : decode cX7_select 62 = .ok (.aload_n 0, 1) := by decide +kernel
theorem dX7_select_63 : decode cX7_select 63 = .ok (.getfield 34, 3) := by decide +kernel
theorem dX7_select_66 : decode cX7_select 66 = .ok (.aload_n 0, 1) := by decide +kernel
theorem dX7_select_67 : decode cX7_select 67 = .ok (.iload_n 1, 1) := by decide +kernel
theorem dX7_select_68 : decode cX7_select 68 = .ok (.iload_n 2, 1) := by decide +kernel
theorem dX7_select_69 : decode cX7_select 69 = .ok (.invokevirtual 110, 3) := by decide +kernel
theorem dX7_select_72 : decode cX7_select 72 = .ok (.iaload, 1) := by decide +kernel
theorem dX7_select_73 : decode cX7_select 73 = .ok (.ireturn, 1) := by decide +kernel
theorem dX7_draw_0 : decode cX7_draw 0 = .ok (.aload_n 0, 1) := by decide +kernel
theorem dX7_draw_1 : decode cX7_draw 1 = .ok (.iload_n 1, 1) := by decide +kernel
theorem dX7_draw_2 : decode cX7_draw 2 = .ok (.iload_n 2, 1) := by decide +kernel
theorem dX7_draw_3 : decode cX7_draw 3 = .ok (.invokevirtual 140, 3) := by decide +kernel
theorem dX7_draw_6 : decode cX7_draw 6 = .ok (.ifCond .ne 5, 3) := by decide +kernel
theorem dX7_draw_9 : decode cX7_draw 9 = .ok (.iconst 0, 1) := by decide +kernel
theorem dX7_draw_10 : decode cX7_draw 10 = .ok (.ireturn, 1) := by decide +kernel
theorem dX7_draw_11 : decode cX7_draw 11 = .ok (.aload_n 0, 1) := by decide +kernel
theorem dX7_draw_12 : decode cX7_draw 12 = .ok (.iload_n 1, 1) := by decide +kernel
theorem dX7_draw_13 : decode cX7_draw 13 = .ok (.iload_n 2, 1) := by decide +kernel
theorem dX7_draw_14 : decode cX7_draw 14 = .ok (.iconst 1, 1) := by decide +kernel
theorem dX7_draw_15 : decode cX7_draw 15 = .ok (.isub, 1) := by decide +kernel
theorem dX7_draw_16 : decode cX7_draw 16 = .ok (.invokevirtual 143, 3) := by decide +kernel
theorem dX7_draw_19 : decode cX7_draw 19 = .ok (.istore 5, 2) := by decide +kernel
theorem dX7_draw_21 : decode cX7_draw 21 = .ok (.aload_n 0, 1) := by decide +kernel
theorem dX7_draw_22 : decode cX7_draw 22 = .ok (.iload_n 1, 1) := by decide +kernel
theorem dX7_draw_23 : decode cX7_draw 23 = .ok (.iload_n 2, 1) := by decide +kernel
theorem dX7_draw_24 : decode cX7_draw 24 = .ok (.invokevirtual 143, 3) := by decide +kernel
theorem dX7_draw_27 : decode cX7_draw 27 = .ok (.iload 5, 2) := by decide +kernel
theorem dX7_draw_29 : decode cX7_draw 29 = .ok (.isub, 1) := by decide +kernel
theorem dX7_draw_30 : decode cX7_draw 30 = .ok (.istore 6, 2) := by decide +kernel
theorem dX7_draw_32 : decode cX7_draw 32 = .ok (.iload 6, 2) := by decide +kernel
theorem dX7_draw_34 : decode cX7_draw 34 = .ok (.ifCond .ne 9, 3) := by decide +kernel
theorem dX7_draw_37 : decode cX7_draw 37 = .ok (.aload_n 0, 1) := by decide +kernel
theorem dX7_draw_38 : decode cX7_draw 38 = .ok (.iconst 4, 1) := by decide +kernel
theorem dX7_draw_39 : decode cX7_draw 39 = .ok (.invokevirtual 72, 3) := by decide +kernel
theorem dX7_draw_42 : decode cX7_draw 42 = .ok (.ireturn, 1) := by decide +kernel
theorem dX7_draw_43 : decode cX7_draw 43 = .ok (.lload_n 3, 1) := by decide +kernel
theorem dX7_draw_44 : decode cX7_draw 44 = .ok (.ldc2_w 156, 3) := by decide +kernel
theorem dX7_draw_47 : decode cX7_draw 47 = .ok (.lmul, 1) := by decide +kernel
theorem dX7_draw_48 : decode cX7_draw 48 = .ok (.ldc2_w 158, 3) := by decide +kernel
theorem dX7_draw_51 : decode cX7_draw 51 = .ok (.ladd, 1) := by decide +kernel
theorem dX7_draw_52 : decode cX7_draw 52 = .ok (.lstore 7, 2) := by decide +kernel
theorem dX7_draw_54 : decode cX7_draw 54 = .ok (.aload_n 0, 1) := by decide +kernel
theorem dX7_draw_55 : decode cX7_draw 55 = .ok (.iload_n 1, 1) := by decide +kernel
theorem dX7_draw_56 : decode cX7_draw 56 = .ok (.iload 5, 2) := by decide +kernel
theorem dX7_draw_58 : decode cX7_draw 58 = .ok (.lload 7, 2) := by decide +kernel
theorem dX7_draw_60 : decode cX7_draw 60 = .ok (.bipush 33, 2) := by decide +kernel
theorem dX7_draw_62 : decode cX7_draw 62 = .ok (.lushr, 1) := by decide +kernel
theorem dX7_draw_63 : decode cX7_draw 63 = .ok (.iload 6, 2) := by decide +kernel
theorem dX7_draw_65 : decode cX7_draw 65 = .ok (.i2l, 1) := by decide +kernel
theorem dX7_draw_66 : decode cX7_draw 66 = .ok (.lrem, 1) := by decide +kernel
theorem dX7_draw_67 : decode cX7_draw 67 = .ok (.l2i, 1) := by decide +kernel
theorem dX7_draw_68 : decode cX7_draw 68 = .ok (.iadd, 1) := by decide +kernel
theorem dX7_draw_69 : decode cX7_draw 69 = .ok (.invokevirtual 152, 3) := by decide +kernel
theorem dX7_draw_72 : decode cX7_draw 72 = .ok (.aload_n 0, 1) := by decide +kernel
theorem dX7_draw_73 : decode cX7_draw 73 = .ok (.getfield 149, 3) := by decide +kernel
theorem dX7_draw_76 : decode cX7_draw 76 = .ok (.ireturn, 1) := by decide +kernel
theorem dX7_tell_0 : decode cX7_tell 0 = .ok (.aload_n 0, 1) := by decide +kernel
theorem dX7_tell_1 : decode cX7_tell 1 = .ok (.iconst 0, 1) := by decide +kernel
theorem dX7_tell_2 : decode cX7_tell 2 = .ok (.putfield 52, 3) := by decide +kernel
theorem dX7_tell_5 : decode cX7_tell 5 = .ok (.iload_n 1, 1) := by decide +kernel
theorem dX7_tell_6 : decode cX7_tell 6 = .ok (.iconst 0, 1) := by decide +kernel
theorem dX7_tell_7 : decode cX7_tell 7 = .ok (.iconst 5, 1) := by decide +kernel
theorem dX7_tell_8 : decode cX7_tell 8 = .ok (.invokestatic 58, 3) := by decide +kernel
theorem dX7_tell_11 : decode cX7_tell 11 = .ok (.ifCond .ne 20, 3) := by decide +kernel
theorem dX7_tell_14 : decode cX7_tell 14 = .ok (.iload_n 1, 1) := by decide +kernel
theorem dX7_tell_15 : decode cX7_tell 15 = .ok (.bipush 100, 2) := by decide +kernel
theorem dX7_tell_17 : decode cX7_tell 17 = .ok (.bipush 105, 2) := by decide +kernel
theorem dX7_tell_19 : decode cX7_tell 19 = .ok (.invokestatic 58, 3) := by decide +kernel
theorem dX7_tell_22 : decode cX7_tell 22 = .ok (.ifCond .ne 9, 3) := by decide +kernel
theorem dX7_tell_25 : decode cX7_tell 25 = .ok (.aload_n 0, 1) := by decide +kernel
theorem dX7_tell_26 : decode cX7_tell 26 = .ok (.iconst 1, 1) := by decide +kernel
theorem dX7_tell_27 : decode cX7_tell 27 = .ok (.invokevirtual 72, 3) := by decide +kernel
theorem dX7_tell_30 : decode cX7_tell 30 = .ok (.ireturn, 1) := by decide +kernel
theorem dX7_tell_31 : decode cX7_tell 31 = .ok (.aload_n 0, 1) := by decide +kernel
theorem dX7_tell_32 : decode cX7_tell 32 = .ok (.getfield 160, 3) := by decide +kernel
theorem dX7_tell_35 : decode cX7_tell 35 = .ok (.bipush 40, 2) := by decide +kernel
theorem dX7_tell_37 : decode cX7_tell 37 = .ok (.if_icmp .ne 9, 3) := by decide +kernel
theorem dX7_tell_40 : decode cX7_tell 40 = .ok (.aload_n 0, 1) := by decide +kernel
theorem dX7_tell_41 : decode cX7_tell 41 = .ok (.iconst 2, 1) := by decide +kernel
theorem dX7_tell_42 : decode cX7_tell 42 = .ok (.invokevirtual 72, 3) := by decide +kernel
theorem dX7_tell_45 : decode cX7_tell 45 = .ok (.ireturn, 1) := by decide +kernel
theorem dX7_tell_46 : decode cX7_tell 46 = .ok (.aload_n 0, 1) := by decide +kernel
theorem dX7_tell_47 : decode cX7_tell 47 = .ok (.getfield 23, 3) := by decide +kernel
theorem dX7_tell_50 : decode cX7_tell 50 = .ok (.aload_n 0, 1) := by decide +kernel
theorem dX7_tell_51 : decode cX7_tell 51 = .ok (.getfield 160, 3) := by decide +kernel
theorem dX7_tell_54 : decode cX7_tell 54 = .ok (.iload_n 1, 1) := by decide +kernel
theorem dX7_tell_55 : decode cX7_tell 55 = .ok (.iastore, 1) := by decide +kernel
theorem dX7_tell_56 : decode cX7_tell 56 = .ok (.aload_n 0, 1) := by decide +kernel
theorem dX7_tell_57 : decode cX7_tell 57 = .ok (.dup, 1) := by decide +kernel
theorem dX7_tell_58 : decode cX7_tell 58 = .ok (.getfield 160, 3) := by decide +kernel
theorem dX7_tell_61 : decode cX7_tell 61 = .ok (.iconst 1, 1) := by decide +kernel
theorem dX7_tell_62 : decode cX7_tell 62 = .ok (.iadd, 1) := by decide +kernel
theorem dX7_tell_63 : decode cX7_tell 63 = .ok (.putfield 160, 3) := by decide +kernel
theorem dX7_tell_66 : decode cX7_tell 66 = .ok (.aload_n 0, 1) := by decide +kernel
theorem dX7_tell_67 : decode cX7_tell 67 = .ok (.getfield 160, 3) := by decide +kernel
theorem dX7_tell_70 : decode cX7_tell 70 = .ok (.ireturn, 1) := by decide +kernel
theorem dX7_find_0 : decode cX7_find 0 = .ok (.aload_n 0, 1) := by decide +kernel
theorem dX7_find_1 : decode cX7_find 1 = .ok (.invokevirtual 137, 3) := by decide +kernel
theorem dX7_find_4 : decode cX7_find 4 = .ok (.iconst 0, 1) := by decide +kernel
theorem dX7_find_5 : decode cX7_find 5 = .ok (.istore 4, 2) := by decide +kernel
theorem dX7_find_7 : decode cX7_find 7 = .ok (.iload 4, 2) := by decide +kernel
theorem dX7_find_9 : decode cX7_find 9 = .ok (.aload_n 0, 1) := by decide +kernel
theorem dX7_find_10 : decode cX7_find 10 = .ok (.getfield 40, 3) := by decide +kernel
theorem dX7_find_13 : decode cX7_find 13 = .ok (.iload_n 1, 1) := by decide +kernel
theorem dX7_find_14 : decode cX7_find 14 = .ok (.iaload, 1) := by decide +kernel
theorem dX7_find_15 : decode cX7_find 15 = .ok (.if_icmp .ge 84, 3) := by decide +kernel
theorem dX7_find_18 : decode cX7_find 18 = .ok (.aload_n 0, 1) := by decide +kernel
theorem dX7_find_19 : decode cX7_find 19 = .ok (.getfield 30, 3) := by decide +kernel
theorem dX7_find_22 : decode cX7_find 22 = .ok (.aload_n 0, 1) := by decide +kernel
theorem dX7_find_23 : decode cX7_find 23 = .ok (.iload_n 1, 1) := by decide +kernel
theorem dX7_find_24 : decode cX7_find 24 = .ok (.iload 4, 2) := by decide +kernel
theorem dX7_find_26 : decode cX7_find 26 = .ok (.invokevirtual 110, 3) := by decide +kernel
theorem dX7_find_29 : decode cX7_find 29 = .ok (.aaload, 1) := by decide +kernel
theorem dX7_find_30 : decode cX7_find 30 = .ok (.astore 5, 2) := by decide +kernel
theorem dX7_find_32 : decode cX7_find 32 = .ok (.aload 5, 2) := by decide +kernel
theorem dX7_find_34 : decode cX7_find 34 = .ok (.arraylength, 1) := by decide +kernel
theorem dX7_find_35 : decode cX7_find 35 = .ok (.iload_n 3, 1) := by decide +kernel
theorem dX7_find_36 : decode cX7_find 36 = .ok (.if_icmp .ne 7, 3) := by decide +kernel
theorem dX7_find_39 : decode cX7_find 39 = .ok (.iconst 1, 1) := by decide +kernel
theorem dX7_find_40 : decode cX7_find 40 = .ok (.goto 4, 3) := by decide +kernel
theorem dX7_find_43 : decode cX7_find 43 = .ok (.iconst 0, 1) := by decide +kernel
theorem dX7_find_44 : decode cX7_find 44 = .ok (.istore 6, 2) := by decide +kernel
theorem dX7_find_46 : decode cX7_find 46 = .ok (.iconst 0, 1) := by decide +kernel
theorem dX7_find_47 : decode cX7_find 47 = .ok (.istore 7, 2) := by decide +kernel
theorem dX7_find_49 : decode cX7_find 49 = .ok (.iload 7, 2) := by decide +kernel
theorem dX7_find_51 : decode cX7_find 51 = .ok (.iload_n 3, 1) := by decide +kernel
theorem dX7_find_52 : decode cX7_find 52 = .ok (.if_icmp .ge 33, 3) := by decide +kernel
theorem dX7_find_55 : decode cX7_find 55 = .ok (.iload 6, 2) := by decide +kernel
theorem dX7_find_57 : decode cX7_find 57 = .ok (.ifCond .eq 28, 3) := by decide +kernel
theorem dX7_find_60 : decode cX7_find 60 = .ok (.aload 5, 2) := by decide +kernel
theorem dX7_find_62 : decode cX7_find 62 = .ok (.iload 7, 2) := by decide +kernel
theorem dX7_find_64 : decode cX7_find 64 = .ok (.iaload, 1) := by decide +kernel
theorem dX7_find_65 : decode cX7_find 65 = .ok (.aload_n 2, 1) := by decide +kernel
theorem dX7_find_66 : decode cX7_find 66 = .ok (.iload 7, 2) := by decide +kernel
theorem dX7_find_68 : decode cX7_find 68 = .ok (.iaload, 1) := by decide +kernel
theorem dX7_find_69 : decode cX7_find 69 = .ok (.if_icmp .ne 7, 3) := by decide +kernel
theorem dX7_find_72 : decode cX7_find 72 = .ok (.iconst 1, 1) := by decide +kernel
theorem dX7_find_73 : decode cX7_find 73 = .ok (.goto 4, 3) := by decide +kernel
theorem dX7_find_76 : decode cX7_find 76 = .ok (.iconst 0, 1) := by decide +kernel
theorem dX7_find_77 : decode cX7_find 77 = .ok (.istore 6, 2) := by decide +kernel
theorem dX7_find_79 : decode cX7_find 79 = .ok (.iinc 7 1, 3) := by decide +kernel
theorem dX7_find_82 : decode cX7_find 82 = .ok (.goto (-33), 3) := by decide +kernel
theorem dX7_find_85 : decode cX7_find 85 = .ok (.iload 6, 2) := by decide +kernel
theorem dX7_find_87 : decode cX7_find 87 = .ok (.ifCond .eq 6, 3) := by decide +kernel
theorem dX7_find_90 : decode cX7_find 90 = .ok (.iload 4, 2) := by decide +kernel
theorem dX7_find_92 : decode cX7_find 92 = .ok (.ireturn, 1) := by decide +kernel
theorem dX7_find_93 : decode cX7_find 93 = .ok (.iinc 4 1, 3) := by decide +kernel
theorem dX7_find_96 : decode cX7_find 96 = .ok (.goto (-89), 3) := by decide +kernel
theorem dX7_find_99 : decode cX7_find 99 = .ok (.iconst (-1), 1) := by decide +kernel
theorem dX7_find_100 : decode cX7_find 100 = .ok (.ireturn, 1) := by decide +kernel
theorem dX7_read_0 : decode cX7_read 0 = .ok (.aload_n 0, 1) := by decide +kernel
theorem dX7_read_1 : decode cX7_read 1 = .ok (.iconst 0, 1) := by decide +kernel
theorem dX7_read_2 : decode cX7_read 2 = .ok (.putfield 52, 3) := by decide +kernel
theorem dX7_read_5 : decode cX7_read 5 = .ok (.aload_n 0, 1) := by decide +kernel
theorem dX7_read_6 : decode cX7_read 6 = .ok (.iload_n 1, 1) := by decide +kernel
theorem dX7_read_7 : decode cX7_read 7 = .ok (.invokevirtual 76, 3) := by decide +kernel
theorem dX7_read_10 : decode cX7_read 10 = .ok (.ifCond .ne 9, 3) := by decide +kernel
theorem dX7_read_13 : decode cX7_read 13 = .ok (.aload_n 0, 1) := by decide +kernel
theorem dX7_read_14 : decode cX7_read 14 = .ok (.iconst 1, 1) := by decide +kernel
theorem dX7_read_15 : decode cX7_read 15 = .ok (.invokevirtual 72, 3) := by decide +kernel
theorem dX7_read_18 : decode cX7_read 18 = .ok (.ireturn, 1) := by decide +kernel
theorem dX7_read_19 : decode cX7_read 19 = .ok (.aload_n 0, 1) := by decide +kernel
theorem dX7_read_20 : decode cX7_read 20 = .ok (.getfield 160, 3) := by decide +kernel
theorem dX7_read_23 : decode cX7_read 23 = .ok (.istore_n 2, 1) := by decide +kernel
theorem dX7_read_24 : decode cX7_read 24 = .ok (.aload_n 0, 1) := by decide +kernel
theorem dX7_read_25 : decode cX7_read 25 = .ok (.iconst 0, 1) := by decide +kernel
theorem dX7_read_26 : decode cX7_read 26 = .ok (.putfield 160, 3) := by decide +kernel
theorem dX7_read_29 : decode cX7_read 29 = .ok (.aload_n 0, 1) := by decide +kernel
theorem dX7_read_30 : decode cX7_read 30 = .ok (.aload_n 0, 1) := by decide +kernel
theorem dX7_read_31 : decode cX7_read 31 = .ok (.getfield 23, 3) := by decide +kernel
theorem dX7_read_34 : decode cX7_read 34 = .ok (.iload_n 2, 1) := by decide +kernel
theorem dX7_read_35 : decode cX7_read 35 = .ok (.iconst 0, 1) := by decide +kernel
theorem dX7_read_36 : decode cX7_read 36 = .ok (.iload_n 1, 1) := by decide +kernel
theorem dX7_read_37 : decode cX7_read 37 = .ok (.invokevirtual 83, 3) := by decide +kernel
theorem dX7_read_40 : decode cX7_read 40 = .ok (.istore_n 3, 1) := by decide +kernel
theorem dX7_read_41 : decode cX7_read 41 = .ok (.aload_n 0, 1) := by decide +kernel
theorem dX7_read_42 : decode cX7_read 42 = .ok (.getfield 87, 3) := by decide +kernel
theorem dX7_read_45 : decode cX7_read 45 = .ok (.istore 4, 2) := by decide +kernel
theorem dX7_read_47 : decode cX7_read 47 = .ok (.iload_n 3, 1) := by decide +kernel
theorem dX7_read_48 : decode cX7_read 48 = .ok (.iload_n 2, 1) := by decide +kernel
theorem dX7_read_49 : decode cX7_read 49 = .ok (.if_icmp .ne 10, 3) := by decide +kernel
theorem dX7_read_52 : decode cX7_read 52 = .ok (.iload 4, 2) := by decide +kernel
theorem dX7_read_54 : decode cX7_read 54 = .ok (.bipush 8, 2) := by decide +kernel
theorem dX7_read_56 : decode cX7_read 56 = .ok (.if_icmp .le 5, 3) := by decide +kernel
theorem dX7_read_59 : decode cX7_read 59 = .ok (.iconst (-1), 1) := by decide +kernel
theorem dX7_read_60 : decode cX7_read 60 = .ok (.ireturn, 1) := by decide +kernel
theorem dX7_read_61 : decode cX7_read 61 = .ok (.aload_n 0, 1) := by decide +kernel
theorem dX7_read_62 : decode cX7_read 62 = .ok (.invokevirtual 137, 3) := by decide +kernel
theorem dX7_read_65 : decode cX7_read 65 = .ok (.iload 4, 2) := by decide +kernel
theorem dX7_read_67 : decode cX7_read 67 = .ok (.aload_n 0, 1) := by decide +kernel
theorem dX7_read_68 : decode cX7_read 68 = .ok (.getfield 130, 3) := by decide +kernel
theorem dX7_read_71 : decode cX7_read 71 = .ok (.if_icmp .le 9, 3) := by decide +kernel
theorem dX7_read_74 : decode cX7_read 74 = .ok (.aload_n 0, 1) := by decide +kernel
theorem dX7_read_75 : decode cX7_read 75 = .ok (.iconst 2, 1) := by decide +kernel
theorem dX7_read_76 : decode cX7_read 76 = .ok (.invokevirtual 72, 3) := by decide +kernel
theorem dX7_read_79 : decode cX7_read 79 = .ok (.ireturn, 1) := by decide +kernel
theorem dX7_read_80 : decode cX7_read 80 = .ok (.aload_n 0, 1) := by decide +kernel
theorem dX7_read_81 : decode cX7_read 81 = .ok (.iload_n 1, 1) := by decide +kernel
theorem dX7_read_82 : decode cX7_read 82 = .ok (.aload_n 0, 1) := by decide +kernel
theorem dX7_read_83 : decode cX7_read 83 = .ok (.iload_n 1, 1) := by decide +kernel
theorem dX7_read_84 : decode cX7_read 84 = .ok (.aload_n 0, 1) := by decide +kernel
theorem dX7_read_85 : decode cX7_read 85 = .ok (.getfield 23, 3) := by decide +kernel
theorem dX7_read_88 : decode cX7_read 88 = .ok (.iload_n 2, 1) := by decide +kernel
theorem dX7_read_89 : decode cX7_read 89 = .ok (.invokevirtual 163, 3) := by decide +kernel
theorem dX7_read_92 : decode cX7_read 92 = .ok (.invokevirtual 152, 3) := by decide +kernel
theorem dX7_read_95 : decode cX7_read 95 = .ok (.aload_n 0, 1) := by decide +kernel
theorem dX7_read_96 : decode cX7_read 96 = .ok (.getfield 149, 3) := by decide +kernel
theorem dX7_read_99 : decode cX7_read 99 = .ok (.ireturn, 1) := by decide +kernel
theorem dX7_has_0 : decode cX7_has 0 = .ok (.aload_n 0, 1) := by decide +kernel
theorem dX7_has_1 : decode cX7_has 1 = .ok (.aload_n 0, 1) := by decide +kernel
theorem dX7_has_2 : decode cX7_has 2 = .ok (.getfield 26, 3) := by decide +kernel
theorem dX7_has_5 : decode cX7_has 5 = .ok (.iconst (-1), 1) := by decide +kernel
theorem dX7_has_6 : decode cX7_has 6 = .ok (.if_icmp .ne 7, 3) := by decide +kernel
theorem dX7_has_9 : decode cX7_has 9 = .ok (.iconst 1, 1) := by decide +kernel
theorem dX7_has_10 : decode cX7_has 10 = .ok (.goto 4, 3) := by decide +kernel
theorem dX7_has_13 : decode cX7_has 13 = .ok (.iconst 0, 1) := by decide +kernel
theorem dX7_has_14 : decode cX7_has 14 = .ok (.putfield 52, 3) := by decide +kernel
theorem dX7_has_17 : decode cX7_has 17 = .ok (.aload_n 0, 1) := by decide +kernel
theorem dX7_has_18 : decode cX7_has 18 = .ok (.getfield 52, 3) := by decide +kernel
theorem dX7_has_21 : decode cX7_has 21 = .ok (.ifCond .ne 7, 3) := by decide +kernel
theorem dX7_has_24 : decode cX7_has 24 = .ok (.aload_n 0, 1) := by decide +kernel
theorem dX7_has_25 : decode cX7_has 25 = .ok (.invokevirtual 137, 3) := by decide +kernel
theorem dX7_has_28 : decode cX7_has 28 = .ok (.aload_n 0, 1) := by decide +kernel
theorem dX7_has_29 : decode cX7_has 29 = .ok (.getfield 52, 3) := by decide +kernel
theorem dX7_has_32 : decode cX7_has 32 = .ok (.ifCond .ne 7, 3) := by decide +kernel
theorem dX7_has_35 : decode cX7_has 35 = .ok (.iconst 1, 1) := by decide +kernel
theorem dX7_has_36 : decode cX7_has 36 = .ok (.goto 4, 3) := by decide +kernel
theorem dX7_has_39 : decode cX7_has 39 = .ok (.iconst 0, 1) := by decide +kernel
theorem dX7_has_40 : decode cX7_has 40 = .ok (.ireturn, 1) := by decide +kernel
theorem dX7_current_0 : decode cX7_current 0 = .ok (.aload_n 0, 1) := by decide +kernel
theorem dX7_current_1 : decode cX7_current 1 = .ok (.aload_n 0, 1) := by decide +kernel
theorem dX7_current_2 : decode cX7_current 2 = .ok (.getfield 26, 3) := by decide +kernel
theorem dX7_current_5 : decode cX7_current 5 = .ok (.aload_n 0, 1) := by decide +kernel
theorem dX7_current_6 : decode cX7_current 6 = .ok (.getfield 149, 3) := by decide +kernel
theorem dX7_current_9 : decode cX7_current 9 = .ok (.invokevirtual 110, 3) := by decide +kernel
theorem dX7_current_12 : decode cX7_current 12 = .ok (.ireturn, 1) := by decide +kernel
theorem dX7_length_0 : decode cX7_length 0 = .ok (.aload_n 0, 1) := by decide +kernel
theorem dX7_length_1 : decode cX7_length 1 = .ok (.invokevirtual 167, 3) := by decide +kernel
theorem dX7_length_4 : decode cX7_length 4 = .ok (.ifCond .eq 16, 3) := by decide +kernel
theorem dX7_length_7 : decode cX7_length 7 = .ok (.aload_n 0, 1) := by decide +kernel
theorem dX7_length_8 : decode cX7_length 8 = .ok (.getfield 30, 3) := by decide +kernel
theorem dX7_length_11 : decode cX7_length 11 = .ok (.aload_n 0, 1) := by decide +kernel
theorem dX7_length_12 : decode cX7_length 12 = .ok (.invokevirtual 171, 3) := by decide +kernel
theorem dX7_length_15 : decode cX7_length 15 = .ok (.aaload, 1) := by decide +kernel
theorem dX7_length_16 : decode cX7_length 16 = .ok (.arraylength, 1) := by decide +kernel
theorem dX7_length_17 : decode cX7_length 17 = .ok (.goto 4, 3) := by decide +kernel
theorem dX7_length_20 : decode cX7_length 20 = .ok (.iconst 0, 1) := by decide +kernel
theorem dX7_length_21 : decode cX7_length 21 = .ok (.ireturn, 1) := by decide +kernel
theorem dX7_code_0 : decode cX7_code 0 = .ok (.aload_n 0, 1) := by decide +kernel
theorem dX7_code_1 : decode cX7_code 1 = .ok (.invokevirtual 167, 3) := by decide +kernel
theorem dX7_code_4 : decode cX7_code 4 = .ok (.ifCond .ne 5, 3) := by decide +kernel
theorem dX7_code_7 : decode cX7_code 7 = .ok (.iconst 0, 1) := by decide +kernel
theorem dX7_code_8 : decode cX7_code 8 = .ok (.ireturn, 1) := by decide +kernel
theorem dX7_code_9 : decode cX7_code 9 = .ok (.aload_n 0, 1) := by decide +kernel
theorem dX7_code_10 : decode cX7_code 10 = .ok (.getfield 30, 3) := by decide +kernel
theorem dX7_code_13 : decode cX7_code 13 = .ok (.aload_n 0, 1) := by decide +kernel
theorem dX7_code_14 : decode cX7_code 14 = .ok (.invokevirtual 171, 3) := by decide +kernel
theorem dX7_code_17 : decode cX7_code 17 = .ok (.aaload, 1) := by decide +kernel
theorem dX7_code_18 : decode cX7_code 18 = .ok (.astore_n 2, 1) := by decide +kernel
theorem dX7_code_19 : decode cX7_code 19 = .ok (.iload_n 1, 1) := by decide +kernel
theorem dX7_code_20 : decode cX7_code 20 = .ok (.ifCond .lt 15, 3) := by decide +kernel
theorem dX7_code_23 : decode cX7_code 23 = .ok (.iload_n 1, 1) := by decide +kernel
theorem dX7_code_24 : decode cX7_code 24 = .ok (.aload_n 2, 1) := by decide +kernel
theorem dX7_code_25 : decode cX7_code 25 = .ok (.arraylength, 1) := by decide +kernel
theorem dX7_code_26 : decode cX7_code 26 = .ok (.if_icmp .ge 9, 3) := by decide +kernel
theorem dX7_code_29 : decode cX7_code 29 = .ok (.aload_n 2, 1) := by decide +kernel
theorem dX7_code_30 : decode cX7_code 30 = .ok (.iload_n 1, 1) := by decide +kernel
theorem dX7_code_31 : decode cX7_code 31 = .ok (.iaload, 1) := by decide +kernel
theorem dX7_code_32 : decode cX7_code 32 = .ok (.goto 8, 3) := by decide +kernel
theorem dX7_code_35 : decode cX7_code 35 = .ok (.aload_n 0, 1) := by decide +kernel
theorem dX7_code_36 : decode cX7_code 36 = .ok (.iconst 2, 1) := by decide +kernel
theorem dX7_code_37 : decode cX7_code 37 = .ok (.invokevirtual 72, 3) := by decide +kernel
theorem dX7_code_40 : decode cX7_code 40 = .ok (.ireturn, 1) := by decide +kernel
theorem dX7_number_0 : decode cX7_number 0 = .ok (.aload_n 0, 1) := by decide +kernel
theorem dX7_number_1 : decode cX7_number 1 = .ok (.invokevirtual 167, 3) := by decide +kernel
theorem dX7_number_4 : decode cX7_number 4 = .ok (.ifCond .eq 10, 3) := by decide +kernel
theorem dX7_number_7 : decode cX7_number 7 = .ok (.aload_n 0, 1) := by decide +kernel
theorem dX7_number_8 : decode cX7_number 8 = .ok (.getfield 149, 3) := by decide +kernel
theorem dX7_number_11 : decode cX7_number 11 = .ok (.goto 4, 3) := by decide +kernel
theorem dX7_number_14 : decode cX7_number 14 = .ok (.iconst 0, 1) := by decide +kernel
theorem dX7_number_15 : decode cX7_number 15 = .ok (.ireturn, 1) := by decide +kernel
theorem dX7_height_0 : decode cX7_height 0 = .ok (.aload_n 0, 1) := by decide +kernel
theorem dX7_height_1 : decode cX7_height 1 = .ok (.invokevirtual 167, 3) := by decide +kernel
theorem dX7_height_4 : decode cX7_height 4 = .ok (.ifCond .eq 15, 3) := by decide +kernel
theorem dX7_height_7 : decode cX7_height 7 = .ok (.aload_n 0, 1) := by decide +kernel
theorem dX7_height_8 : decode cX7_height 8 = .ok (.getfield 37, 3) := by decide +kernel
theorem dX7_height_11 : decode cX7_height 11 = .ok (.aload_n 0, 1) := by decide +kernel
theorem dX7_height_12 : decode cX7_height 12 = .ok (.invokevirtual 171, 3) := by decide +kernel
theorem dX7_height_15 : decode cX7_height 15 = .ok (.iaload, 1) := by decide +kernel
theorem dX7_height_16 : decode cX7_height 16 = .ok (.goto 4, 3) := by decide +kernel
theorem dX7_height_19 : decode cX7_height 19 = .ok (.iconst 0, 1) := by decide +kernel
theorem dX7_height_20 : decode cX7_height 20 = .ok (.ireturn, 1) := by decide +kernel
theorem dX7_mean_0 : decode cX7_mean 0 = .ok (.aload_n 0, 1) := by decide +kernel
theorem dX7_mean_1 : decode cX7_mean 1 = .ok (.invokevirtual 167, 3) := by decide +kernel
theorem dX7_mean_4 : decode cX7_mean 4 = .ok (.ifCond .ne 5, 3) := by decide +kernel
theorem dX7_mean_7 : decode cX7_mean 7 = .ok (.dconst 0, 1) := by decide +kernel
theorem dX7_mean_8 : decode cX7_mean 8 = .ok (.dreturn, 1) := by decide +kernel
theorem dX7_mean_9 : decode cX7_mean 9 = .ok (.iconst 0, 1) := by decide +kernel
theorem dX7_mean_10 : decode cX7_mean 10 = .ok (.istore_n 1, 1) := by decide +kernel
theorem dX7_mean_11 : decode cX7_mean 11 = .ok (.iconst 0, 1) := by decide +kernel
theorem dX7_mean_12 : decode cX7_mean 12 = .ok (.istore_n 2, 1) := by decide +kernel
theorem dX7_mean_13 : decode cX7_mean 13 = .ok (.aload_n 0, 1) := by decide +kernel
theorem dX7_mean_14 : decode cX7_mean 14 = .ok (.getfield 30, 3) := by decide +kernel
theorem dX7_mean_17 : decode cX7_mean 17 = .ok (.aload_n 0, 1) := by decide +kernel
theorem dX7_mean_18 : decode cX7_mean 18 = .ok (.invokevirtual 171, 3) := by decide +kernel
theorem dX7_mean_21 : decode cX7_mean 21 = .ok (.aaload, 1) := by decide +kernel
theorem dX7_mean_22 : decode cX7_mean 22 = .ok (.astore_n 3, 1) := by decide +kernel
theorem dX7_mean_23 : decode cX7_mean 23 = .ok (.aload_n 3, 1) := by decide +kernel
theorem dX7_mean_24 : decode cX7_mean 24 = .ok (.arraylength, 1) := by decide +kernel
theorem dX7_mean_25 : decode cX7_mean 25 = .ok (.istore 4, 2) := by decide +kernel
theorem dX7_mean_27 : decode cX7_mean 27 = .ok (.iconst 0, 1) := by decide +kernel
theorem dX7_mean_28 : decode cX7_mean 28 = .ok (.istore 5, 2) := by decide +kernel
theorem dX7_mean_30 : decode cX7_mean 30 = .ok (.iload 5, 2) := by decide +kernel
theorem dX7_mean_32 : decode cX7_mean 32 = .ok (.iload 4, 2) := by decide +kernel
theorem dX7_mean_34 : decode cX7_mean 34 = .ok (.if_icmp .ge 46, 3) := by decide +kernel
theorem dX7_mean_37 : decode cX7_mean 37 = .ok (.aload_n 3, 1) := by decide +kernel
theorem dX7_mean_38 : decode cX7_mean 38 = .ok (.iload 5, 2) := by decide +kernel
theorem dX7_mean_40 : decode cX7_mean 40 = .ok (.iaload, 1) := by decide +kernel
theorem dX7_mean_41 : decode cX7_mean 41 = .ok (.istore 6, 2) := by decide +kernel
theorem dX7_mean_43 : decode cX7_mean 43 = .ok (.iload_n 1, 1) := by decide +kernel
theorem dX7_mean_44 : decode cX7_mean 44 = .ok (.iload 6, 2) := by decide +kernel
theorem dX7_mean_46 : decode cX7_mean 46 = .ok (.bipush 100, 2) := by decide +kernel
theorem dX7_mean_48 : decode cX7_mean 48 = .ok (.if_icmp .ge 8, 3) := by decide +kernel
theorem dX7_mean_51 : decode cX7_mean 51 = .ok (.iload 6, 2) := by decide +kernel
theorem dX7_mean_53 : decode cX7_mean 53 = .ok (.goto 4, 3) := by decide +kernel
theorem dX7_mean_56 : decode cX7_mean 56 = .ok (.iconst 0, 1) := by decide +kernel
theorem dX7_mean_57 : decode cX7_mean 57 = .ok (.iadd, 1) := by decide +kernel
theorem dX7_mean_58 : decode cX7_mean 58 = .ok (.istore_n 1, 1) := by decide +kernel
theorem dX7_mean_59 : decode cX7_mean 59 = .ok (.iload_n 2, 1) := by decide +kernel
theorem dX7_mean_60 : decode cX7_mean 60 = .ok (.iload 6, 2) := by decide +kernel
theorem dX7_mean_62 : decode cX7_mean 62 = .ok (.bipush 100, 2) := by decide +kernel
theorem dX7_mean_64 : decode cX7_mean 64 = .ok (.if_icmp .ge 7, 3) := by decide +kernel
theorem dX7_mean_67 : decode cX7_mean 67 = .ok (.iconst 1, 1) := by decide +kernel
theorem dX7_mean_68 : decode cX7_mean 68 = .ok (.goto 4, 3) := by decide +kernel
theorem dX7_mean_71 : decode cX7_mean 71 = .ok (.iconst 0, 1) := by decide +kernel
theorem dX7_mean_72 : decode cX7_mean 72 = .ok (.iadd, 1) := by decide +kernel
theorem dX7_mean_73 : decode cX7_mean 73 = .ok (.istore_n 2, 1) := by decide +kernel
theorem dX7_mean_74 : decode cX7_mean 74 = .ok (.iinc 5 1, 3) := by decide +kernel
theorem dX7_mean_77 : decode cX7_mean 77 = .ok (.goto (-47), 3) := by decide +kernel
theorem dX7_mean_80 : decode cX7_mean 80 = .ok (.iload_n 2, 1) := by decide +kernel
theorem dX7_mean_81 : decode cX7_mean 81 = .ok (.ifCond .ne 7, 3) := by decide +kernel
theorem dX7_mean_84 : decode cX7_mean 84 = .ok (.dconst 0, 1) := by decide +kernel
theorem dX7_mean_85 : decode cX7_mean 85 = .ok (.goto 8, 3) := by decide +kernel
theorem dX7_mean_88 : decode cX7_mean 88 = .ok (.iload_n 1, 1) := by decide +kernel
theorem dX7_mean_89 : decode cX7_mean 89 = .ok (.i2d, 1) := by decide +kernel
theorem dX7_mean_90 : decode cX7_mean 90 = .ok (.iload_n 2, 1) := by decide +kernel
theorem dX7_mean_91 : decode cX7_mean 91 = .ok (.i2d, 1) := by decide +kernel
theorem dX7_mean_92 : decode cX7_mean 92 = .ok (.ddiv, 1) := by decide +kernel
theorem dX7_mean_93 : decode cX7_mean 93 = .ok (.dreturn, 1) := by decide +kernel
theorem dX7_holds_0 : decode cX7_holds 0 = .ok (.aload_n 0, 1) := by decide +kernel
theorem dX7_holds_1 : decode cX7_holds 1 = .ok (.invokevirtual 167, 3) := by decide +kernel
theorem dX7_holds_4 : decode cX7_holds 4 = .ok (.ifCond .ne 5, 3) := by decide +kernel
theorem dX7_holds_7 : decode cX7_holds 7 = .ok (.iconst 0, 1) := by decide +kernel
theorem dX7_holds_8 : decode cX7_holds 8 = .ok (.ireturn, 1) := by decide +kernel
theorem dX7_holds_9 : decode cX7_holds 9 = .ok (.aload_n 0, 1) := by decide +kernel
theorem dX7_holds_10 : decode cX7_holds 10 = .ok (.iload_n 1, 1) := by decide +kernel
theorem dX7_holds_11 : decode cX7_holds 11 = .ok (.iconst 1, 1) := by decide +kernel
theorem dX7_holds_12 : decode cX7_holds 12 = .ok (.iconst 5, 1) := by decide +kernel
theorem dX7_holds_13 : decode cX7_holds 13 = .ok (.invokestatic 58, 3) := by decide +kernel
theorem dX7_holds_16 : decode cX7_holds 16 = .ok (.ifCond .eq 7, 3) := by decide +kernel
theorem dX7_holds_19 : decode cX7_holds 19 = .ok (.iconst 0, 1) := by decide +kernel
theorem dX7_holds_20 : decode cX7_holds 20 = .ok (.goto 4, 3) := by decide +kernel
theorem dX7_holds_23 : decode cX7_holds 23 = .ok (.iconst 2, 1) := by decide +kernel
theorem dX7_holds_24 : decode cX7_holds 24 = .ok (.putfield 52, 3) := by decide +kernel
theorem dX7_holds_27 : decode cX7_holds 27 = .ok (.aload_n 0, 1) := by decide +kernel
theorem dX7_holds_28 : decode cX7_holds 28 = .ok (.getfield 52, 3) := by decide +kernel
theorem dX7_holds_31 : decode cX7_holds 31 = .ok (.ifCond .ne 19, 3) := by decide +kernel
theorem dX7_holds_34 : decode cX7_holds 34 = .ok (.aload_n 0, 1) := by decide +kernel
theorem dX7_holds_35 : decode cX7_holds 35 = .ok (.aload_n 0, 1) := by decide +kernel
theorem dX7_holds_36 : decode cX7_holds 36 = .ok (.invokevirtual 171, 3) := by decide +kernel
theorem dX7_holds_39 : decode cX7_holds 39 = .ok (.iload_n 1, 1) := by decide +kernel
theorem dX7_holds_40 : decode cX7_holds 40 = .ok (.invokevirtual 146, 3) := by decide +kernel
theorem dX7_holds_43 : decode cX7_holds 43 = .ok (.ifCond .eq 7, 3) := by decide +kernel
theorem dX7_holds_46 : decode cX7_holds 46 = .ok (.iconst 1, 1) := by decide +kernel
theorem dX7_holds_47 : decode cX7_holds 47 = .ok (.goto 4, 3) := by decide +kernel
theorem dX7_holds_50 : decode cX7_holds 50 = .ok (.iconst 0, 1) := by decide +kernel
theorem dX7_holds_51 : decode cX7_holds 51 = .ok (.ireturn, 1) := by decide +kernel
theorem dX7_add_0 : decode cX7_add 0 = .ok (.iload_n 1, 1) := by decide +kernel
theorem dX7_add_1 : decode cX7_add 1 = .ok (.iconst (-1), 1) := by decide +kernel
theorem dX7_add_2 : decode cX7_add 2 = .ok (.if_icmp .eq 7, 3) := by decide +kernel
theorem dX7_add_5 : decode cX7_add 5 = .ok (.iconst 1, 1) := by decide +kernel
theorem dX7_add_6 : decode cX7_add 6 = .ok (.goto 4, 3) := by decide +kernel
theorem dX7_add_9 : decode cX7_add 9 = .ok (.iconst 0, 1) := by decide +kernel
theorem dX7_add_10 : decode cX7_add 10 = .ok (.istore_n 2, 1) := by decide +kernel
theorem dX7_add_11 : decode cX7_add 11 = .ok (.iconst 0, 1) := by decide +kernel
theorem dX7_add_12 : decode cX7_add 12 = .ok (.istore_n 3, 1) := by decide +kernel
theorem dX7_add_13 : decode cX7_add 13 = .ok (.iload_n 3, 1) := by decide +kernel
theorem dX7_add_14 : decode cX7_add 14 = .ok (.aload_n 0, 1) := by decide +kernel
theorem dX7_add_15 : decode cX7_add 15 = .ok (.getfield 175, 3) := by decide +kernel
theorem dX7_add_18 : decode cX7_add 18 = .ok (.if_icmp .ge 29, 3) := by decide +kernel
theorem dX7_add_21 : decode cX7_add 21 = .ok (.iload_n 2, 1) := by decide +kernel
theorem dX7_add_22 : decode cX7_add 22 = .ok (.ifCond .eq 17, 3) := by decide +kernel
theorem dX7_add_25 : decode cX7_add 25 = .ok (.aload_n 0, 1) := by decide +kernel
theorem dX7_add_26 : decode cX7_add 26 = .ok (.getfield 49, 3) := by decide +kernel
theorem dX7_add_29 : decode cX7_add 29 = .ok (.iload_n 3, 1) := by decide +kernel
theorem dX7_add_30 : decode cX7_add 30 = .ok (.iaload, 1) := by decide +kernel
theorem dX7_add_31 : decode cX7_add 31 = .ok (.iload_n 1, 1) := by decide +kernel
theorem dX7_add_32 : decode cX7_add 32 = .ok (.if_icmp .eq 7, 3) := by decide +kernel
theorem dX7_add_35 : decode cX7_add 35 = .ok (.iconst 1, 1) := by decide +kernel
theorem dX7_add_36 : decode cX7_add 36 = .ok (.goto 4, 3) := by decide +kernel
theorem dX7_add_39 : decode cX7_add 39 = .ok (.iconst 0, 1) := by decide +kernel
theorem dX7_add_40 : decode cX7_add 40 = .ok (.istore_n 2, 1) := by decide +kernel
theorem dX7_add_41 : decode cX7_add 41 = .ok (.iinc 3 1, 3) := by decide +kernel
theorem dX7_add_44 : decode cX7_add 44 = .ok (.goto (-31), 3) := by decide +kernel
theorem dX7_add_47 : decode cX7_add 47 = .ok (.iload_n 2, 1) := by decide +kernel
theorem dX7_add_48 : decode cX7_add 48 = .ok (.ifCond .ne 4, 3) := by decide +kernel
theorem dX7_add_51 : decode cX7_add 51 = .ok (.return_, 1) := by decide +kernel
theorem dX7_add_52 : decode cX7_add 52 = .ok (.aload_n 0, 1) := by decide +kernel
theorem dX7_add_53 : decode cX7_add 53 = .ok (.getfield 49, 3) := by decide +kernel
theorem dX7_add_56 : decode cX7_add 56 = .ok (.aload_n 0, 1) := by decide +kernel
theorem dX7_add_57 : decode cX7_add 57 = .ok (.getfield 175, 3) := by decide +kernel
theorem dX7_add_60 : decode cX7_add 60 = .ok (.iload_n 1, 1) := by decide +kernel
theorem dX7_add_61 : decode cX7_add 61 = .ok (.iastore, 1) := by decide +kernel
theorem dX7_add_62 : decode cX7_add 62 = .ok (.aload_n 0, 1) := by decide +kernel
theorem dX7_add_63 : decode cX7_add 63 = .ok (.dup, 1) := by decide +kernel
theorem dX7_add_64 : decode cX7_add 64 = .ok (.getfield 175, 3) := by decide +kernel
theorem dX7_add_67 : decode cX7_add 67 = .ok (.iconst 1, 1) := by decide +kernel
theorem dX7_add_68 : decode cX7_add 68 = .ok (.iadd, 1) := by decide +kernel
theorem dX7_add_69 : decode cX7_add 69 = .ok (.putfield 175, 3) := by decide +kernel
theorem dX7_add_72 : decode cX7_add 72 = .ok (.return_, 1) := by decide +kernel
theorem dX7_findReductions_0 : decode cX7_findReductions 0 = .ok (.aload_n 0, 1) := by decide +kernel
theorem dX7_findReductions_1 : decode cX7_findReductions 1 = .ok (.iconst 0, 1) := by decide +kernel
theorem dX7_findReductions_2 : decode cX7_findReductions 2 = .ok (.putfield 175, 3) := by decide +kernel
theorem dX7_findReductions_5 : decode cX7_findReductions 5 = .ok (.aload_n 0, 1) := by decide +kernel
theorem dX7_findReductions_6 : decode cX7_findReductions 6 = .ok (.getfield 30, 3) := by decide +kernel
theorem dX7_findReductions_9 : decode cX7_findReductions 9 = .ok (.aload_n 0, 1) := by decide +kernel
theorem dX7_findReductions_10 : decode cX7_findReductions 10 = .ok (.invokevirtual 171, 3) := by decide +kernel
theorem dX7_findReductions_13 : decode cX7_findReductions 13 = .ok (.aaload, 1) := by decide +kernel
theorem dX7_findReductions_14 : decode cX7_findReductions 14 = .ok (.astore_n 1, 1) := by decide +kernel
theorem dX7_findReductions_15 : decode cX7_findReductions 15 = .ok (.iconst 1, 1) := by decide +kernel
theorem dX7_findReductions_16 : decode cX7_findReductions 16 = .ok (.istore_n 2, 1) := by decide +kernel
theorem dX7_findReductions_17 : decode cX7_findReductions 17 = .ok (.iload_n 2, 1) := by decide +kernel
theorem dX7_findReductions_18 : decode cX7_findReductions 18 = .ok (.aload_n 1, 1) := by decide +kernel
theorem dX7_findReductions_19 : decode cX7_findReductions 19 = .ok (.arraylength, 1) := by decide +kernel
theorem dX7_findReductions_20 : decode cX7_findReductions 20 = .ok (.if_icmp .ge 73, 3) := by decide +kernel
theorem dX7_findReductions_23 : decode cX7_findReductions 23 = .ok (.aload_n 1, 1) := by decide +kernel
theorem dX7_findReductions_24 : decode cX7_findReductions 24 = .ok (.iload_n 2, 1) := by decide +kernel
theorem dX7_findReductions_25 : decode cX7_findReductions 25 = .ok (.iaload, 1) := by decide +kernel
theorem dX7_findReductions_26 : decode cX7_findReductions 26 = .ok (.bipush 100, 2) := by decide +kernel
theorem dX7_findReductions_28 : decode cX7_findReductions 28 = .ok (.if_icmp .lt 59, 3) := by decide +kernel
theorem dX7_findReductions_31 : decode cX7_findReductions 31 = .ok (.aload_n 0, 1) := by decide +kernel
theorem dX7_findReductions_32 : decode cX7_findReductions 32 = .ok (.getfield 13, 3) := by decide +kernel
theorem dX7_findReductions_35 : decode cX7_findReductions 35 = .ok (.aload_n 1, 1) := by decide +kernel
theorem dX7_findReductions_36 : decode cX7_findReductions 36 = .ok (.iload_n 2, 1) := by decide +kernel
theorem dX7_findReductions_37 : decode cX7_findReductions 37 = .ok (.iaload, 1) := by decide +kernel
theorem dX7_findReductions_38 : decode cX7_findReductions 38 = .ok (.bipush 100, 2) := by decide +kernel
theorem dX7_findReductions_40 : decode cX7_findReductions 40 = .ok (.isub, 1) := by decide +kernel
theorem dX7_findReductions_41 : decode cX7_findReductions 41 = .ok (.iaload, 1) := by decide +kernel
theorem dX7_findReductions_42 : decode cX7_findReductions 42 = .ok (.aload_n 0, 1) := by decide +kernel
theorem dX7_findReductions_43 : decode cX7_findReductions 43 = .ok (.getfield 26, 3) := by decide +kernel
theorem dX7_findReductions_46 : decode cX7_findReductions 46 = .ok (.if_icmp .eq 6, 3) := by decide +kernel
theorem dX7_findReductions_49 : decode cX7_findReductions 49 = .ok (.goto 38, 3) := by decide +kernel
theorem dX7_findReductions_52 : decode cX7_findReductions 52 = .ok (.aload_n 0, 1) := by decide +kernel
theorem dX7_findReductions_53 : decode cX7_findReductions 53 = .ok (.aload_n 1, 1) := by decide +kernel
theorem dX7_findReductions_54 : decode cX7_findReductions 54 = .ok (.iload_n 2, 1) := by decide +kernel
theorem dX7_findReductions_55 : decode cX7_findReductions 55 = .ok (.invokevirtual 106, 3) := by decide +kernel
theorem dX7_findReductions_58 : decode cX7_findReductions 58 = .ok (.iload_n 2, 1) := by decide +kernel
theorem dX7_findReductions_59 : decode cX7_findReductions 59 = .ok (.isub, 1) := by decide +kernel
theorem dX7_findReductions_60 : decode cX7_findReductions 60 = .ok (.newarray .int, 2) := by decide +kernel
theorem dX7_findReductions_62 : decode cX7_findReductions 62 = .ok (.astore_n 3, 1) := by decide +kernel
theorem dX7_findReductions_63 : decode cX7_findReductions 63 = .ok (.aload_n 1, 1) := by decide +kernel
theorem dX7_findReductions_64 : decode cX7_findReductions 64 = .ok (.iload_n 2, 1) := by decide +kernel
theorem dX7_findReductions_65 : decode cX7_findReductions 65 = .ok (.aload_n 3, 1) := by decide +kernel
theorem dX7_findReductions_66 : decode cX7_findReductions 66 = .ok (.iconst 0, 1) := by decide +kernel
theorem dX7_findReductions_67 : decode cX7_findReductions 67 = .ok (.aload_n 3, 1) := by decide +kernel
theorem dX7_findReductions_68 : decode cX7_findReductions 68 = .ok (.arraylength, 1) := by decide +kernel
theorem dX7_findReductions_69 : decode cX7_findReductions 69 = .ok (.invokestatic 121, 3) := by decide +kernel
theorem dX7_findReductions_72 : decode cX7_findReductions 72 = .ok (.aload_n 0, 1) := by decide +kernel
theorem dX7_findReductions_73 : decode cX7_findReductions 73 = .ok (.aload_n 0, 1) := by decide +kernel
theorem dX7_findReductions_74 : decode cX7_findReductions 74 = .ok (.aload_n 0, 1) := by decide +kernel
theorem dX7_findReductions_75 : decode cX7_findReductions 75 = .ok (.getfield 26, 3) := by decide +kernel
theorem dX7_findReductions_78 : decode cX7_findReductions 78 = .ok (.aload_n 3, 1) := by decide +kernel
theorem dX7_findReductions_79 : decode cX7_findReductions 79 = .ok (.aload_n 3, 1) := by decide +kernel
theorem dX7_findReductions_80 : decode cX7_findReductions 80 = .ok (.arraylength, 1) := by decide +kernel
theorem dX7_findReductions_81 : decode cX7_findReductions 81 = .ok (.invokevirtual 163, 3) := by decide +kernel
theorem dX7_findReductions_84 : decode cX7_findReductions 84 = .ok (.invokevirtual 178, 3) := by decide +kernel
theorem dX7_findReductions_87 : decode cX7_findReductions 87 = .ok (.iinc 2 1, 3) := by decide +kernel
theorem dX7_findReductions_90 : decode cX7_findReductions 90 = .ok (.goto (-73), 3) := by decide +kernel
theorem dX7_findReductions_93 : decode cX7_findReductions 93 = .ok (.iconst 1, 1) := by decide +kernel
theorem dX7_findReductions_94 : decode cX7_findReductions 94 = .ok (.istore_n 2, 1) := by decide +kernel
theorem dX7_findReductions_95 : decode cX7_findReductions 95 = .ok (.iload_n 2, 1) := by decide +kernel
theorem dX7_findReductions_96 : decode cX7_findReductions 96 = .ok (.aload_n 1, 1) := by decide +kernel
theorem dX7_findReductions_97 : decode cX7_findReductions 97 = .ok (.arraylength, 1) := by decide +kernel
theorem dX7_findReductions_98 : decode cX7_findReductions 98 = .ok (.if_icmp .ge 79, 3) := by decide +kernel
theorem dX7_findReductions_101 : decode cX7_findReductions 101 = .ok (.aload_n 1, 1) := by decide +kernel
theorem dX7_findReductions_102 : decode cX7_findReductions 102 = .ok (.iload_n 2, 1) := by decide +kernel
theorem dX7_findReductions_103 : decode cX7_findReductions 103 = .ok (.iaload, 1) := by decide +kernel
theorem dX7_findReductions_104 : decode cX7_findReductions 104 = .ok (.istore_n 3, 1) := by decide +kernel
theorem dX7_findReductions_105 : decode cX7_findReductions 105 = .ok (.iload_n 3, 1) := by decide +kernel
theorem dX7_findReductions_106 : decode cX7_findReductions 106 = .ok (.bipush 100, 2) := by decide +kernel
theorem dX7_findReductions_108 : decode cX7_findReductions 108 = .ok (.if_icmp .lt 6, 3) := by decide +kernel
theorem dX7_findReductions_111 : decode cX7_findReductions 111 = .ok (.goto 60, 3) := by decide +kernel
theorem dX7_findReductions_114 : decode cX7_findReductions 114 = .ok (.aload_n 1, 1) := by decide +kernel
theorem dX7_findReductions_115 : decode cX7_findReductions 115 = .ok (.arraylength, 1) := by decide +kernel
theorem dX7_findReductions_116 : decode cX7_findReductions 116 = .ok (.newarray .int, 2) := by decide +kernel
theorem dX7_findReductions_118 : decode cX7_findReductions 118 = .ok (.astore 4, 2) := by decide +kernel
theorem dX7_findReductions_120 : decode cX7_findReductions 120 = .ok (.aload_n 1, 1) := by decide +kernel
theorem dX7_findReductions_121 : decode cX7_findReductions 121 = .ok (.iconst 0, 1) := by decide +kernel
theorem dX7_findReductions_122 : decode cX7_findReductions 122 = .ok (.aload 4, 2) := by decide +kernel
theorem dX7_findReductions_124 : decode cX7_findReductions 124 = .ok (.iconst 0, 1) := by decide +kernel
theorem dX7_findReductions_125 : decode cX7_findReductions 125 = .ok (.aload_n 1, 1) := by decide +kernel
theorem dX7_findReductions_126 : decode cX7_findReductions 126 = .ok (.arraylength, 1) := by decide +kernel
theorem dX7_findReductions_127 : decode cX7_findReductions 127 = .ok (.invokestatic 121, 3) := by decide +kernel
theorem dX7_findReductions_130 : decode cX7_findReductions 130 = .ok (.aload_n 0, 1) := by decide +kernel
theorem dX7_findReductions_131 : decode cX7_findReductions 131 = .ok (.getfield 66, 3) := by decide +kernel
theorem dX7_findReductions_134 : decode cX7_findReductions 134 = .ok (.istore 5, 2) := by decide +kernel
theorem dX7_findReductions_136 : decode cX7_findReductions 136 = .ok (.iload 5, 2) := by decide +kernel
theorem dX7_findReductions_138 : decode cX7_findReductions 138 = .ok (.iload_n 3, 1) := by decide +kernel
theorem dX7_findReductions_139 : decode cX7_findReductions 139 = .ok (.if_icmp .ge 32, 3) := by decide +kernel
theorem dX7_findReductions_142 : decode cX7_findReductions 142 = .ok (.aload 4, 2) := by decide +kernel
theorem dX7_findReductions_144 : decode cX7_findReductions 144 = .ok (.iload_n 2, 1) := by decide +kernel
theorem dX7_findReductions_145 : decode cX7_findReductions 145 = .ok (.iload 5, 2) := by decide +kernel
theorem dX7_findReductions_147 : decode cX7_findReductions 147 = .ok (.iastore, 1) := by decide +kernel
theorem dX7_findReductions_148 : decode cX7_findReductions 148 = .ok (.aload_n 0, 1) := by decide +kernel
theorem dX7_findReductions_149 : decode cX7_findReductions 149 = .ok (.aload_n 0, 1) := by decide +kernel
theorem dX7_findReductions_150 : decode cX7_findReductions 150 = .ok (.aload_n 0, 1) := by decide +kernel
theorem dX7_findReductions_151 : decode cX7_findReductions 151 = .ok (.getfield 26, 3) := by decide +kernel
theorem dX7_findReductions_154 : decode cX7_findReductions 154 = .ok (.aload 4, 2) := by decide +kernel
theorem dX7_findReductions_156 : decode cX7_findReductions 156 = .ok (.aload 4, 2) := by decide +kernel
theorem dX7_findReductions_158 : decode cX7_findReductions 158 = .ok (.arraylength, 1) := by decide +kernel
theorem dX7_findReductions_159 : decode cX7_findReductions 159 = .ok (.invokevirtual 163, 3) := by decide +kernel
theorem dX7_findReductions_162 : decode cX7_findReductions 162 = .ok (.invokevirtual 178, 3) := by decide +kernel
theorem dX7_findReductions_165 : decode cX7_findReductions 165 = .ok (.iinc 5 1, 3) := by decide +kernel
end
section
theorem dX7_findReductions_168 : decode cX7_findReductions 168 = .ok (.goto (-32), 3) := by decide +kernel
theorem dX7_findReductions_171 : decode cX7_findReductions 171 = .ok (.iinc 2 1, 3) := by decide +kernel
theorem dX7_findReductions_174 : decode cX7_findReductions 174 = .ok (.goto (-79), 3) := by decide +kernel
theorem dX7_findReductions_177 : decode cX7_findReductions 177 = .ok (.return_, 1) := by decide +kernel
theorem dX7_reductionCount_0 : decode cX7_reductionCount 0 = .ok (.aload_n 0, 1) := by decide +kernel
theorem dX7_reductionCount_1 : decode cX7_reductionCount 1 = .ok (.invokevirtual 167, 3) := by decide +kernel
theorem dX7_reductionCount_4 : decode cX7_reductionCount 4 = .ok (.ifCond .ne 5, 3) := by decide +kernel
theorem dX7_reductionCount_7 : decode cX7_reductionCount 7 = .ok (.iconst 0, 1) := by decide +kernel
theorem dX7_reductionCount_8 : decode cX7_reductionCount 8 = .ok (.ireturn, 1) := by decide +kernel
theorem dX7_reductionCount_9 : decode cX7_reductionCount 9 = .ok (.aload_n 0, 1) := by decide +kernel
theorem dX7_reductionCount_10 : decode cX7_reductionCount 10 = .ok (.invokevirtual 182, 3) := by decide +kernel
theorem dX7_reductionCount_13 : decode cX7_reductionCount 13 = .ok (.aload_n 0, 1) := by decide +kernel
theorem dX7_reductionCount_14 : decode cX7_reductionCount 14 = .ok (.getfield 175, 3) := by decide +kernel
theorem dX7_reductionCount_17 : decode cX7_reductionCount 17 = .ok (.ireturn, 1) := by decide +kernel
theorem dX7_reduction_0 : decode cX7_reduction 0 = .ok (.aload_n 0, 1) := by decide +kernel
theorem dX7_reduction_1 : decode cX7_reduction 1 = .ok (.invokevirtual 167, 3) := by decide +kernel
theorem dX7_reduction_4 : decode cX7_reduction 4 = .ok (.ifCond .ne 5, 3) := by decide +kernel
theorem dX7_reduction_7 : decode cX7_reduction 7 = .ok (.iconst 0, 1) := by decide +kernel
theorem dX7_reduction_8 : decode cX7_reduction 8 = .ok (.ireturn, 1) := by decide +kernel
theorem dX7_reduction_9 : decode cX7_reduction 9 = .ok (.aload_n 0, 1) := by decide +kernel
theorem dX7_reduction_10 : decode cX7_reduction 10 = .ok (.invokevirtual 182, 3) := by decide +kernel
theorem dX7_reduction_13 : decode cX7_reduction 13 = .ok (.iload_n 1, 1) := by decide +kernel
theorem dX7_reduction_14 : decode cX7_reduction 14 = .ok (.ifCond .lt 20, 3) := by decide +kernel
theorem dX7_reduction_17 : decode cX7_reduction 17 = .ok (.iload_n 1, 1) := by decide +kernel
theorem dX7_reduction_18 : decode cX7_reduction 18 = .ok (.aload_n 0, 1) := by decide +kernel
theorem dX7_reduction_19 : decode cX7_reduction 19 = .ok (.getfield 175, 3) := by decide +kernel
theorem dX7_reduction_22 : decode cX7_reduction 22 = .ok (.if_icmp .ge 12, 3) := by decide +kernel
theorem dX7_reduction_25 : decode cX7_reduction 25 = .ok (.aload_n 0, 1) := by decide +kernel
theorem dX7_reduction_26 : decode cX7_reduction 26 = .ok (.getfield 49, 3) := by decide +kernel
theorem dX7_reduction_29 : decode cX7_reduction 29 = .ok (.iload_n 1, 1) := by decide +kernel
theorem dX7_reduction_30 : decode cX7_reduction 30 = .ok (.iaload, 1) := by decide +kernel
theorem dX7_reduction_31 : decode cX7_reduction 31 = .ok (.goto 8, 3) := by decide +kernel
theorem dX7_reduction_34 : decode cX7_reduction 34 = .ok (.aload_n 0, 1) := by decide +kernel
theorem dX7_reduction_35 : decode cX7_reduction 35 = .ok (.iconst 2, 1) := by decide +kernel
theorem dX7_reduction_36 : decode cX7_reduction 36 = .ok (.invokevirtual 72, 3) := by decide +kernel
theorem dX7_reduction_39 : decode cX7_reduction 39 = .ok (.ireturn, 1) := by decide +kernel
theorem dX7_reduce_0 : decode cX7_reduce 0 = .ok (.aload_n 0, 1) := by decide +kernel
theorem dX7_reduce_1 : decode cX7_reduce 1 = .ok (.invokevirtual 167, 3) := by decide +kernel
theorem dX7_reduce_4 : decode cX7_reduce 4 = .ok (.ifCond .ne 5, 3) := by decide +kernel
theorem dX7_reduce_7 : decode cX7_reduce 7 = .ok (.iconst 0, 1) := by decide +kernel
theorem dX7_reduce_8 : decode cX7_reduce 8 = .ok (.ireturn, 1) := by decide +kernel
theorem dX7_reduce_9 : decode cX7_reduce 9 = .ok (.iload_n 1, 1) := by decide +kernel
theorem dX7_reduce_10 : decode cX7_reduce 10 = .ok (.iconst 1, 1) := by decide +kernel
theorem dX7_reduce_11 : decode cX7_reduce 11 = .ok (.iconst 5, 1) := by decide +kernel
theorem dX7_reduce_12 : decode cX7_reduce 12 = .ok (.invokestatic 58, 3) := by decide +kernel
theorem dX7_reduce_15 : decode cX7_reduce 15 = .ok (.ifCond .ne 9, 3) := by decide +kernel
theorem dX7_reduce_18 : decode cX7_reduce 18 = .ok (.aload_n 0, 1) := by decide +kernel
theorem dX7_reduce_19 : decode cX7_reduce 19 = .ok (.iconst 2, 1) := by decide +kernel
theorem dX7_reduce_20 : decode cX7_reduce 20 = .ok (.invokevirtual 72, 3) := by decide +kernel
theorem dX7_reduce_23 : decode cX7_reduce 23 = .ok (.ireturn, 1) := by decide +kernel
theorem dX7_reduce_24 : decode cX7_reduce 24 = .ok (.iconst 0, 1) := by decide +kernel
theorem dX7_reduce_25 : decode cX7_reduce 25 = .ok (.istore_n 2, 1) := by decide +kernel
theorem dX7_reduce_26 : decode cX7_reduce 26 = .ok (.aload_n 0, 1) := by decide +kernel
theorem dX7_reduce_27 : decode cX7_reduce 27 = .ok (.aload_n 0, 1) := by decide +kernel
theorem dX7_reduce_28 : decode cX7_reduce 28 = .ok (.invokevirtual 171, 3) := by decide +kernel
theorem dX7_reduce_31 : decode cX7_reduce 31 = .ok (.iload_n 1, 1) := by decide +kernel
theorem dX7_reduce_32 : decode cX7_reduce 32 = .ok (.invokevirtual 146, 3) := by decide +kernel
theorem dX7_reduce_35 : decode cX7_reduce 35 = .ok (.ifCond .ne 7, 3) := by decide +kernel
theorem dX7_reduce_38 : decode cX7_reduce 38 = .ok (.iconst 1, 1) := by decide +kernel
theorem dX7_reduce_39 : decode cX7_reduce 39 = .ok (.goto 4, 3) := by decide +kernel
theorem dX7_reduce_42 : decode cX7_reduce 42 = .ok (.iconst 0, 1) := by decide +kernel
theorem dX7_reduce_43 : decode cX7_reduce 43 = .ok (.istore_n 3, 1) := by decide +kernel
theorem dX7_reduce_44 : decode cX7_reduce 44 = .ok (.iload_n 3, 1) := by decide +kernel
theorem dX7_reduce_45 : decode cX7_reduce 45 = .ok (.ifCond .eq 92, 3) := by decide +kernel
theorem dX7_reduce_48 : decode cX7_reduce 48 = .ok (.aload_n 0, 1) := by decide +kernel
theorem dX7_reduce_49 : decode cX7_reduce 49 = .ok (.invokevirtual 182, 3) := by decide +kernel
theorem dX7_reduce_52 : decode cX7_reduce 52 = .ok (.iconst (-1), 1) := by decide +kernel
theorem dX7_reduce_53 : decode cX7_reduce 53 = .ok (.istore 4, 2) := by decide +kernel
theorem dX7_reduce_55 : decode cX7_reduce 55 = .ok (.aload_n 0, 1) := by decide +kernel
theorem dX7_reduce_56 : decode cX7_reduce 56 = .ok (.getfield 175, 3) := by decide +kernel
theorem dX7_reduce_59 : decode cX7_reduce 59 = .ok (.iconst 1, 1) := by decide +kernel
theorem dX7_reduce_60 : decode cX7_reduce 60 = .ok (.isub, 1) := by decide +kernel
theorem dX7_reduce_61 : decode cX7_reduce 61 = .ok (.istore 5, 2) := by decide +kernel
theorem dX7_reduce_63 : decode cX7_reduce 63 = .ok (.iload 5, 2) := by decide +kernel
theorem dX7_reduce_65 : decode cX7_reduce 65 = .ok (.ifCond .lt 41, 3) := by decide +kernel
theorem dX7_reduce_68 : decode cX7_reduce 68 = .ok (.aload_n 0, 1) := by decide +kernel
theorem dX7_reduce_69 : decode cX7_reduce 69 = .ok (.aload_n 0, 1) := by decide +kernel
theorem dX7_reduce_70 : decode cX7_reduce 70 = .ok (.aload_n 0, 1) := by decide +kernel
theorem dX7_reduce_71 : decode cX7_reduce 71 = .ok (.getfield 26, 3) := by decide +kernel
theorem dX7_reduce_74 : decode cX7_reduce 74 = .ok (.aload_n 0, 1) := by decide +kernel
theorem dX7_reduce_75 : decode cX7_reduce 75 = .ok (.getfield 49, 3) := by decide +kernel
theorem dX7_reduce_78 : decode cX7_reduce 78 = .ok (.iload 5, 2) := by decide +kernel
theorem dX7_reduce_80 : decode cX7_reduce 80 = .ok (.iaload, 1) := by decide +kernel
theorem dX7_reduce_81 : decode cX7_reduce 81 = .ok (.invokevirtual 110, 3) := by decide +kernel
theorem dX7_reduce_84 : decode cX7_reduce 84 = .ok (.iload_n 1, 1) := by decide +kernel
theorem dX7_reduce_85 : decode cX7_reduce 85 = .ok (.invokevirtual 146, 3) := by decide +kernel
theorem dX7_reduce_88 : decode cX7_reduce 88 = .ok (.ifCond .ne 12, 3) := by decide +kernel
theorem dX7_reduce_91 : decode cX7_reduce 91 = .ok (.aload_n 0, 1) := by decide +kernel
theorem dX7_reduce_92 : decode cX7_reduce 92 = .ok (.getfield 49, 3) := by decide +kernel
theorem dX7_reduce_95 : decode cX7_reduce 95 = .ok (.iload 5, 2) := by decide +kernel
theorem dX7_reduce_97 : decode cX7_reduce 97 = .ok (.iaload, 1) := by decide +kernel
theorem dX7_reduce_98 : decode cX7_reduce 98 = .ok (.istore 4, 2) := by decide +kernel
theorem dX7_reduce_100 : decode cX7_reduce 100 = .ok (.iinc 5 (-1), 3) := by decide +kernel
theorem dX7_reduce_103 : decode cX7_reduce 103 = .ok (.goto (-40), 3) := by decide +kernel
theorem dX7_reduce_106 : decode cX7_reduce 106 = .ok (.iload 4, 2) := by decide +kernel
theorem dX7_reduce_108 : decode cX7_reduce 108 = .ok (.iconst (-1), 1) := by decide +kernel
theorem dX7_reduce_109 : decode cX7_reduce 109 = .ok (.if_icmp .eq 7, 3) := by decide +kernel
theorem dX7_reduce_112 : decode cX7_reduce 112 = .ok (.iconst 1, 1) := by decide +kernel
theorem dX7_reduce_113 : decode cX7_reduce 113 = .ok (.goto 4, 3) := by decide +kernel
theorem dX7_reduce_116 : decode cX7_reduce 116 = .ok (.iconst 0, 1) := by decide +kernel
theorem dX7_reduce_117 : decode cX7_reduce 117 = .ok (.istore_n 3, 1) := by decide +kernel
theorem dX7_reduce_118 : decode cX7_reduce 118 = .ok (.iload_n 3, 1) := by decide +kernel
theorem dX7_reduce_119 : decode cX7_reduce 119 = .ok (.ifCond .ne 6, 3) := by decide +kernel
theorem dX7_reduce_122 : decode cX7_reduce 122 = .ok (.goto (-78), 3) := by decide +kernel
theorem dX7_reduce_125 : decode cX7_reduce 125 = .ok (.aload_n 0, 1) := by decide +kernel
theorem dX7_reduce_126 : decode cX7_reduce 126 = .ok (.iload 4, 2) := by decide +kernel
theorem dX7_reduce_128 : decode cX7_reduce 128 = .ok (.putfield 149, 3) := by decide +kernel
theorem dX7_reduce_131 : decode cX7_reduce 131 = .ok (.iinc 2 1, 3) := by decide +kernel
theorem dX7_reduce_134 : decode cX7_reduce 134 = .ok (.goto (-90), 3) := by decide +kernel
theorem dX7_reduce_137 : decode cX7_reduce 137 = .ok (.iload_n 2, 1) := by decide +kernel
theorem dX7_reduce_138 : decode cX7_reduce 138 = .ok (.ireturn, 1) := by decide +kernel
theorem dX7_digest_0 : decode cX7_digest 0 = .ok (.aload_n 0, 1) := by decide +kernel
theorem dX7_digest_1 : decode cX7_digest 1 = .ok (.iconst 0, 1) := by decide +kernel
theorem dX7_digest_2 : decode cX7_digest 2 = .ok (.putfield 52, 3) := by decide +kernel
theorem dX7_digest_5 : decode cX7_digest 5 = .ok (.ldc2_w 185, 3) := by decide +kernel
theorem dX7_digest_8 : decode cX7_digest 8 = .ok (.aload_n 0, 1) := by decide +kernel
theorem dX7_digest_9 : decode cX7_digest 9 = .ok (.getfield 66, 3) := by decide +kernel
theorem dX7_digest_12 : decode cX7_digest 12 = .ok (.i2l, 1) := by decide +kernel
theorem dX7_digest_13 : decode cX7_digest 13 = .ok (.ladd, 1) := by decide +kernel
theorem dX7_digest_14 : decode cX7_digest 14 = .ok (.ldc2_w 187, 3) := by decide +kernel
theorem dX7_digest_17 : decode cX7_digest 17 = .ok (.lmul, 1) := by decide +kernel
theorem dX7_digest_18 : decode cX7_digest 18 = .ok (.aload_n 0, 1) := by decide +kernel
theorem dX7_digest_19 : decode cX7_digest 19 = .ok (.getfield 7, 3) := by decide +kernel
theorem dX7_digest_22 : decode cX7_digest 22 = .ok (.i2l, 1) := by decide +kernel
theorem dX7_digest_23 : decode cX7_digest 23 = .ok (.ladd, 1) := by decide +kernel
theorem dX7_digest_24 : decode cX7_digest 24 = .ok (.ldc2_w 187, 3) := by decide +kernel
theorem dX7_digest_27 : decode cX7_digest 27 = .ok (.lmul, 1) := by decide +kernel
theorem dX7_digest_28 : decode cX7_digest 28 = .ok (.aload_n 0, 1) := by decide +kernel
theorem dX7_digest_29 : decode cX7_digest 29 = .ok (.getfield 55, 3) := by decide +kernel
theorem dX7_digest_32 : decode cX7_digest 32 = .ok (.i2l, 1) := by decide +kernel
theorem dX7_digest_33 : decode cX7_digest 33 = .ok (.ladd, 1) := by decide +kernel
theorem dX7_digest_34 : decode cX7_digest 34 = .ok (.ldc2_w 187, 3) := by decide +kernel
theorem dX7_digest_37 : decode cX7_digest 37 = .ok (.lmul, 1) := by decide +kernel
theorem dX7_digest_38 : decode cX7_digest 38 = .ok (.aload_n 0, 1) := by decide +kernel
theorem dX7_digest_39 : decode cX7_digest 39 = .ok (.getfield 80, 3) := by decide +kernel
theorem dX7_digest_42 : decode cX7_digest 42 = .ok (.i2l, 1) := by decide +kernel
theorem dX7_digest_43 : decode cX7_digest 43 = .ok (.ladd, 1) := by decide +kernel
theorem dX7_digest_44 : decode cX7_digest 44 = .ok (.lstore_n 1, 1) := by decide +kernel
theorem dX7_digest_45 : decode cX7_digest 45 = .ok (.iconst 0, 1) := by decide +kernel
theorem dX7_digest_46 : decode cX7_digest 46 = .ok (.istore_n 3, 1) := by decide +kernel
theorem dX7_digest_47 : decode cX7_digest 47 = .ok (.iload_n 3, 1) := by decide +kernel
theorem dX7_digest_48 : decode cX7_digest 48 = .ok (.aload_n 0, 1) := by decide +kernel
theorem dX7_digest_49 : decode cX7_digest 49 = .ok (.getfield 80, 3) := by decide +kernel
theorem dX7_digest_52 : decode cX7_digest 52 = .ok (.if_icmp .ge 71, 3) := by decide +kernel
theorem dX7_digest_55 : decode cX7_digest 55 = .ok (.lload_n 1, 1) := by decide +kernel
theorem dX7_digest_56 : decode cX7_digest 56 = .ok (.ldc2_w 187, 3) := by decide +kernel
theorem dX7_digest_59 : decode cX7_digest 59 = .ok (.lmul, 1) := by decide +kernel
theorem dX7_digest_60 : decode cX7_digest 60 = .ok (.aload_n 0, 1) := by decide +kernel
theorem dX7_digest_61 : decode cX7_digest 61 = .ok (.getfield 13, 3) := by decide +kernel
theorem dX7_digest_64 : decode cX7_digest 64 = .ok (.iload_n 3, 1) := by decide +kernel
theorem dX7_digest_65 : decode cX7_digest 65 = .ok (.iaload, 1) := by decide +kernel
theorem dX7_digest_66 : decode cX7_digest 66 = .ok (.i2l, 1) := by decide +kernel
theorem dX7_digest_67 : decode cX7_digest 67 = .ok (.ladd, 1) := by decide +kernel
theorem dX7_digest_68 : decode cX7_digest 68 = .ok (.lstore_n 1, 1) := by decide +kernel
theorem dX7_digest_69 : decode cX7_digest 69 = .ok (.iconst 0, 1) := by decide +kernel
theorem dX7_digest_70 : decode cX7_digest 70 = .ok (.istore 4, 2) := by decide +kernel
theorem dX7_digest_72 : decode cX7_digest 72 = .ok (.iload 4, 2) := by decide +kernel
theorem dX7_digest_74 : decode cX7_digest 74 = .ok (.iconst 3, 1) := by decide +kernel
theorem dX7_digest_75 : decode cX7_digest 75 = .ok (.if_icmp .ge 28, 3) := by decide +kernel
theorem dX7_digest_78 : decode cX7_digest 78 = .ok (.lload_n 1, 1) := by decide +kernel
theorem dX7_digest_79 : decode cX7_digest 79 = .ok (.ldc2_w 187, 3) := by decide +kernel
theorem dX7_digest_82 : decode cX7_digest 82 = .ok (.lmul, 1) := by decide +kernel
theorem dX7_digest_83 : decode cX7_digest 83 = .ok (.aload_n 0, 1) := by decide +kernel
theorem dX7_digest_84 : decode cX7_digest 84 = .ok (.getfield 17, 3) := by decide +kernel
theorem dX7_digest_87 : decode cX7_digest 87 = .ok (.iconst 3, 1) := by decide +kernel
theorem dX7_digest_88 : decode cX7_digest 88 = .ok (.iload_n 3, 1) := by decide +kernel
theorem dX7_digest_89 : decode cX7_digest 89 = .ok (.imul, 1) := by decide +kernel
theorem dX7_digest_90 : decode cX7_digest 90 = .ok (.iload 4, 2) := by decide +kernel
theorem dX7_digest_92 : decode cX7_digest 92 = .ok (.iadd, 1) := by decide +kernel
theorem dX7_digest_93 : decode cX7_digest 93 = .ok (.iaload, 1) := by decide +kernel
theorem dX7_digest_94 : decode cX7_digest 94 = .ok (.i2l, 1) := by decide +kernel
theorem dX7_digest_95 : decode cX7_digest 95 = .ok (.ladd, 1) := by decide +kernel
theorem dX7_digest_96 : decode cX7_digest 96 = .ok (.lstore_n 1, 1) := by decide +kernel
theorem dX7_digest_97 : decode cX7_digest 97 = .ok (.iinc 4 1, 3) := by decide +kernel
theorem dX7_digest_100 : decode cX7_digest 100 = .ok (.goto (-28), 3) := by decide +kernel
theorem dX7_digest_103 : decode cX7_digest 103 = .ok (.lload_n 1, 1) := by decide +kernel
theorem dX7_digest_104 : decode cX7_digest 104 = .ok (.ldc2_w 187, 3) := by decide +kernel
theorem dX7_digest_107 : decode cX7_digest 107 = .ok (.lmul, 1) := by decide +kernel
theorem dX7_digest_108 : decode cX7_digest 108 = .ok (.aload_n 0, 1) := by decide +kernel
theorem dX7_digest_109 : decode cX7_digest 109 = .ok (.getfield 20, 3) := by decide +kernel
theorem dX7_digest_112 : decode cX7_digest 112 = .ok (.iload_n 3, 1) := by decide +kernel
theorem dX7_digest_113 : decode cX7_digest 113 = .ok (.iaload, 1) := by decide +kernel
theorem dX7_digest_114 : decode cX7_digest 114 = .ok (.i2l, 1) := by decide +kernel
theorem dX7_digest_115 : decode cX7_digest 115 = .ok (.ladd, 1) := by decide +kernel
theorem dX7_digest_116 : decode cX7_digest 116 = .ok (.lstore_n 1, 1) := by decide +kernel
theorem dX7_digest_117 : decode cX7_digest 117 = .ok (.iinc 3 1, 3) := by decide +kernel
theorem dX7_digest_120 : decode cX7_digest 120 = .ok (.goto (-73), 3) := by decide +kernel
theorem dX7_digest_123 : decode cX7_digest 123 = .ok (.lload_n 1, 1) := by decide +kernel
theorem dX7_digest_124 : decode cX7_digest 124 = .ok (.ldc2_w 187, 3) := by decide +kernel
theorem dX7_digest_127 : decode cX7_digest 127 = .ok (.lmul, 1) := by decide +kernel
theorem dX7_digest_128 : decode cX7_digest 128 = .ok (.aload_n 0, 1) := by decide +kernel
theorem dX7_digest_129 : decode cX7_digest 129 = .ok (.getfield 160, 3) := by decide +kernel
theorem dX7_digest_132 : decode cX7_digest 132 = .ok (.i2l, 1) := by decide +kernel
theorem dX7_digest_133 : decode cX7_digest 133 = .ok (.ladd, 1) := by decide +kernel
theorem dX7_digest_134 : decode cX7_digest 134 = .ok (.lstore_n 1, 1) := by decide +kernel
theorem dX7_digest_135 : decode cX7_digest 135 = .ok (.aload_n 0, 1) := by decide +kernel
theorem dX7_digest_136 : decode cX7_digest 136 = .ok (.getfield 26, 3) := by decide +kernel
theorem dX7_digest_139 : decode cX7_digest 139 = .ok (.iconst (-1), 1) := by decide +kernel
theorem dX7_digest_140 : decode cX7_digest 140 = .ok (.if_icmp .ne 5, 3) := by decide +kernel
theorem dX7_digest_143 : decode cX7_digest 143 = .ok (.lload_n 1, 1) := by decide +kernel
theorem dX7_digest_144 : decode cX7_digest 144 = .ok (.lreturn, 1) := by decide +kernel
theorem dX7_digest_145 : decode cX7_digest 145 = .ok (.aload_n 0, 1) := by decide +kernel
theorem dX7_digest_146 : decode cX7_digest 146 = .ok (.invokevirtual 137, 3) := by decide +kernel
theorem dX7_digest_149 : decode cX7_digest 149 = .ok (.aload_n 0, 1) := by decide +kernel
theorem dX7_digest_150 : decode cX7_digest 150 = .ok (.getfield 30, 3) := by decide +kernel
theorem dX7_digest_153 : decode cX7_digest 153 = .ok (.aload_n 0, 1) := by decide +kernel
theorem dX7_digest_154 : decode cX7_digest 154 = .ok (.invokevirtual 171, 3) := by decide +kernel
theorem dX7_digest_157 : decode cX7_digest 157 = .ok (.aaload, 1) := by decide +kernel
theorem dX7_digest_158 : decode cX7_digest 158 = .ok (.astore_n 3, 1) := by decide +kernel
theorem dX7_digest_159 : decode cX7_digest 159 = .ok (.aload_n 3, 1) := by decide +kernel
theorem dX7_digest_160 : decode cX7_digest 160 = .ok (.arraylength, 1) := by decide +kernel
theorem dX7_digest_161 : decode cX7_digest 161 = .ok (.istore 4, 2) := by decide +kernel
theorem dX7_digest_163 : decode cX7_digest 163 = .ok (.iconst 0, 1) := by decide +kernel
theorem dX7_digest_164 : decode cX7_digest 164 = .ok (.istore 5, 2) := by decide +kernel
theorem dX7_digest_166 : decode cX7_digest 166 = .ok (.iload 5, 2) := by decide +kernel
theorem dX7_digest_168 : decode cX7_digest 168 = .ok (.iload 4, 2) := by decide +kernel
theorem dX7_digest_170 : decode cX7_digest 170 = .ok (.if_icmp .ge 25, 3) := by decide +kernel
theorem dX7_digest_173 : decode cX7_digest 173 = .ok (.aload_n 3, 1) := by decide +kernel
theorem dX7_digest_174 : decode cX7_digest 174 = .ok (.iload 5, 2) := by decide +kernel
theorem dX7_digest_176 : decode cX7_digest 176 = .ok (.iaload, 1) := by decide +kernel
theorem dX7_digest_177 : decode cX7_digest 177 = .ok (.istore 6, 2) := by decide +kernel
theorem dX7_digest_179 : decode cX7_digest 179 = .ok (.lload_n 1, 1) := by decide +kernel
theorem dX7_digest_180 : decode cX7_digest 180 = .ok (.ldc2_w 187, 3) := by decide +kernel
theorem dX7_digest_183 : decode cX7_digest 183 = .ok (.lmul, 1) := by decide +kernel
theorem dX7_digest_184 : decode cX7_digest 184 = .ok (.iload 6, 2) := by decide +kernel
theorem dX7_digest_186 : decode cX7_digest 186 = .ok (.i2l, 1) := by decide +kernel
theorem dX7_digest_187 : decode cX7_digest 187 = .ok (.ladd, 1) := by decide +kernel
theorem dX7_digest_188 : decode cX7_digest 188 = .ok (.lstore_n 1, 1) := by decide +kernel
theorem dX7_digest_189 : decode cX7_digest 189 = .ok (.iinc 5 1, 3) := by decide +kernel
theorem dX7_digest_192 : decode cX7_digest 192 = .ok (.goto (-26), 3) := by decide +kernel
theorem dX7_digest_195 : decode cX7_digest 195 = .ok (.lload_n 1, 1) := by decide +kernel
theorem dX7_digest_196 : decode cX7_digest 196 = .ok (.lreturn, 1) := by decide +kernel
theorem dL_setRange_0 : decode cL_setRange 0 = .ok (.aload_n 3, 1) := by decide +kernel
theorem dL_setRange_1 : decode cL_setRange 1 = .ok (.iconst 0, 1) := by decide +kernel
theorem dL_setRange_2 : decode cL_setRange 2 = .ok (.aload_n 0, 1) := by decide +kernel
theorem dL_setRange_3 : decode cL_setRange 3 = .ok (.iload_n 1, 1) := by decide +kernel
theorem dL_setRange_4 : decode cL_setRange 4 = .ok (.iload_n 2, 1) := by decide +kernel
theorem dL_setRange_5 : decode cL_setRange 5 = .ok (.invokevirtual 7, 3) := by decide +kernel
theorem dL_setRange_8 : decode cL_setRange 8 = .ok (.ifCond .eq 7, 3) := by decide +kernel
theorem dL_setRange_11 : decode cL_setRange 11 = .ok (.lconst 1, 1) := by decide +kernel
theorem dL_setRange_12 : decode cL_setRange 12 = .ok (.goto 4, 3) := by decide +kernel
theorem dL_setRange_15 : decode cL_setRange 15 = .ok (.lconst 0, 1) := by decide +kernel
theorem dL_setRange_16 : decode cL_setRange 16 = .ok (.lastore, 1) := by decide +kernel
theorem dL_setRange_17 : decode cL_setRange 17 = .ok (.goto 7, 3) := by decide +kernel
theorem dL_setRange_20 : decode cL_setRange 20 = .ok (.astore 4, 2) := by decide +kernel
theorem dL_setRange_22 : decode cL_setRange 22 = .ok (.iconst 1, 1) := by decide +kernel
theorem dL_setRange_23 : decode cL_setRange 23 = .ok (.ireturn, 1) := by decide +kernel
theorem dL_setRange_24 : decode cL_setRange 24 = .ok (.iconst 0, 1) := by decide +kernel
theorem dL_setRange_25 : decode cL_setRange 25 = .ok (.ireturn, 1) := by decide +kernel
theorem dL_addType_0 : decode cL_addType 0 = .ok (.aload_n 1, 1) := by decide +kernel
theorem dL_addType_1 : decode cL_addType 1 = .ok (.iconst 0, 1) := by decide +kernel
theorem dL_addType_2 : decode cL_addType 2 = .ok (.aload_n 0, 1) := by decide +kernel
theorem dL_addType_3 : decode cL_addType 3 = .ok (.invokevirtual 15, 3) := by decide +kernel
theorem dL_addType_6 : decode cL_addType 6 = .ok (.i2l, 1) := by decide +kernel
theorem dL_addType_7 : decode cL_addType 7 = .ok (.lastore, 1) := by decide +kernel
theorem dL_addType_8 : decode cL_addType 8 = .ok (.goto 6, 3) := by decide +kernel
theorem dL_addType_11 : decode cL_addType 11 = .ok (.astore_n 2, 1) := by decide +kernel
theorem dL_addType_12 : decode cL_addType 12 = .ok (.iconst 1, 1) := by decide +kernel
theorem dL_addType_13 : decode cL_addType 13 = .ok (.ireturn, 1) := by decide +kernel
theorem dL_addType_14 : decode cL_addType 14 = .ok (.iconst 0, 1) := by decide +kernel
theorem dL_addType_15 : decode cL_addType 15 = .ok (.ireturn, 1) := by decide +kernel
theorem dL_addConstructor_0 : decode cL_addConstructor 0 = .ok (.aload 6, 2) := by decide +kernel
theorem dL_addConstructor_2 : decode cL_addConstructor 2 = .ok (.iconst 0, 1) := by decide +kernel
theorem dL_addConstructor_3 : decode cL_addConstructor 3 = .ok (.aload_n 0, 1) := by decide +kernel
theorem dL_addConstructor_4 : decode cL_addConstructor 4 = .ok (.iload_n 1, 1) := by decide +kernel
theorem dL_addConstructor_5 : decode cL_addConstructor 5 = .ok (.iload_n 2, 1) := by decide +kernel
theorem dL_addConstructor_6 : decode cL_addConstructor 6 = .ok (.iload_n 3, 1) := by decide +kernel
theorem dL_addConstructor_7 : decode cL_addConstructor 7 = .ok (.iload 4, 2) := by decide +kernel
theorem dL_addConstructor_9 : decode cL_addConstructor 9 = .ok (.iload 5, 2) := by decide +kernel
theorem dL_addConstructor_11 : decode cL_addConstructor 11 = .ok (.invokevirtual 21, 3) := by decide +kernel
theorem dL_addConstructor_14 : decode cL_addConstructor 14 = .ok (.i2l, 1) := by decide +kernel
theorem dL_addConstructor_15 : decode cL_addConstructor 15 = .ok (.lastore, 1) := by decide +kernel
theorem dL_addConstructor_16 : decode cL_addConstructor 16 = .ok (.goto 15, 3) := by decide +kernel
theorem dL_addConstructor_19 : decode cL_addConstructor 19 = .ok (.astore 7, 2) := by decide +kernel
theorem dL_addConstructor_21 : decode cL_addConstructor 21 = .ok (.iconst 1, 1) := by decide +kernel
theorem dL_addConstructor_22 : decode cL_addConstructor 22 = .ok (.ireturn, 1) := by decide +kernel
theorem dL_addConstructor_23 : decode cL_addConstructor 23 = .ok (.astore 7, 2) := by decide +kernel
theorem dL_addConstructor_25 : decode cL_addConstructor 25 = .ok (.iconst 2, 1) := by decide +kernel
theorem dL_addConstructor_26 : decode cL_addConstructor 26 = .ok (.ireturn, 1) := by decide +kernel
theorem dL_addConstructor_27 : decode cL_addConstructor 27 = .ok (.astore 7, 2) := by decide +kernel
theorem dL_addConstructor_29 : decode cL_addConstructor 29 = .ok (.iconst 3, 1) := by decide +kernel
theorem dL_addConstructor_30 : decode cL_addConstructor 30 = .ok (.ireturn, 1) := by decide +kernel
theorem dL_addConstructor_31 : decode cL_addConstructor 31 = .ok (.iconst 0, 1) := by decide +kernel
theorem dL_addConstructor_32 : decode cL_addConstructor 32 = .ok (.ireturn, 1) := by decide +kernel
theorem dL_count_0 : decode cL_count 0 = .ok (.aload_n 3, 1) := by decide +kernel
theorem dL_count_1 : decode cL_count 1 = .ok (.iconst 0, 1) := by decide +kernel
theorem dL_count_2 : decode cL_count 2 = .ok (.aload_n 0, 1) := by decide +kernel
theorem dL_count_3 : decode cL_count 3 = .ok (.iload_n 1, 1) := by decide +kernel
theorem dL_count_4 : decode cL_count 4 = .ok (.iload_n 2, 1) := by decide +kernel
theorem dL_count_5 : decode cL_count 5 = .ok (.invokevirtual 27, 3) := by decide +kernel
theorem dL_count_8 : decode cL_count 8 = .ok (.i2l, 1) := by decide +kernel
theorem dL_count_9 : decode cL_count 9 = .ok (.lastore, 1) := by decide +kernel
theorem dL_count_10 : decode cL_count 10 = .ok (.goto 15, 3) := by decide +kernel
theorem dL_count_13 : decode cL_count 13 = .ok (.astore 4, 2) := by decide +kernel
theorem dL_count_15 : decode cL_count 15 = .ok (.iconst 1, 1) := by decide +kernel
theorem dL_count_16 : decode cL_count 16 = .ok (.ireturn, 1) := by decide +kernel
theorem dL_count_17 : decode cL_count 17 = .ok (.astore 4, 2) := by decide +kernel
theorem dL_count_19 : decode cL_count 19 = .ok (.iconst 2, 1) := by decide +kernel
theorem dL_count_20 : decode cL_count 20 = .ok (.ireturn, 1) := by decide +kernel
theorem dL_count_21 : decode cL_count 21 = .ok (.astore 4, 2) := by decide +kernel
theorem dL_count_23 : decode cL_count 23 = .ok (.iconst 3, 1) := by decide +kernel
theorem dL_count_24 : decode cL_count 24 = .ok (.ireturn, 1) := by decide +kernel
theorem dL_count_25 : decode cL_count 25 = .ok (.iconst 0, 1) := by decide +kernel
theorem dL_count_26 : decode cL_count 26 = .ok (.ireturn, 1) := by decide +kernel
theorem dL_total_0 : decode cL_total 0 = .ok (.aload_n 3, 1) := by decide +kernel
theorem dL_total_1 : decode cL_total 1 = .ok (.iconst 0, 1) := by decide +kernel
theorem dL_total_2 : decode cL_total 2 = .ok (.aload_n 0, 1) := by decide +kernel
theorem dL_total_3 : decode cL_total 3 = .ok (.iload_n 1, 1) := by decide +kernel
theorem dL_total_4 : decode cL_total 4 = .ok (.iload_n 2, 1) := by decide +kernel
theorem dL_total_5 : decode cL_total 5 = .ok (.invokevirtual 31, 3) := by decide +kernel
theorem dL_total_8 : decode cL_total 8 = .ok (.i2l, 1) := by decide +kernel
theorem dL_total_9 : decode cL_total 9 = .ok (.lastore, 1) := by decide +kernel
theorem dL_total_10 : decode cL_total 10 = .ok (.goto 15, 3) := by decide +kernel
theorem dL_total_13 : decode cL_total 13 = .ok (.astore 4, 2) := by decide +kernel
theorem dL_total_15 : decode cL_total 15 = .ok (.iconst 1, 1) := by decide +kernel
theorem dL_total_16 : decode cL_total 16 = .ok (.ireturn, 1) := by decide +kernel
theorem dL_total_17 : decode cL_total 17 = .ok (.astore 4, 2) := by decide +kernel
theorem dL_total_19 : decode cL_total 19 = .ok (.iconst 2, 1) := by decide +kernel
theorem dL_total_20 : decode cL_total 20 = .ok (.ireturn, 1) := by decide +kernel
theorem dL_total_21 : decode cL_total 21 = .ok (.astore 4, 2) := by decide +kernel
theorem dL_total_23 : decode cL_total 23 = .ok (.iconst 3, 1) := by decide +kernel
theorem dL_total_24 : decode cL_total 24 = .ok (.ireturn, 1) := by decide +kernel
theorem dL_total_25 : decode cL_total 25 = .ok (.iconst 0, 1) := by decide +kernel
theorem dL_total_26 : decode cL_total 26 = .ok (.ireturn, 1) := by decide +kernel
theorem dL_firstAgainst_0 : decode cL_firstAgainst 0 = .ok (.aload 4, 2) := by decide +kernel
theorem dL_firstAgainst_2 : decode cL_firstAgainst 2 = .ok (.iconst 0, 1) := by decide +kernel
theorem dL_firstAgainst_3 : decode cL_firstAgainst 3 = .ok (.aload_n 0, 1) := by decide +kernel
theorem dL_firstAgainst_4 : decode cL_firstAgainst 4 = .ok (.iload_n 1, 1) := by decide +kernel
theorem dL_firstAgainst_5 : decode cL_firstAgainst 5 = .ok (.iload_n 2, 1) := by decide +kernel
theorem dL_firstAgainst_6 : decode cL_firstAgainst 6 = .ok (.iload_n 3, 1) := by decide +kernel
theorem dL_firstAgainst_7 : decode cL_firstAgainst 7 = .ok (.invokevirtual 34, 3) := by decide +kernel
theorem dL_firstAgainst_10 : decode cL_firstAgainst 10 = .ok (.i2l, 1) := by decide +kernel
theorem dL_firstAgainst_11 : decode cL_firstAgainst 11 = .ok (.lastore, 1) := by decide +kernel
theorem dL_firstAgainst_12 : decode cL_firstAgainst 12 = .ok (.goto 15, 3) := by decide +kernel
theorem dL_firstAgainst_15 : decode cL_firstAgainst 15 = .ok (.astore 5, 2) := by decide +kernel
theorem dL_firstAgainst_17 : decode cL_firstAgainst 17 = .ok (.iconst 1, 1) := by decide +kernel
theorem dL_firstAgainst_18 : decode cL_firstAgainst 18 = .ok (.ireturn, 1) := by decide +kernel
theorem dL_firstAgainst_19 : decode cL_firstAgainst 19 = .ok (.astore 5, 2) := by decide +kernel
theorem dL_firstAgainst_21 : decode cL_firstAgainst 21 = .ok (.iconst 2, 1) := by decide +kernel
theorem dL_firstAgainst_22 : decode cL_firstAgainst 22 = .ok (.ireturn, 1) := by decide +kernel
theorem dL_firstAgainst_23 : decode cL_firstAgainst 23 = .ok (.astore 5, 2) := by decide +kernel
theorem dL_firstAgainst_25 : decode cL_firstAgainst 25 = .ok (.iconst 3, 1) := by decide +kernel
theorem dL_firstAgainst_26 : decode cL_firstAgainst 26 = .ok (.ireturn, 1) := by decide +kernel
theorem dL_firstAgainst_27 : decode cL_firstAgainst 27 = .ok (.iconst 0, 1) := by decide +kernel
theorem dL_firstAgainst_28 : decode cL_firstAgainst 28 = .ok (.ireturn, 1) := by decide +kernel
theorem dL_select_0 : decode cL_select 0 = .ok (.aload_n 3, 1) := by decide +kernel
theorem dL_select_1 : decode cL_select 1 = .ok (.iconst 0, 1) := by decide +kernel
theorem dL_select_2 : decode cL_select 2 = .ok (.aload_n 0, 1) := by decide +kernel
theorem dL_select_3 : decode cL_select 3 = .ok (.iload_n 1, 1) := by decide +kernel
theorem dL_select_4 : decode cL_select 4 = .ok (.iload_n 2, 1) := by decide +kernel
theorem dL_select_5 : decode cL_select 5 = .ok (.invokevirtual 38, 3) := by decide +kernel
theorem dL_select_8 : decode cL_select 8 = .ok (.i2l, 1) := by decide +kernel
theorem dL_select_9 : decode cL_select 9 = .ok (.lastore, 1) := by decide +kernel
theorem dL_select_10 : decode cL_select 10 = .ok (.goto 11, 3) := by decide +kernel
theorem dL_select_13 : decode cL_select 13 = .ok (.astore 4, 2) := by decide +kernel
theorem dL_select_15 : decode cL_select 15 = .ok (.iconst 1, 1) := by decide +kernel
theorem dL_select_16 : decode cL_select 16 = .ok (.ireturn, 1) := by decide +kernel
theorem dL_select_17 : decode cL_select 17 = .ok (.astore 4, 2) := by decide +kernel
theorem dL_select_19 : decode cL_select 19 = .ok (.iconst 2, 1) := by decide +kernel
theorem dL_select_20 : decode cL_select 20 = .ok (.ireturn, 1) := by decide +kernel
theorem dL_select_21 : decode cL_select 21 = .ok (.iconst 0, 1) := by decide +kernel
theorem dL_select_22 : decode cL_select 22 = .ok (.ireturn, 1) := by decide +kernel
theorem dL_draw_0 : decode cL_draw 0 = .ok (.aload 5, 2) := by decide +kernel
theorem dL_draw_2 : decode cL_draw 2 = .ok (.iconst 0, 1) := by decide +kernel
theorem dL_draw_3 : decode cL_draw 3 = .ok (.aload_n 0, 1) := by decide +kernel
theorem dL_draw_4 : decode cL_draw 4 = .ok (.iload_n 1, 1) := by decide +kernel
theorem dL_draw_5 : decode cL_draw 5 = .ok (.iload_n 2, 1) := by decide +kernel
theorem dL_draw_6 : decode cL_draw 6 = .ok (.lload_n 3, 1) := by decide +kernel
theorem dL_draw_7 : decode cL_draw 7 = .ok (.invokevirtual 41, 3) := by decide +kernel
theorem dL_draw_10 : decode cL_draw 10 = .ok (.i2l, 1) := by decide +kernel
theorem dL_draw_11 : decode cL_draw 11 = .ok (.lastore, 1) := by decide +kernel
theorem dL_draw_12 : decode cL_draw 12 = .ok (.goto 19, 3) := by decide +kernel
theorem dL_draw_15 : decode cL_draw 15 = .ok (.astore 6, 2) := by decide +kernel
theorem dL_draw_17 : decode cL_draw 17 = .ok (.iconst 1, 1) := by decide +kernel
theorem dL_draw_18 : decode cL_draw 18 = .ok (.ireturn, 1) := by decide +kernel
theorem dL_draw_19 : decode cL_draw 19 = .ok (.astore 6, 2) := by decide +kernel
theorem dL_draw_21 : decode cL_draw 21 = .ok (.iconst 2, 1) := by decide +kernel
theorem dL_draw_22 : decode cL_draw 22 = .ok (.ireturn, 1) := by decide +kernel
theorem dL_draw_23 : decode cL_draw 23 = .ok (.astore 6, 2) := by decide +kernel
theorem dL_draw_25 : decode cL_draw 25 = .ok (.iconst 3, 1) := by decide +kernel
theorem dL_draw_26 : decode cL_draw 26 = .ok (.ireturn, 1) := by decide +kernel
theorem dL_draw_27 : decode cL_draw 27 = .ok (.astore 6, 2) := by decide +kernel
theorem dL_draw_29 : decode cL_draw 29 = .ok (.iconst 4, 1) := by decide +kernel
theorem dL_draw_30 : decode cL_draw 30 = .ok (.ireturn, 1) := by decide +kernel
theorem dL_draw_31 : decode cL_draw 31 = .ok (.iconst 0, 1) := by decide +kernel
theorem dL_draw_32 : decode cL_draw 32 = .ok (.ireturn, 1) := by decide +kernel
theorem dL_tell_0 : decode cL_tell 0 = .ok (.aload_n 2, 1) := by decide +kernel
theorem dL_tell_1 : decode cL_tell 1 = .ok (.iconst 0, 1) := by decide +kernel
theorem dL_tell_2 : decode cL_tell 2 = .ok (.aload_n 0, 1) := by decide +kernel
theorem dL_tell_3 : decode cL_tell 3 = .ok (.iload_n 1, 1) := by decide +kernel
theorem dL_tell_4 : decode cL_tell 4 = .ok (.invokevirtual 47, 3) := by decide +kernel
theorem dL_tell_7 : decode cL_tell 7 = .ok (.i2l, 1) := by decide +kernel
theorem dL_tell_8 : decode cL_tell 8 = .ok (.lastore, 1) := by decide +kernel
theorem dL_tell_9 : decode cL_tell 9 = .ok (.goto 9, 3) := by decide +kernel
theorem dL_tell_12 : decode cL_tell 12 = .ok (.astore_n 3, 1) := by decide +kernel
theorem dL_tell_13 : decode cL_tell 13 = .ok (.iconst 1, 1) := by decide +kernel
theorem dL_tell_14 : decode cL_tell 14 = .ok (.ireturn, 1) := by decide +kernel
theorem dL_tell_15 : decode cL_tell 15 = .ok (.astore_n 3, 1) := by decide +kernel
theorem dL_tell_16 : decode cL_tell 16 = .ok (.iconst 2, 1) := by decide +kernel
theorem dL_tell_17 : decode cL_tell 17 = .ok (.ireturn, 1) := by decide +kernel
theorem dL_tell_18 : decode cL_tell 18 = .ok (.iconst 0, 1) := by decide +kernel
theorem dL_tell_19 : decode cL_tell 19 = .ok (.ireturn, 1) := by decide +kernel
theorem dL_read_0 : decode cL_read 0 = .ok (.aload_n 2, 1) := by decide +kernel
theorem dL_read_1 : decode cL_read 1 = .ok (.iconst 0, 1) := by decide +kernel
theorem dL_read_2 : decode cL_read 2 = .ok (.aload_n 0, 1) := by decide +kernel
theorem dL_read_3 : decode cL_read 3 = .ok (.iload_n 1, 1) := by decide +kernel
theorem dL_read_4 : decode cL_read 4 = .ok (.invokevirtual 51, 3) := by decide +kernel
theorem dL_read_7 : decode cL_read 7 = .ok (.i2l, 1) := by decide +kernel
theorem dL_read_8 : decode cL_read 8 = .ok (.lastore, 1) := by decide +kernel
theorem dL_read_9 : decode cL_read 9 = .ok (.goto 9, 3) := by decide +kernel
theorem dL_read_12 : decode cL_read 12 = .ok (.astore_n 3, 1) := by decide +kernel
theorem dL_read_13 : decode cL_read 13 = .ok (.iconst 1, 1) := by decide +kernel
theorem dL_read_14 : decode cL_read 14 = .ok (.ireturn, 1) := by decide +kernel
theorem dL_read_15 : decode cL_read 15 = .ok (.astore_n 3, 1) := by decide +kernel
theorem dL_read_16 : decode cL_read 16 = .ok (.iconst 2, 1) := by decide +kernel
theorem dL_read_17 : decode cL_read 17 = .ok (.ireturn, 1) := by decide +kernel
theorem dL_read_18 : decode cL_read 18 = .ok (.iconst 0, 1) := by decide +kernel
theorem dL_read_19 : decode cL_read 19 = .ok (.ireturn, 1) := by decide +kernel
theorem dL_length_0 : decode cL_length 0 = .ok (.aload_n 1, 1) := by decide +kernel
theorem dL_length_1 : decode cL_length 1 = .ok (.iconst 0, 1) := by decide +kernel
theorem dL_length_2 : decode cL_length 2 = .ok (.aload_n 0, 1) := by decide +kernel
theorem dL_length_3 : decode cL_length 3 = .ok (.invokevirtual 54, 3) := by decide +kernel
theorem dL_length_6 : decode cL_length 6 = .ok (.i2l, 1) := by decide +kernel
theorem dL_length_7 : decode cL_length 7 = .ok (.lastore, 1) := by decide +kernel
theorem dL_length_8 : decode cL_length 8 = .ok (.goto 6, 3) := by decide +kernel
theorem dL_length_11 : decode cL_length 11 = .ok (.astore_n 2, 1) := by decide +kernel
theorem dL_length_12 : decode cL_length 12 = .ok (.iconst 1, 1) := by decide +kernel
theorem dL_length_13 : decode cL_length 13 = .ok (.ireturn, 1) := by decide +kernel
theorem dL_length_14 : decode cL_length 14 = .ok (.iconst 0, 1) := by decide +kernel
theorem dL_length_15 : decode cL_length 15 = .ok (.ireturn, 1) := by decide +kernel
theorem dL_code_0 : decode cL_code 0 = .ok (.aload_n 2, 1) := by decide +kernel
theorem dL_code_1 : decode cL_code 1 = .ok (.iconst 0, 1) := by decide +kernel
theorem dL_code_2 : decode cL_code 2 = .ok (.aload_n 0, 1) := by decide +kernel
theorem dL_code_3 : decode cL_code 3 = .ok (.iload_n 1, 1) := by decide +kernel
theorem dL_code_4 : decode cL_code 4 = .ok (.invokevirtual 57, 3) := by decide +kernel
theorem dL_code_7 : decode cL_code 7 = .ok (.i2l, 1) := by decide +kernel
theorem dL_code_8 : decode cL_code 8 = .ok (.lastore, 1) := by decide +kernel
theorem dL_code_9 : decode cL_code 9 = .ok (.goto 9, 3) := by decide +kernel
theorem dL_code_12 : decode cL_code 12 = .ok (.astore_n 3, 1) := by decide +kernel
theorem dL_code_13 : decode cL_code 13 = .ok (.iconst 1, 1) := by decide +kernel
theorem dL_code_14 : decode cL_code 14 = .ok (.ireturn, 1) := by decide +kernel
theorem dL_code_15 : decode cL_code 15 = .ok (.astore_n 3, 1) := by decide +kernel
theorem dL_code_16 : decode cL_code 16 = .ok (.iconst 2, 1) := by decide +kernel
theorem dL_code_17 : decode cL_code 17 = .ok (.ireturn, 1) := by decide +kernel
theorem dL_code_18 : decode cL_code 18 = .ok (.iconst 0, 1) := by decide +kernel
theorem dL_code_19 : decode cL_code 19 = .ok (.ireturn, 1) := by decide +kernel
theorem dL_number_0 : decode cL_number 0 = .ok (.aload_n 1, 1) := by decide +kernel
theorem dL_number_1 : decode cL_number 1 = .ok (.iconst 0, 1) := by decide +kernel
theorem dL_number_2 : decode cL_number 2 = .ok (.aload_n 0, 1) := by decide +kernel
theorem dL_number_3 : decode cL_number 3 = .ok (.invokevirtual 60, 3) := by decide +kernel
theorem dL_number_6 : decode cL_number 6 = .ok (.i2l, 1) := by decide +kernel
theorem dL_number_7 : decode cL_number 7 = .ok (.lastore, 1) := by decide +kernel
theorem dL_number_8 : decode cL_number 8 = .ok (.goto 6, 3) := by decide +kernel
theorem dL_number_11 : decode cL_number 11 = .ok (.astore_n 2, 1) := by decide +kernel
theorem dL_number_12 : decode cL_number 12 = .ok (.iconst 1, 1) := by decide +kernel
theorem dL_number_13 : decode cL_number 13 = .ok (.ireturn, 1) := by decide +kernel
theorem dL_number_14 : decode cL_number 14 = .ok (.iconst 0, 1) := by decide +kernel
theorem dL_number_15 : decode cL_number 15 = .ok (.ireturn, 1) := by decide +kernel
theorem dL_height_0 : decode cL_height 0 = .ok (.aload_n 1, 1) := by decide +kernel
theorem dL_height_1 : decode cL_height 1 = .ok (.iconst 0, 1) := by decide +kernel
theorem dL_height_2 : decode cL_height 2 = .ok (.aload_n 0, 1) := by decide +kernel
theorem dL_height_3 : decode cL_height 3 = .ok (.invokevirtual 63, 3) := by decide +kernel
theorem dL_height_6 : decode cL_height 6 = .ok (.i2l, 1) := by decide +kernel
theorem dL_height_7 : decode cL_height 7 = .ok (.lastore, 1) := by decide +kernel
theorem dL_height_8 : decode cL_height 8 = .ok (.goto 6, 3) := by decide +kernel
theorem dL_height_11 : decode cL_height 11 = .ok (.astore_n 2, 1) := by decide +kernel
theorem dL_height_12 : decode cL_height 12 = .ok (.iconst 1, 1) := by decide +kernel
theorem dL_height_13 : decode cL_height 13 = .ok (.ireturn, 1) := by decide +kernel
theorem dL_height_14 : decode cL_height 14 = .ok (.iconst 0, 1) := by decide +kernel
theorem dL_height_15 : decode cL_height 15 = .ok (.ireturn, 1) := by decide +kernel
theorem dL_mean_0 : decode cL_mean 0 = .ok (.aload_n 1, 1) := by decide +kernel
theorem dL_mean_1 : decode cL_mean 1 = .ok (.iconst 0, 1) := by decide +kernel
theorem dL_mean_2 : decode cL_mean 2 = .ok (.aload_n 0, 1) := by decide +kernel
theorem dL_mean_3 : decode cL_mean 3 = .ok (.invokevirtual 66, 3) := by decide +kernel
theorem dL_mean_6 : decode cL_mean 6 = .ok (.dastore, 1) := by decide +kernel
theorem dL_mean_7 : decode cL_mean 7 = .ok (.goto 6, 3) := by decide +kernel
theorem dL_mean_10 : decode cL_mean 10 = .ok (.astore_n 2, 1) := by decide +kernel
theorem dL_mean_11 : decode cL_mean 11 = .ok (.iconst 1, 1) := by decide +kernel
theorem dL_mean_12 : decode cL_mean 12 = .ok (.ireturn, 1) := by decide +kernel
theorem dL_mean_13 : decode cL_mean 13 = .ok (.iconst 0, 1) := by decide +kernel
theorem dL_mean_14 : decode cL_mean 14 = .ok (.ireturn, 1) := by decide +kernel
theorem dL_holds_0 : decode cL_holds 0 = .ok (.aload_n 2, 1) := by decide +kernel
theorem dL_holds_1 : decode cL_holds 1 = .ok (.iconst 0, 1) := by decide +kernel
theorem dL_holds_2 : decode cL_holds 2 = .ok (.aload_n 0, 1) := by decide +kernel
theorem dL_holds_3 : decode cL_holds 3 = .ok (.iload_n 1, 1) := by decide +kernel
theorem dL_holds_4 : decode cL_holds 4 = .ok (.invokevirtual 70, 3) := by decide +kernel
theorem dL_holds_7 : decode cL_holds 7 = .ok (.ifCond .eq 7, 3) := by decide +kernel
theorem dL_holds_10 : decode cL_holds 10 = .ok (.lconst 1, 1) := by decide +kernel
theorem dL_holds_11 : decode cL_holds 11 = .ok (.goto 4, 3) := by decide +kernel
theorem dL_holds_14 : decode cL_holds 14 = .ok (.lconst 0, 1) := by decide +kernel
theorem dL_holds_15 : decode cL_holds 15 = .ok (.lastore, 1) := by decide +kernel
theorem dL_holds_16 : decode cL_holds 16 = .ok (.goto 9, 3) := by decide +kernel
theorem dL_holds_19 : decode cL_holds 19 = .ok (.astore_n 3, 1) := by decide +kernel
theorem dL_holds_20 : decode cL_holds 20 = .ok (.iconst 1, 1) := by decide +kernel
theorem dL_holds_21 : decode cL_holds 21 = .ok (.ireturn, 1) := by decide +kernel
theorem dL_holds_22 : decode cL_holds 22 = .ok (.astore_n 3, 1) := by decide +kernel
theorem dL_holds_23 : decode cL_holds 23 = .ok (.iconst 2, 1) := by decide +kernel
theorem dL_holds_24 : decode cL_holds 24 = .ok (.ireturn, 1) := by decide +kernel
theorem dL_holds_25 : decode cL_holds 25 = .ok (.iconst 0, 1) := by decide +kernel
theorem dL_holds_26 : decode cL_holds 26 = .ok (.ireturn, 1) := by decide +kernel
theorem dL_reductionCount_0 : decode cL_reductionCount 0 = .ok (.aload_n 1, 1) := by decide +kernel
theorem dL_reductionCount_1 : decode cL_reductionCount 1 = .ok (.iconst 0, 1) := by decide +kernel
theorem dL_reductionCount_2 : decode cL_reductionCount 2 = .ok (.aload_n 0, 1) := by decide +kernel
theorem dL_reductionCount_3 : decode cL_reductionCount 3 = .ok (.invokevirtual 74, 3) := by decide +kernel
theorem dL_reductionCount_6 : decode cL_reductionCount 6 = .ok (.i2l, 1) := by decide +kernel
theorem dL_reductionCount_7 : decode cL_reductionCount 7 = .ok (.lastore, 1) := by decide +kernel
theorem dL_reductionCount_8 : decode cL_reductionCount 8 = .ok (.goto 6, 3) := by decide +kernel
theorem dL_reductionCount_11 : decode cL_reductionCount 11 = .ok (.astore_n 2, 1) := by decide +kernel
theorem dL_reductionCount_12 : decode cL_reductionCount 12 = .ok (.iconst 1, 1) := by decide +kernel
theorem dL_reductionCount_13 : decode cL_reductionCount 13 = .ok (.ireturn, 1) := by decide +kernel
theorem dL_reductionCount_14 : decode cL_reductionCount 14 = .ok (.iconst 0, 1) := by decide +kernel
theorem dL_reductionCount_15 : decode cL_reductionCount 15 = .ok (.ireturn, 1) := by decide +kernel
theorem dL_reduction_0 : decode cL_reduction 0 = .ok (.aload_n 2, 1) := by decide +kernel
theorem dL_reduction_1 : decode cL_reduction 1 = .ok (.iconst 0, 1) := by decide +kernel
theorem dL_reduction_2 : decode cL_reduction 2 = .ok (.aload_n 0, 1) := by decide +kernel
theorem dL_reduction_3 : decode cL_reduction 3 = .ok (.iload_n 1, 1) := by decide +kernel
theorem dL_reduction_4 : decode cL_reduction 4 = .ok (.invokevirtual 77, 3) := by decide +kernel
theorem dL_reduction_7 : decode cL_reduction 7 = .ok (.i2l, 1) := by decide +kernel
theorem dL_reduction_8 : decode cL_reduction 8 = .ok (.lastore, 1) := by decide +kernel
theorem dL_reduction_9 : decode cL_reduction 9 = .ok (.goto 9, 3) := by decide +kernel
theorem dL_reduction_12 : decode cL_reduction 12 = .ok (.astore_n 3, 1) := by decide +kernel
theorem dL_reduction_13 : decode cL_reduction 13 = .ok (.iconst 1, 1) := by decide +kernel
theorem dL_reduction_14 : decode cL_reduction 14 = .ok (.ireturn, 1) := by decide +kernel
theorem dL_reduction_15 : decode cL_reduction 15 = .ok (.astore_n 3, 1) := by decide +kernel
theorem dL_reduction_16 : decode cL_reduction 16 = .ok (.iconst 2, 1) := by decide +kernel
theorem dL_reduction_17 : decode cL_reduction 17 = .ok (.ireturn, 1) := by decide +kernel
theorem dL_reduction_18 : decode cL_reduction 18 = .ok (.iconst 0, 1) := by decide +kernel
theorem dL_reduction_19 : decode cL_reduction 19 = .ok (.ireturn, 1) := by decide +kernel
theorem dL_reduce_0 : decode cL_reduce 0 = .ok (.aload_n 2, 1) := by decide +kernel
theorem dL_reduce_1 : decode cL_reduce 1 = .ok (.iconst 0, 1) := by decide +kernel
theorem dL_reduce_2 : decode cL_reduce 2 = .ok (.aload_n 0, 1) := by decide +kernel
theorem dL_reduce_3 : decode cL_reduce 3 = .ok (.iload_n 1, 1) := by decide +kernel
theorem dL_reduce_4 : decode cL_reduce 4 = .ok (.invokevirtual 80, 3) := by decide +kernel
theorem dL_reduce_7 : decode cL_reduce 7 = .ok (.i2l, 1) := by decide +kernel
theorem dL_reduce_8 : decode cL_reduce 8 = .ok (.lastore, 1) := by decide +kernel
theorem dL_reduce_9 : decode cL_reduce 9 = .ok (.goto 9, 3) := by decide +kernel
theorem dL_reduce_12 : decode cL_reduce 12 = .ok (.astore_n 3, 1) := by decide +kernel
theorem dL_reduce_13 : decode cL_reduce 13 = .ok (.iconst 1, 1) := by decide +kernel
theorem dL_reduce_14 : decode cL_reduce 14 = .ok (.ireturn, 1) := by decide +kernel
theorem dL_reduce_15 : decode cL_reduce 15 = .ok (.astore_n 3, 1) := by decide +kernel
theorem dL_reduce_16 : decode cL_reduce 16 = .ok (.iconst 2, 1) := by decide +kernel
theorem dL_reduce_17 : decode cL_reduce 17 = .ok (.ireturn, 1) := by decide +kernel
theorem dL_reduce_18 : decode cL_reduce 18 = .ok (.iconst 0, 1) := by decide +kernel
theorem dL_reduce_19 : decode cL_reduce 19 = .ok (.ireturn, 1) := by decide +kernel
theorem dL_law_0 : decode cL_law 0 = .ok (.new 8, 3) := by decide +kernel
theorem dL_law_3 : decode cL_law 3 = .ok (.dup, 1) := by decide +kernel
theorem dL_law_4 : decode cL_law 4 = .ok (.invokespecial 83, 3) := by decide +kernel
theorem dL_law_7 : decode cL_law 7 = .ok (.astore_n 1, 1) := by decide +kernel
theorem dL_law_8 : decode cL_law 8 = .ok (.new 84, 3) := by decide +kernel
theorem dL_law_11 : decode cL_law 11 = .ok (.dup, 1) := by decide +kernel
theorem dL_law_12 : decode cL_law 12 = .ok (.invokespecial 86, 3) := by decide +kernel
theorem dL_law_15 : decode cL_law 15 = .ok (.astore_n 2, 1) := by decide +kernel
theorem dL_law_16 : decode cL_law 16 = .ok (.iconst 1, 1) := by decide +kernel
theorem dL_law_17 : decode cL_law 17 = .ok (.newarray .long, 2) := by decide +kernel
theorem dL_law_19 : decode cL_law 19 = .ok (.astore_n 3, 1) := by decide +kernel
theorem dL_law_20 : decode cL_law 20 = .ok (.iconst 1, 1) := by decide +kernel
theorem dL_law_21 : decode cL_law 21 = .ok (.newarray .double, 2) := by decide +kernel
theorem dL_law_23 : decode cL_law 23 = .ok (.astore 4, 2) := by decide +kernel
theorem dL_law_25 : decode cL_law 25 = .ok (.iconst 0, 1) := by decide +kernel
theorem dL_law_26 : decode cL_law 26 = .ok (.istore 5, 2) := by decide +kernel
theorem dL_law_28 : decode cL_law 28 = .ok (.iload 5, 2) := by decide +kernel
theorem dL_law_30 : decode cL_law 30 = .ok (.aload_n 0, 1) := by decide +kernel
theorem dL_law_31 : decode cL_law 31 = .ok (.arraylength, 1) := by decide +kernel
theorem dL_law_32 : decode cL_law 32 = .ok (.bipush 6, 2) := by decide +kernel
theorem dL_law_34 : decode cL_law 34 = .ok (.isub, 1) := by decide +kernel
theorem dL_law_35 : decode cL_law 35 = .ok (.if_icmp .gt 1362, 3) := by decide +kernel
theorem dL_law_38 : decode cL_law 38 = .ok (.aload_n 0, 1) := by decide +kernel
theorem dL_law_39 : decode cL_law 39 = .ok (.iload 5, 2) := by decide +kernel
theorem dL_law_41 : decode cL_law 41 = .ok (.iaload, 1) := by decide +kernel
theorem dL_law_42 : decode cL_law 42 = .ok (.bipush 31, 2) := by decide +kernel
theorem dL_law_44 : decode cL_law 44 = .ok (.iand, 1) := by decide +kernel
theorem dL_law_45 : decode cL_law 45 = .ok (.tableswitch 1346 0 21 #[103, 178, 222, 326, 339, 352, 420, 488, 568, 636, 748, 804, 860, 904, 960, 1004, 1048, 1113, 1176, 1220, 1276, 1332], 103) := by decide +kernel
theorem dL_law_148 : decode cL_law 148 = .ok (.aload_n 1, 1) := by decide +kernel
theorem dL_law_149 : decode cL_law 149 = .ok (.aload_n 0, 1) := by decide +kernel
theorem dL_law_150 : decode cL_law 150 = .ok (.iload 5, 2) := by decide +kernel
theorem dL_law_152 : decode cL_law 152 = .ok (.iconst 1, 1) := by decide +kernel
theorem dL_law_153 : decode cL_law 153 = .ok (.iadd, 1) := by decide +kernel
theorem dL_law_154 : decode cL_law 154 = .ok (.iaload, 1) := by decide +kernel
theorem dL_law_155 : decode cL_law 155 = .ok (.aload_n 0, 1) := by decide +kernel
theorem dL_law_156 : decode cL_law 156 = .ok (.iload 5, 2) := by decide +kernel
theorem dL_law_158 : decode cL_law 158 = .ok (.iconst 2, 1) := by decide +kernel
theorem dL_law_159 : decode cL_law 159 = .ok (.iadd, 1) := by decide +kernel
theorem dL_law_160 : decode cL_law 160 = .ok (.iaload, 1) := by decide +kernel
theorem dL_law_161 : decode cL_law 161 = .ok (.aload_n 3, 1) := by decide +kernel
theorem dL_law_162 : decode cL_law 162 = .ok (.invokestatic 87, 3) := by decide +kernel
theorem dL_law_165 : decode cL_law 165 = .ok (.istore 6, 2) := by decide +kernel
theorem dL_law_167 : decode cL_law 167 = .ok (.aload_n 2, 1) := by decide +kernel
theorem dL_law_168 : decode cL_law 168 = .ok (.aload_n 0, 1) := by decide +kernel
theorem dL_law_169 : decode cL_law 169 = .ok (.iload 5, 2) := by decide +kernel
theorem dL_law_171 : decode cL_law 171 = .ok (.iconst 1, 1) := by decide +kernel
theorem dL_law_172 : decode cL_law 172 = .ok (.iadd, 1) := by decide +kernel
theorem dL_law_173 : decode cL_law 173 = .ok (.iaload, 1) := by decide +kernel
theorem dL_law_174 : decode cL_law 174 = .ok (.aload_n 0, 1) := by decide +kernel
theorem dL_law_175 : decode cL_law 175 = .ok (.iload 5, 2) := by decide +kernel
theorem dL_law_177 : decode cL_law 177 = .ok (.iconst 2, 1) := by decide +kernel
theorem dL_law_178 : decode cL_law 178 = .ok (.iadd, 1) := by decide +kernel
theorem dL_law_179 : decode cL_law 179 = .ok (.iaload, 1) := by decide +kernel
theorem dL_law_180 : decode cL_law 180 = .ok (.invokevirtual 92, 3) := by decide +kernel
theorem dL_law_183 : decode cL_law 183 = .ok (.istore 7, 2) := by decide +kernel
theorem dL_law_185 : decode cL_law 185 = .ok (.aload_n 2, 1) := by decide +kernel
theorem dL_law_186 : decode cL_law 186 = .ok (.invokevirtual 93, 3) := by decide +kernel
theorem dL_law_189 : decode cL_law 189 = .ok (.iload 6, 2) := by decide +kernel
theorem dL_law_191 : decode cL_law 191 = .ok (.if_icmp .eq 5, 3) := by decide +kernel
theorem dL_law_194 : decode cL_law 194 = .ok (.iconst 0, 1) := by decide +kernel
theorem dL_law_195 : decode cL_law 195 = .ok (.ireturn, 1) := by decide +kernel
theorem dL_law_196 : decode cL_law 196 = .ok (.iload 6, 2) := by decide +kernel
theorem dL_law_198 : decode cL_law 198 = .ok (.ifCond .ne 22, 3) := by decide +kernel
theorem dL_law_201 : decode cL_law 201 = .ok (.aload_n 3, 1) := by decide +kernel
theorem dL_law_202 : decode cL_law 202 = .ok (.iconst 0, 1) := by decide +kernel
theorem dL_law_203 : decode cL_law 203 = .ok (.laload, 1) := by decide +kernel
theorem dL_law_204 : decode cL_law 204 = .ok (.iload 7, 2) := by decide +kernel
theorem dL_law_206 : decode cL_law 206 = .ok (.ifCond .eq 7, 3) := by decide +kernel
theorem dL_law_209 : decode cL_law 209 = .ok (.lconst 1, 1) := by decide +kernel
theorem dL_law_210 : decode cL_law 210 = .ok (.goto 4, 3) := by decide +kernel
theorem dL_law_213 : decode cL_law 213 = .ok (.lconst 0, 1) := by decide +kernel
theorem dL_law_214 : decode cL_law 214 = .ok (.lcmp, 1) := by decide +kernel
theorem dL_law_215 : decode cL_law 215 = .ok (.ifCond .eq 5, 3) := by decide +kernel
theorem dL_law_218 : decode cL_law 218 = .ok (.iconst 0, 1) := by decide +kernel
theorem dL_law_219 : decode cL_law 219 = .ok (.ireturn, 1) := by decide +kernel
theorem dL_law_220 : decode cL_law 220 = .ok (.goto 1171, 3) := by decide +kernel
theorem dL_law_223 : decode cL_law 223 = .ok (.aload_n 1, 1) := by decide +kernel
theorem dL_law_224 : decode cL_law 224 = .ok (.aload_n 3, 1) := by decide +kernel
theorem dL_law_225 : decode cL_law 225 = .ok (.invokestatic 96, 3) := by decide +kernel
theorem dL_law_228 : decode cL_law 228 = .ok (.istore 6, 2) := by decide +kernel
theorem dL_law_230 : decode cL_law 230 = .ok (.aload_n 2, 1) := by decide +kernel
theorem dL_law_231 : decode cL_law 231 = .ok (.invokevirtual 99, 3) := by decide +kernel
theorem dL_law_234 : decode cL_law 234 = .ok (.istore 7, 2) := by decide +kernel
theorem dL_law_236 : decode cL_law 236 = .ok (.aload_n 2, 1) := by decide +kernel
theorem dL_law_237 : decode cL_law 237 = .ok (.invokevirtual 93, 3) := by decide +kernel
theorem dL_law_240 : decode cL_law 240 = .ok (.iload 6, 2) := by decide +kernel
theorem dL_law_242 : decode cL_law 242 = .ok (.if_icmp .eq 5, 3) := by decide +kernel
theorem dL_law_245 : decode cL_law 245 = .ok (.iconst 0, 1) := by decide +kernel
theorem dL_law_246 : decode cL_law 246 = .ok (.ireturn, 1) := by decide +kernel
theorem dL_law_247 : decode cL_law 247 = .ok (.iload 6, 2) := by decide +kernel
theorem dL_law_249 : decode cL_law 249 = .ok (.ifCond .ne 15, 3) := by decide +kernel
theorem dL_law_252 : decode cL_law 252 = .ok (.aload_n 3, 1) := by decide +kernel
theorem dL_law_253 : decode cL_law 253 = .ok (.iconst 0, 1) := by decide +kernel
theorem dL_law_254 : decode cL_law 254 = .ok (.laload, 1) := by decide +kernel
theorem dL_law_255 : decode cL_law 255 = .ok (.iload 7, 2) := by decide +kernel
theorem dL_law_257 : decode cL_law 257 = .ok (.i2l, 1) := by decide +kernel
theorem dL_law_258 : decode cL_law 258 = .ok (.lcmp, 1) := by decide +kernel
theorem dL_law_259 : decode cL_law 259 = .ok (.ifCond .eq 5, 3) := by decide +kernel
theorem dL_law_262 : decode cL_law 262 = .ok (.iconst 0, 1) := by decide +kernel
theorem dL_law_263 : decode cL_law 263 = .ok (.ireturn, 1) := by decide +kernel
theorem dL_law_264 : decode cL_law 264 = .ok (.goto 1127, 3) := by decide +kernel
theorem dL_law_267 : decode cL_law 267 = .ok (.aload_n 1, 1) := by decide +kernel
theorem dL_law_268 : decode cL_law 268 = .ok (.aload_n 0, 1) := by decide +kernel
theorem dL_law_269 : decode cL_law 269 = .ok (.iload 5, 2) := by decide +kernel
theorem dL_law_271 : decode cL_law 271 = .ok (.iconst 1, 1) := by decide +kernel
theorem dL_law_272 : decode cL_law 272 = .ok (.iadd, 1) := by decide +kernel
theorem dL_law_273 : decode cL_law 273 = .ok (.iaload, 1) := by decide +kernel
theorem dL_law_274 : decode cL_law 274 = .ok (.aload_n 0, 1) := by decide +kernel
theorem dL_law_275 : decode cL_law 275 = .ok (.iload 5, 2) := by decide +kernel
theorem dL_law_277 : decode cL_law 277 = .ok (.iconst 2, 1) := by decide +kernel
theorem dL_law_278 : decode cL_law 278 = .ok (.iadd, 1) := by decide +kernel
theorem dL_law_279 : decode cL_law 279 = .ok (.iaload, 1) := by decide +kernel
theorem dL_law_280 : decode cL_law 280 = .ok (.aload_n 0, 1) := by decide +kernel
theorem dL_law_281 : decode cL_law 281 = .ok (.iload 5, 2) := by decide +kernel
theorem dL_law_283 : decode cL_law 283 = .ok (.iconst 3, 1) := by decide +kernel
theorem dL_law_284 : decode cL_law 284 = .ok (.iadd, 1) := by decide +kernel
theorem dL_law_285 : decode cL_law 285 = .ok (.iaload, 1) := by decide +kernel
theorem dL_law_286 : decode cL_law 286 = .ok (.aload_n 0, 1) := by decide +kernel
theorem dL_law_287 : decode cL_law 287 = .ok (.iload 5, 2) := by decide +kernel
theorem dL_law_289 : decode cL_law 289 = .ok (.iconst 4, 1) := by decide +kernel
theorem dL_law_290 : decode cL_law 290 = .ok (.iadd, 1) := by decide +kernel
theorem dL_law_291 : decode cL_law 291 = .ok (.iaload, 1) := by decide +kernel
theorem dL_law_292 : decode cL_law 292 = .ok (.aload_n 0, 1) := by decide +kernel
theorem dL_law_293 : decode cL_law 293 = .ok (.iload 5, 2) := by decide +kernel
theorem dL_law_295 : decode cL_law 295 = .ok (.iconst 5, 1) := by decide +kernel
theorem dL_law_296 : decode cL_law 296 = .ok (.iadd, 1) := by decide +kernel
theorem dL_law_297 : decode cL_law 297 = .ok (.iaload, 1) := by decide +kernel
theorem dL_law_298 : decode cL_law 298 = .ok (.aload_n 3, 1) := by decide +kernel
theorem dL_law_299 : decode cL_law 299 = .ok (.invokestatic 100, 3) := by decide +kernel
theorem dL_law_302 : decode cL_law 302 = .ok (.istore 6, 2) := by decide +kernel
theorem dL_law_304 : decode cL_law 304 = .ok (.aload_n 2, 1) := by decide +kernel
theorem dL_law_305 : decode cL_law 305 = .ok (.aload_n 0, 1) := by decide +kernel
theorem dL_law_306 : decode cL_law 306 = .ok (.iload 5, 2) := by decide +kernel
theorem dL_law_308 : decode cL_law 308 = .ok (.iconst 1, 1) := by decide +kernel
theorem dL_law_309 : decode cL_law 309 = .ok (.iadd, 1) := by decide +kernel
theorem dL_law_310 : decode cL_law 310 = .ok (.iaload, 1) := by decide +kernel
theorem dL_law_311 : decode cL_law 311 = .ok (.aload_n 0, 1) := by decide +kernel
theorem dL_law_312 : decode cL_law 312 = .ok (.iload 5, 2) := by decide +kernel
theorem dL_law_314 : decode cL_law 314 = .ok (.iconst 2, 1) := by decide +kernel
theorem dL_law_315 : decode cL_law 315 = .ok (.iadd, 1) := by decide +kernel
theorem dL_law_316 : decode cL_law 316 = .ok (.iaload, 1) := by decide +kernel
theorem dL_law_317 : decode cL_law 317 = .ok (.aload_n 0, 1) := by decide +kernel
theorem dL_law_318 : decode cL_law 318 = .ok (.iload 5, 2) := by decide +kernel
theorem dL_law_320 : decode cL_law 320 = .ok (.iconst 3, 1) := by decide +kernel
theorem dL_law_321 : decode cL_law 321 = .ok (.iadd, 1) := by decide +kernel
theorem dL_law_322 : decode cL_law 322 = .ok (.iaload, 1) := by decide +kernel
theorem dL_law_323 : decode cL_law 323 = .ok (.aload_n 0, 1) := by decide +kernel
theorem dL_law_324 : decode cL_law 324 = .ok (.iload 5, 2) := by decide +kernel
theorem dL_law_326 : decode cL_law 326 = .ok (.iconst 4, 1) := by decide +kernel
theorem dL_law_327 : decode cL_law 327 = .ok (.iadd, 1) := by decide +kernel
theorem dL_law_328 : decode cL_law 328 = .ok (.iaload, 1) := by decide +kernel
theorem dL_law_329 : decode cL_law 329 = .ok (.aload_n 0, 1) := by decide +kernel
theorem dL_law_330 : decode cL_law 330 = .ok (.iload 5, 2) := by decide +kernel
theorem dL_law_332 : decode cL_law 332 = .ok (.iconst 5, 1) := by decide +kernel
theorem dL_law_333 : decode cL_law 333 = .ok (.iadd, 1) := by decide +kernel
theorem dL_law_334 : decode cL_law 334 = .ok (.iaload, 1) := by decide +kernel
theorem dL_law_335 : decode cL_law 335 = .ok (.invokevirtual 103, 3) := by decide +kernel
theorem dL_law_338 : decode cL_law 338 = .ok (.istore 7, 2) := by decide +kernel
theorem dL_law_340 : decode cL_law 340 = .ok (.aload_n 2, 1) := by decide +kernel
theorem dL_law_341 : decode cL_law 341 = .ok (.invokevirtual 93, 3) := by decide +kernel
theorem dL_law_344 : decode cL_law 344 = .ok (.iload 6, 2) := by decide +kernel
theorem dL_law_346 : decode cL_law 346 = .ok (.if_icmp .eq 5, 3) := by decide +kernel
theorem dL_law_349 : decode cL_law 349 = .ok (.iconst 0, 1) := by decide +kernel
theorem dL_law_350 : decode cL_law 350 = .ok (.ireturn, 1) := by decide +kernel
theorem dL_law_351 : decode cL_law 351 = .ok (.iload 6, 2) := by decide +kernel
theorem dL_law_353 : decode cL_law 353 = .ok (.ifCond .ne 15, 3) := by decide +kernel
theorem dL_law_356 : decode cL_law 356 = .ok (.aload_n 3, 1) := by decide +kernel
theorem dL_law_357 : decode cL_law 357 = .ok (.iconst 0, 1) := by decide +kernel
theorem dL_law_358 : decode cL_law 358 = .ok (.laload, 1) := by decide +kernel
theorem dL_law_359 : decode cL_law 359 = .ok (.iload 7, 2) := by decide +kernel
theorem dL_law_361 : decode cL_law 361 = .ok (.i2l, 1) := by decide +kernel
theorem dL_law_362 : decode cL_law 362 = .ok (.lcmp, 1) := by decide +kernel
theorem dL_law_363 : decode cL_law 363 = .ok (.ifCond .eq 5, 3) := by decide +kernel
theorem dL_law_366 : decode cL_law 366 = .ok (.iconst 0, 1) := by decide +kernel
theorem dL_law_367 : decode cL_law 367 = .ok (.ireturn, 1) := by decide +kernel
theorem dL_law_368 : decode cL_law 368 = .ok (.goto 1023, 3) := by decide +kernel
theorem dL_law_371 : decode cL_law 371 = .ok (.aload_n 1, 1) := by decide +kernel
theorem dL_law_372 : decode cL_law 372 = .ok (.invokevirtual 104, 3) := by decide +kernel
theorem dL_law_375 : decode cL_law 375 = .ok (.aload_n 2, 1) := by decide +kernel
theorem dL_law_376 : decode cL_law 376 = .ok (.invokevirtual 107, 3) := by decide +kernel
theorem dL_law_379 : decode cL_law 379 = .ok (.if_icmp .eq 1012, 3) := by decide +kernel
theorem dL_law_382 : decode cL_law 382 = .ok (.iconst 0, 1) := by decide +kernel
theorem dL_law_383 : decode cL_law 383 = .ok (.ireturn, 1) := by decide +kernel
theorem dL_law_384 : decode cL_law 384 = .ok (.aload_n 1, 1) := by decide +kernel
theorem dL_law_385 : decode cL_law 385 = .ok (.invokevirtual 108, 3) := by decide +kernel
theorem dL_law_388 : decode cL_law 388 = .ok (.aload_n 2, 1) := by decide +kernel
theorem dL_law_389 : decode cL_law 389 = .ok (.invokevirtual 111, 3) := by decide +kernel
theorem dL_law_392 : decode cL_law 392 = .ok (.if_icmp .eq 999, 3) := by decide +kernel
theorem dL_law_395 : decode cL_law 395 = .ok (.iconst 0, 1) := by decide +kernel
theorem dL_law_396 : decode cL_law 396 = .ok (.ireturn, 1) := by decide +kernel
theorem dL_law_397 : decode cL_law 397 = .ok (.aload_n 1, 1) := by decide +kernel
theorem dL_law_398 : decode cL_law 398 = .ok (.aload_n 0, 1) := by decide +kernel
theorem dL_law_399 : decode cL_law 399 = .ok (.iload 5, 2) := by decide +kernel
theorem dL_law_401 : decode cL_law 401 = .ok (.iconst 1, 1) := by decide +kernel
theorem dL_law_402 : decode cL_law 402 = .ok (.iadd, 1) := by decide +kernel
theorem dL_law_403 : decode cL_law 403 = .ok (.iaload, 1) := by decide +kernel
theorem dL_law_404 : decode cL_law 404 = .ok (.aload_n 0, 1) := by decide +kernel
theorem dL_law_405 : decode cL_law 405 = .ok (.iload 5, 2) := by decide +kernel
theorem dL_law_407 : decode cL_law 407 = .ok (.iconst 2, 1) := by decide +kernel
theorem dL_law_408 : decode cL_law 408 = .ok (.iadd, 1) := by decide +kernel
theorem dL_law_409 : decode cL_law 409 = .ok (.iaload, 1) := by decide +kernel
theorem dL_law_410 : decode cL_law 410 = .ok (.aload_n 3, 1) := by decide +kernel
theorem dL_law_411 : decode cL_law 411 = .ok (.invokestatic 112, 3) := by decide +kernel
theorem dL_law_414 : decode cL_law 414 = .ok (.istore 6, 2) := by decide +kernel
theorem dL_law_416 : decode cL_law 416 = .ok (.aload_n 2, 1) := by decide +kernel
theorem dL_law_417 : decode cL_law 417 = .ok (.aload_n 0, 1) := by decide +kernel
theorem dL_law_418 : decode cL_law 418 = .ok (.iload 5, 2) := by decide +kernel
theorem dL_law_420 : decode cL_law 420 = .ok (.iconst 1, 1) := by decide +kernel
theorem dL_law_421 : decode cL_law 421 = .ok (.iadd, 1) := by decide +kernel
theorem dL_law_422 : decode cL_law 422 = .ok (.iaload, 1) := by decide +kernel
theorem dL_law_423 : decode cL_law 423 = .ok (.aload_n 0, 1) := by decide +kernel
theorem dL_law_424 : decode cL_law 424 = .ok (.iload 5, 2) := by decide +kernel
theorem dL_law_426 : decode cL_law 426 = .ok (.iconst 2, 1) := by decide +kernel
theorem dL_law_427 : decode cL_law 427 = .ok (.iadd, 1) := by decide +kernel
theorem dL_law_428 : decode cL_law 428 = .ok (.iaload, 1) := by decide +kernel
theorem dL_law_429 : decode cL_law 429 = .ok (.invokevirtual 114, 3) := by decide +kernel
theorem dL_law_432 : decode cL_law 432 = .ok (.istore 7, 2) := by decide +kernel
theorem dL_law_434 : decode cL_law 434 = .ok (.aload_n 2, 1) := by decide +kernel
theorem dL_law_435 : decode cL_law 435 = .ok (.invokevirtual 93, 3) := by decide +kernel
theorem dL_law_438 : decode cL_law 438 = .ok (.iload 6, 2) := by decide +kernel
theorem dL_law_440 : decode cL_law 440 = .ok (.if_icmp .eq 5, 3) := by decide +kernel
theorem dL_law_443 : decode cL_law 443 = .ok (.iconst 0, 1) := by decide +kernel
theorem dL_law_444 : decode cL_law 444 = .ok (.ireturn, 1) := by decide +kernel
theorem dL_law_445 : decode cL_law 445 = .ok (.iload 6, 2) := by decide +kernel
theorem dL_law_447 : decode cL_law 447 = .ok (.ifCond .ne 15, 3) := by decide +kernel
theorem dL_law_450 : decode cL_law 450 = .ok (.aload_n 3, 1) := by decide +kernel
theorem dL_law_451 : decode cL_law 451 = .ok (.iconst 0, 1) := by decide +kernel
theorem dL_law_452 : decode cL_law 452 = .ok (.laload, 1) := by decide +kernel
theorem dL_law_453 : decode cL_law 453 = .ok (.iload 7, 2) := by decide +kernel
theorem dL_law_455 : decode cL_law 455 = .ok (.i2l, 1) := by decide +kernel
theorem dL_law_456 : decode cL_law 456 = .ok (.lcmp, 1) := by decide +kernel
theorem dL_law_457 : decode cL_law 457 = .ok (.ifCond .eq 5, 3) := by decide +kernel
theorem dL_law_460 : decode cL_law 460 = .ok (.iconst 0, 1) := by decide +kernel
theorem dL_law_461 : decode cL_law 461 = .ok (.ireturn, 1) := by decide +kernel
theorem dL_law_462 : decode cL_law 462 = .ok (.goto 929, 3) := by decide +kernel
theorem dL_law_465 : decode cL_law 465 = .ok (.aload_n 1, 1) := by decide +kernel
theorem dL_law_466 : decode cL_law 466 = .ok (.aload_n 0, 1) := by decide +kernel
theorem dL_law_467 : decode cL_law 467 = .ok (.iload 5, 2) := by decide +kernel
theorem dL_law_469 : decode cL_law 469 = .ok (.iconst 1, 1) := by decide +kernel
theorem dL_law_470 : decode cL_law 470 = .ok (.iadd, 1) := by decide +kernel
theorem dL_law_471 : decode cL_law 471 = .ok (.iaload, 1) := by decide +kernel
theorem dL_law_472 : decode cL_law 472 = .ok (.aload_n 0, 1) := by decide +kernel
theorem dL_law_473 : decode cL_law 473 = .ok (.iload 5, 2) := by decide +kernel
theorem dL_law_475 : decode cL_law 475 = .ok (.iconst 2, 1) := by decide +kernel
theorem dL_law_476 : decode cL_law 476 = .ok (.iadd, 1) := by decide +kernel
theorem dL_law_477 : decode cL_law 477 = .ok (.iaload, 1) := by decide +kernel
theorem dL_law_478 : decode cL_law 478 = .ok (.aload_n 3, 1) := by decide +kernel
theorem dL_law_479 : decode cL_law 479 = .ok (.invokestatic 115, 3) := by decide +kernel
theorem dL_law_482 : decode cL_law 482 = .ok (.istore 6, 2) := by decide +kernel
theorem dL_law_484 : decode cL_law 484 = .ok (.aload_n 2, 1) := by decide +kernel
theorem dL_law_485 : decode cL_law 485 = .ok (.aload_n 0, 1) := by decide +kernel
theorem dL_law_486 : decode cL_law 486 = .ok (.iload 5, 2) := by decide +kernel
theorem dL_law_488 : decode cL_law 488 = .ok (.iconst 1, 1) := by decide +kernel
theorem dL_law_489 : decode cL_law 489 = .ok (.iadd, 1) := by decide +kernel
theorem dL_law_490 : decode cL_law 490 = .ok (.iaload, 1) := by decide +kernel
theorem dL_law_491 : decode cL_law 491 = .ok (.aload_n 0, 1) := by decide +kernel
theorem dL_law_492 : decode cL_law 492 = .ok (.iload 5, 2) := by decide +kernel
theorem dL_law_494 : decode cL_law 494 = .ok (.iconst 2, 1) := by decide +kernel
theorem dL_law_495 : decode cL_law 495 = .ok (.iadd, 1) := by decide +kernel
theorem dL_law_496 : decode cL_law 496 = .ok (.iaload, 1) := by decide +kernel
theorem dL_law_497 : decode cL_law 497 = .ok (.invokevirtual 117, 3) := by decide +kernel
theorem dL_law_500 : decode cL_law 500 = .ok (.istore 7, 2) := by decide +kernel
theorem dL_law_502 : decode cL_law 502 = .ok (.aload_n 2, 1) := by decide +kernel
theorem dL_law_503 : decode cL_law 503 = .ok (.invokevirtual 93, 3) := by decide +kernel
theorem dL_law_506 : decode cL_law 506 = .ok (.iload 6, 2) := by decide +kernel
theorem dL_law_508 : decode cL_law 508 = .ok (.if_icmp .eq 5, 3) := by decide +kernel
theorem dL_law_511 : decode cL_law 511 = .ok (.iconst 0, 1) := by decide +kernel
theorem dL_law_512 : decode cL_law 512 = .ok (.ireturn, 1) := by decide +kernel
theorem dL_law_513 : decode cL_law 513 = .ok (.iload 6, 2) := by decide +kernel
theorem dL_law_515 : decode cL_law 515 = .ok (.ifCond .ne 15, 3) := by decide +kernel
theorem dL_law_518 : decode cL_law 518 = .ok (.aload_n 3, 1) := by decide +kernel
theorem dL_law_519 : decode cL_law 519 = .ok (.iconst 0, 1) := by decide +kernel
theorem dL_law_520 : decode cL_law 520 = .ok (.laload, 1) := by decide +kernel
theorem dL_law_521 : decode cL_law 521 = .ok (.iload 7, 2) := by decide +kernel
theorem dL_law_523 : decode cL_law 523 = .ok (.i2l, 1) := by decide +kernel
theorem dL_law_524 : decode cL_law 524 = .ok (.lcmp, 1) := by decide +kernel
theorem dL_law_525 : decode cL_law 525 = .ok (.ifCond .eq 5, 3) := by decide +kernel
theorem dL_law_528 : decode cL_law 528 = .ok (.iconst 0, 1) := by decide +kernel
theorem dL_law_529 : decode cL_law 529 = .ok (.ireturn, 1) := by decide +kernel
theorem dL_law_530 : decode cL_law 530 = .ok (.goto 861, 3) := by decide +kernel
theorem dL_law_533 : decode cL_law 533 = .ok (.aload_n 1, 1) := by decide +kernel
theorem dL_law_534 : decode cL_law 534 = .ok (.aload_n 0, 1) := by decide +kernel
theorem dL_law_535 : decode cL_law 535 = .ok (.iload 5, 2) := by decide +kernel
theorem dL_law_537 : decode cL_law 537 = .ok (.iconst 1, 1) := by decide +kernel
theorem dL_law_538 : decode cL_law 538 = .ok (.iadd, 1) := by decide +kernel
theorem dL_law_539 : decode cL_law 539 = .ok (.iaload, 1) := by decide +kernel
theorem dL_law_540 : decode cL_law 540 = .ok (.aload_n 0, 1) := by decide +kernel
theorem dL_law_541 : decode cL_law 541 = .ok (.iload 5, 2) := by decide +kernel
theorem dL_law_543 : decode cL_law 543 = .ok (.iconst 2, 1) := by decide +kernel
theorem dL_law_544 : decode cL_law 544 = .ok (.iadd, 1) := by decide +kernel
theorem dL_law_545 : decode cL_law 545 = .ok (.iaload, 1) := by decide +kernel
theorem dL_law_546 : decode cL_law 546 = .ok (.aload_n 0, 1) := by decide +kernel
theorem dL_law_547 : decode cL_law 547 = .ok (.iload 5, 2) := by decide +kernel
theorem dL_law_549 : decode cL_law 549 = .ok (.iconst 3, 1) := by decide +kernel
theorem dL_law_550 : decode cL_law 550 = .ok (.iadd, 1) := by decide +kernel
theorem dL_law_551 : decode cL_law 551 = .ok (.iaload, 1) := by decide +kernel
theorem dL_law_552 : decode cL_law 552 = .ok (.aload_n 3, 1) := by decide +kernel
theorem dL_law_553 : decode cL_law 553 = .ok (.invokestatic 118, 3) := by decide +kernel
theorem dL_law_556 : decode cL_law 556 = .ok (.istore 6, 2) := by decide +kernel
theorem dL_law_558 : decode cL_law 558 = .ok (.aload_n 2, 1) := by decide +kernel
theorem dL_law_559 : decode cL_law 559 = .ok (.aload_n 0, 1) := by decide +kernel
theorem dL_law_560 : decode cL_law 560 = .ok (.iload 5, 2) := by decide +kernel
theorem dL_law_562 : decode cL_law 562 = .ok (.iconst 1, 1) := by decide +kernel
theorem dL_law_563 : decode cL_law 563 = .ok (.iadd, 1) := by decide +kernel
theorem dL_law_564 : decode cL_law 564 = .ok (.iaload, 1) := by decide +kernel
theorem dL_law_565 : decode cL_law 565 = .ok (.aload_n 0, 1) := by decide +kernel
theorem dL_law_566 : decode cL_law 566 = .ok (.iload 5, 2) := by decide +kernel
theorem dL_law_568 : decode cL_law 568 = .ok (.iconst 2, 1) := by decide +kernel
theorem dL_law_569 : decode cL_law 569 = .ok (.iadd, 1) := by decide +kernel
theorem dL_law_570 : decode cL_law 570 = .ok (.iaload, 1) := by decide +kernel
theorem dL_law_571 : decode cL_law 571 = .ok (.aload_n 0, 1) := by decide +kernel
theorem dL_law_572 : decode cL_law 572 = .ok (.iload 5, 2) := by decide +kernel
theorem dL_law_574 : decode cL_law 574 = .ok (.iconst 3, 1) := by decide +kernel
theorem dL_law_575 : decode cL_law 575 = .ok (.iadd, 1) := by decide +kernel
theorem dL_law_576 : decode cL_law 576 = .ok (.iaload, 1) := by decide +kernel
theorem dL_law_577 : decode cL_law 577 = .ok (.invokevirtual 121, 3) := by decide +kernel
theorem dL_law_580 : decode cL_law 580 = .ok (.istore 7, 2) := by decide +kernel
theorem dL_law_582 : decode cL_law 582 = .ok (.aload_n 2, 1) := by decide +kernel
theorem dL_law_583 : decode cL_law 583 = .ok (.invokevirtual 93, 3) := by decide +kernel
theorem dL_law_586 : decode cL_law 586 = .ok (.iload 6, 2) := by decide +kernel
theorem dL_law_588 : decode cL_law 588 = .ok (.if_icmp .eq 5, 3) := by decide +kernel
theorem dL_law_591 : decode cL_law 591 = .ok (.iconst 0, 1) := by decide +kernel
theorem dL_law_592 : decode cL_law 592 = .ok (.ireturn, 1) := by decide +kernel
theorem dL_law_593 : decode cL_law 593 = .ok (.iload 6, 2) := by decide +kernel
theorem dL_law_595 : decode cL_law 595 = .ok (.ifCond .ne 15, 3) := by decide +kernel
theorem dL_law_598 : decode cL_law 598 = .ok (.aload_n 3, 1) := by decide +kernel
theorem dL_law_599 : decode cL_law 599 = .ok (.iconst 0, 1) := by decide +kernel
theorem dL_law_600 : decode cL_law 600 = .ok (.laload, 1) := by decide +kernel
theorem dL_law_601 : decode cL_law 601 = .ok (.iload 7, 2) := by decide +kernel
theorem dL_law_603 : decode cL_law 603 = .ok (.i2l, 1) := by decide +kernel
theorem dL_law_604 : decode cL_law 604 = .ok (.lcmp, 1) := by decide +kernel
theorem dL_law_605 : decode cL_law 605 = .ok (.ifCond .eq 5, 3) := by decide +kernel
theorem dL_law_608 : decode cL_law 608 = .ok (.iconst 0, 1) := by decide +kernel
theorem dL_law_609 : decode cL_law 609 = .ok (.ireturn, 1) := by decide +kernel
theorem dL_law_610 : decode cL_law 610 = .ok (.goto 781, 3) := by decide +kernel
theorem dL_law_613 : decode cL_law 613 = .ok (.aload_n 1, 1) := by decide +kernel
theorem dL_law_614 : decode cL_law 614 = .ok (.aload_n 0, 1) := by decide +kernel
theorem dL_law_615 : decode cL_law 615 = .ok (.iload 5, 2) := by decide +kernel
theorem dL_law_617 : decode cL_law 617 = .ok (.iconst 1, 1) := by decide +kernel
theorem dL_law_618 : decode cL_law 618 = .ok (.iadd, 1) := by decide +kernel
theorem dL_law_619 : decode cL_law 619 = .ok (.iaload, 1) := by decide +kernel
theorem dL_law_620 : decode cL_law 620 = .ok (.aload_n 0, 1) := by decide +kernel
theorem dL_law_621 : decode cL_law 621 = .ok (.iload 5, 2) := by decide +kernel
theorem dL_law_623 : decode cL_law 623 = .ok (.iconst 2, 1) := by decide +kernel
theorem dL_law_624 : decode cL_law 624 = .ok (.iadd, 1) := by decide +kernel
theorem dL_law_625 : decode cL_law 625 = .ok (.iaload, 1) := by decide +kernel
theorem dL_law_626 : decode cL_law 626 = .ok (.aload_n 3, 1) := by decide +kernel
theorem dL_law_627 : decode cL_law 627 = .ok (.invokestatic 122, 3) := by decide +kernel
theorem dL_law_630 : decode cL_law 630 = .ok (.istore 6, 2) := by decide +kernel
theorem dL_law_632 : decode cL_law 632 = .ok (.aload_n 2, 1) := by decide +kernel
theorem dL_law_633 : decode cL_law 633 = .ok (.aload_n 0, 1) := by decide +kernel
theorem dL_law_634 : decode cL_law 634 = .ok (.iload 5, 2) := by decide +kernel
theorem dL_law_636 : decode cL_law 636 = .ok (.iconst 1, 1) := by decide +kernel
theorem dL_law_637 : decode cL_law 637 = .ok (.iadd, 1) := by decide +kernel
theorem dL_law_638 : decode cL_law 638 = .ok (.iaload, 1) := by decide +kernel
theorem dL_law_639 : decode cL_law 639 = .ok (.aload_n 0, 1) := by decide +kernel
theorem dL_law_640 : decode cL_law 640 = .ok (.iload 5, 2) := by decide +kernel
theorem dL_law_642 : decode cL_law 642 = .ok (.iconst 2, 1) := by decide +kernel
theorem dL_law_643 : decode cL_law 643 = .ok (.iadd, 1) := by decide +kernel
theorem dL_law_644 : decode cL_law 644 = .ok (.iaload, 1) := by decide +kernel
theorem dL_law_645 : decode cL_law 645 = .ok (.invokevirtual 124, 3) := by decide +kernel
theorem dL_law_648 : decode cL_law 648 = .ok (.istore 7, 2) := by decide +kernel
theorem dL_law_650 : decode cL_law 650 = .ok (.aload_n 2, 1) := by decide +kernel
theorem dL_law_651 : decode cL_law 651 = .ok (.invokevirtual 93, 3) := by decide +kernel
theorem dL_law_654 : decode cL_law 654 = .ok (.iload 6, 2) := by decide +kernel
theorem dL_law_656 : decode cL_law 656 = .ok (.if_icmp .eq 5, 3) := by decide +kernel
theorem dL_law_659 : decode cL_law 659 = .ok (.iconst 0, 1) := by decide +kernel
theorem dL_law_660 : decode cL_law 660 = .ok (.ireturn, 1) := by decide +kernel
theorem dL_law_661 : decode cL_law 661 = .ok (.iload 6, 2) := by decide +kernel
theorem dL_law_663 : decode cL_law 663 = .ok (.ifCond .ne 15, 3) := by decide +kernel
theorem dL_law_666 : decode cL_law 666 = .ok (.aload_n 3, 1) := by decide +kernel
theorem dL_law_667 : decode cL_law 667 = .ok (.iconst 0, 1) := by decide +kernel
theorem dL_law_668 : decode cL_law 668 = .ok (.laload, 1) := by decide +kernel
theorem dL_law_669 : decode cL_law 669 = .ok (.iload 7, 2) := by decide +kernel
theorem dL_law_671 : decode cL_law 671 = .ok (.i2l, 1) := by decide +kernel
theorem dL_law_672 : decode cL_law 672 = .ok (.lcmp, 1) := by decide +kernel
theorem dL_law_673 : decode cL_law 673 = .ok (.ifCond .eq 5, 3) := by decide +kernel
theorem dL_law_676 : decode cL_law 676 = .ok (.iconst 0, 1) := by decide +kernel
theorem dL_law_677 : decode cL_law 677 = .ok (.ireturn, 1) := by decide +kernel
theorem dL_law_678 : decode cL_law 678 = .ok (.goto 713, 3) := by decide +kernel
theorem dL_law_681 : decode cL_law 681 = .ok (.aload_n 1, 1) := by decide +kernel
theorem dL_law_682 : decode cL_law 682 = .ok (.aload_n 0, 1) := by decide +kernel
theorem dL_law_683 : decode cL_law 683 = .ok (.iload 5, 2) := by decide +kernel
theorem dL_law_685 : decode cL_law 685 = .ok (.iconst 1, 1) := by decide +kernel
theorem dL_law_686 : decode cL_law 686 = .ok (.iadd, 1) := by decide +kernel
theorem dL_law_687 : decode cL_law 687 = .ok (.iaload, 1) := by decide +kernel
theorem dL_law_688 : decode cL_law 688 = .ok (.aload_n 0, 1) := by decide +kernel
theorem dL_law_689 : decode cL_law 689 = .ok (.iload 5, 2) := by decide +kernel
theorem dL_law_691 : decode cL_law 691 = .ok (.iconst 2, 1) := by decide +kernel
theorem dL_law_692 : decode cL_law 692 = .ok (.iadd, 1) := by decide +kernel
theorem dL_law_693 : decode cL_law 693 = .ok (.iaload, 1) := by decide +kernel
theorem dL_law_694 : decode cL_law 694 = .ok (.aload_n 0, 1) := by decide +kernel
theorem dL_law_695 : decode cL_law 695 = .ok (.iload 5, 2) := by decide +kernel
theorem dL_law_697 : decode cL_law 697 = .ok (.iconst 3, 1) := by decide +kernel
theorem dL_law_698 : decode cL_law 698 = .ok (.iadd, 1) := by decide +kernel
theorem dL_law_699 : decode cL_law 699 = .ok (.iaload, 1) := by decide +kernel
theorem dL_law_700 : decode cL_law 700 = .ok (.i2l, 1) := by decide +kernel
theorem dL_law_701 : decode cL_law 701 = .ok (.bipush 32, 2) := by decide +kernel
theorem dL_law_703 : decode cL_law 703 = .ok (.lshl, 1) := by decide +kernel
theorem dL_law_704 : decode cL_law 704 = .ok (.aload_n 0, 1) := by decide +kernel
theorem dL_law_705 : decode cL_law 705 = .ok (.iload 5, 2) := by decide +kernel
theorem dL_law_707 : decode cL_law 707 = .ok (.iconst 4, 1) := by decide +kernel
theorem dL_law_708 : decode cL_law 708 = .ok (.iadd, 1) := by decide +kernel
theorem dL_law_709 : decode cL_law 709 = .ok (.iaload, 1) := by decide +kernel
theorem dL_law_710 : decode cL_law 710 = .ok (.i2l, 1) := by decide +kernel
theorem dL_law_711 : decode cL_law 711 = .ok (.ldc2_w 125, 3) := by decide +kernel
theorem dL_law_714 : decode cL_law 714 = .ok (.land, 1) := by decide +kernel
theorem dL_law_715 : decode cL_law 715 = .ok (.lor, 1) := by decide +kernel
theorem dL_law_716 : decode cL_law 716 = .ok (.aload_n 3, 1) := by decide +kernel
theorem dL_law_717 : decode cL_law 717 = .ok (.invokestatic 127, 3) := by decide +kernel
theorem dL_law_720 : decode cL_law 720 = .ok (.istore 6, 2) := by decide +kernel
theorem dL_law_722 : decode cL_law 722 = .ok (.aload_n 2, 1) := by decide +kernel
theorem dL_law_723 : decode cL_law 723 = .ok (.aload_n 0, 1) := by decide +kernel
theorem dL_law_724 : decode cL_law 724 = .ok (.iload 5, 2) := by decide +kernel
theorem dL_law_726 : decode cL_law 726 = .ok (.iconst 1, 1) := by decide +kernel
theorem dL_law_727 : decode cL_law 727 = .ok (.iadd, 1) := by decide +kernel
theorem dL_law_728 : decode cL_law 728 = .ok (.iaload, 1) := by decide +kernel
theorem dL_law_729 : decode cL_law 729 = .ok (.aload_n 0, 1) := by decide +kernel
theorem dL_law_730 : decode cL_law 730 = .ok (.iload 5, 2) := by decide +kernel
theorem dL_law_732 : decode cL_law 732 = .ok (.iconst 2, 1) := by decide +kernel
theorem dL_law_733 : decode cL_law 733 = .ok (.iadd, 1) := by decide +kernel
theorem dL_law_734 : decode cL_law 734 = .ok (.iaload, 1) := by decide +kernel
theorem dL_law_735 : decode cL_law 735 = .ok (.aload_n 0, 1) := by decide +kernel
theorem dL_law_736 : decode cL_law 736 = .ok (.iload 5, 2) := by decide +kernel
theorem dL_law_738 : decode cL_law 738 = .ok (.iconst 3, 1) := by decide +kernel
theorem dL_law_739 : decode cL_law 739 = .ok (.iadd, 1) := by decide +kernel
theorem dL_law_740 : decode cL_law 740 = .ok (.iaload, 1) := by decide +kernel
theorem dL_law_741 : decode cL_law 741 = .ok (.i2l, 1) := by decide +kernel
theorem dL_law_742 : decode cL_law 742 = .ok (.bipush 32, 2) := by decide +kernel
theorem dL_law_744 : decode cL_law 744 = .ok (.lshl, 1) := by decide +kernel
theorem dL_law_745 : decode cL_law 745 = .ok (.aload_n 0, 1) := by decide +kernel
theorem dL_law_746 : decode cL_law 746 = .ok (.iload 5, 2) := by decide +kernel
theorem dL_law_748 : decode cL_law 748 = .ok (.iconst 4, 1) := by decide +kernel
theorem dL_law_749 : decode cL_law 749 = .ok (.iadd, 1) := by decide +kernel
theorem dL_law_750 : decode cL_law 750 = .ok (.iaload, 1) := by decide +kernel
theorem dL_law_751 : decode cL_law 751 = .ok (.i2l, 1) := by decide +kernel
theorem dL_law_752 : decode cL_law 752 = .ok (.ldc2_w 125, 3) := by decide +kernel
theorem dL_law_755 : decode cL_law 755 = .ok (.land, 1) := by decide +kernel
theorem dL_law_756 : decode cL_law 756 = .ok (.lor, 1) := by decide +kernel
theorem dL_law_757 : decode cL_law 757 = .ok (.invokevirtual 130, 3) := by decide +kernel
theorem dL_law_760 : decode cL_law 760 = .ok (.istore 7, 2) := by decide +kernel
theorem dL_law_762 : decode cL_law 762 = .ok (.aload_n 2, 1) := by decide +kernel
theorem dL_law_763 : decode cL_law 763 = .ok (.invokevirtual 93, 3) := by decide +kernel
theorem dL_law_766 : decode cL_law 766 = .ok (.iload 6, 2) := by decide +kernel
theorem dL_law_768 : decode cL_law 768 = .ok (.if_icmp .eq 5, 3) := by decide +kernel
theorem dL_law_771 : decode cL_law 771 = .ok (.iconst 0, 1) := by decide +kernel
theorem dL_law_772 : decode cL_law 772 = .ok (.ireturn, 1) := by decide +kernel
theorem dL_law_773 : decode cL_law 773 = .ok (.iload 6, 2) := by decide +kernel
theorem dL_law_775 : decode cL_law 775 = .ok (.ifCond .ne 15, 3) := by decide +kernel
theorem dL_law_778 : decode cL_law 778 = .ok (.aload_n 3, 1) := by decide +kernel
theorem dL_law_779 : decode cL_law 779 = .ok (.iconst 0, 1) := by decide +kernel
theorem dL_law_780 : decode cL_law 780 = .ok (.laload, 1) := by decide +kernel
theorem dL_law_781 : decode cL_law 781 = .ok (.iload 7, 2) := by decide +kernel
theorem dL_law_783 : decode cL_law 783 = .ok (.i2l, 1) := by decide +kernel
theorem dL_law_784 : decode cL_law 784 = .ok (.lcmp, 1) := by decide +kernel
theorem dL_law_785 : decode cL_law 785 = .ok (.ifCond .eq 5, 3) := by decide +kernel
theorem dL_law_788 : decode cL_law 788 = .ok (.iconst 0, 1) := by decide +kernel
theorem dL_law_789 : decode cL_law 789 = .ok (.ireturn, 1) := by decide +kernel
theorem dL_law_790 : decode cL_law 790 = .ok (.goto 601, 3) := by decide +kernel
theorem dL_law_793 : decode cL_law 793 = .ok (.aload_n 1, 1) := by decide +kernel
theorem dL_law_794 : decode cL_law 794 = .ok (.aload_n 0, 1) := by decide +kernel
theorem dL_law_795 : decode cL_law 795 = .ok (.iload 5, 2) := by decide +kernel
theorem dL_law_797 : decode cL_law 797 = .ok (.iconst 1, 1) := by decide +kernel
theorem dL_law_798 : decode cL_law 798 = .ok (.iadd, 1) := by decide +kernel
theorem dL_law_799 : decode cL_law 799 = .ok (.iaload, 1) := by decide +kernel
theorem dL_law_800 : decode cL_law 800 = .ok (.aload_n 3, 1) := by decide +kernel
theorem dL_law_801 : decode cL_law 801 = .ok (.invokestatic 131, 3) := by decide +kernel
theorem dL_law_804 : decode cL_law 804 = .ok (.istore 6, 2) := by decide +kernel
theorem dL_law_806 : decode cL_law 806 = .ok (.aload_n 2, 1) := by decide +kernel
theorem dL_law_807 : decode cL_law 807 = .ok (.aload_n 0, 1) := by decide +kernel
theorem dL_law_808 : decode cL_law 808 = .ok (.iload 5, 2) := by decide +kernel
theorem dL_law_810 : decode cL_law 810 = .ok (.iconst 1, 1) := by decide +kernel
theorem dL_law_811 : decode cL_law 811 = .ok (.iadd, 1) := by decide +kernel
theorem dL_law_812 : decode cL_law 812 = .ok (.iaload, 1) := by decide +kernel
theorem dL_law_813 : decode cL_law 813 = .ok (.invokevirtual 134, 3) := by decide +kernel
theorem dL_law_816 : decode cL_law 816 = .ok (.istore 7, 2) := by decide +kernel
theorem dL_law_818 : decode cL_law 818 = .ok (.aload_n 2, 1) := by decide +kernel
theorem dL_law_819 : decode cL_law 819 = .ok (.invokevirtual 93, 3) := by decide +kernel
theorem dL_law_822 : decode cL_law 822 = .ok (.iload 6, 2) := by decide +kernel
theorem dL_law_824 : decode cL_law 824 = .ok (.if_icmp .eq 5, 3) := by decide +kernel
theorem dL_law_827 : decode cL_law 827 = .ok (.iconst 0, 1) := by decide +kernel
theorem dL_law_828 : decode cL_law 828 = .ok (.ireturn, 1) := by decide +kernel
theorem dL_law_829 : decode cL_law 829 = .ok (.iload 6, 2) := by decide +kernel
theorem dL_law_831 : decode cL_law 831 = .ok (.ifCond .ne 15, 3) := by decide +kernel
theorem dL_law_834 : decode cL_law 834 = .ok (.aload_n 3, 1) := by decide +kernel
theorem dL_law_835 : decode cL_law 835 = .ok (.iconst 0, 1) := by decide +kernel
theorem dL_law_836 : decode cL_law 836 = .ok (.laload, 1) := by decide +kernel
theorem dL_law_837 : decode cL_law 837 = .ok (.iload 7, 2) := by decide +kernel
theorem dL_law_839 : decode cL_law 839 = .ok (.i2l, 1) := by decide +kernel
theorem dL_law_840 : decode cL_law 840 = .ok (.lcmp, 1) := by decide +kernel
theorem dL_law_841 : decode cL_law 841 = .ok (.ifCond .eq 5, 3) := by decide +kernel
theorem dL_law_844 : decode cL_law 844 = .ok (.iconst 0, 1) := by decide +kernel
theorem dL_law_845 : decode cL_law 845 = .ok (.ireturn, 1) := by decide +kernel
theorem dL_law_846 : decode cL_law 846 = .ok (.goto 545, 3) := by decide +kernel
theorem dL_law_849 : decode cL_law 849 = .ok (.aload_n 1, 1) := by decide +kernel
theorem dL_law_850 : decode cL_law 850 = .ok (.aload_n 0, 1) := by decide +kernel
theorem dL_law_851 : decode cL_law 851 = .ok (.iload 5, 2) := by decide +kernel
theorem dL_law_853 : decode cL_law 853 = .ok (.iconst 1, 1) := by decide +kernel
theorem dL_law_854 : decode cL_law 854 = .ok (.iadd, 1) := by decide +kernel
theorem dL_law_855 : decode cL_law 855 = .ok (.iaload, 1) := by decide +kernel
theorem dL_law_856 : decode cL_law 856 = .ok (.aload_n 3, 1) := by decide +kernel
theorem dL_law_857 : decode cL_law 857 = .ok (.invokestatic 135, 3) := by decide +kernel
theorem dL_law_860 : decode cL_law 860 = .ok (.istore 6, 2) := by decide +kernel
theorem dL_law_862 : decode cL_law 862 = .ok (.aload_n 2, 1) := by decide +kernel
theorem dL_law_863 : decode cL_law 863 = .ok (.aload_n 0, 1) := by decide +kernel
theorem dL_law_864 : decode cL_law 864 = .ok (.iload 5, 2) := by decide +kernel
theorem dL_law_866 : decode cL_law 866 = .ok (.iconst 1, 1) := by decide +kernel
theorem dL_law_867 : decode cL_law 867 = .ok (.iadd, 1) := by decide +kernel
theorem dL_law_868 : decode cL_law 868 = .ok (.iaload, 1) := by decide +kernel
theorem dL_law_869 : decode cL_law 869 = .ok (.invokevirtual 137, 3) := by decide +kernel
theorem dL_law_872 : decode cL_law 872 = .ok (.istore 7, 2) := by decide +kernel
theorem dL_law_874 : decode cL_law 874 = .ok (.aload_n 2, 1) := by decide +kernel
theorem dL_law_875 : decode cL_law 875 = .ok (.invokevirtual 93, 3) := by decide +kernel
theorem dL_law_878 : decode cL_law 878 = .ok (.iload 6, 2) := by decide +kernel
theorem dL_law_880 : decode cL_law 880 = .ok (.if_icmp .eq 5, 3) := by decide +kernel
theorem dL_law_883 : decode cL_law 883 = .ok (.iconst 0, 1) := by decide +kernel
theorem dL_law_884 : decode cL_law 884 = .ok (.ireturn, 1) := by decide +kernel
theorem dL_law_885 : decode cL_law 885 = .ok (.iload 6, 2) := by decide +kernel
theorem dL_law_887 : decode cL_law 887 = .ok (.ifCond .ne 15, 3) := by decide +kernel
theorem dL_law_890 : decode cL_law 890 = .ok (.aload_n 3, 1) := by decide +kernel
theorem dL_law_891 : decode cL_law 891 = .ok (.iconst 0, 1) := by decide +kernel
theorem dL_law_892 : decode cL_law 892 = .ok (.laload, 1) := by decide +kernel
theorem dL_law_893 : decode cL_law 893 = .ok (.iload 7, 2) := by decide +kernel
theorem dL_law_895 : decode cL_law 895 = .ok (.i2l, 1) := by decide +kernel
theorem dL_law_896 : decode cL_law 896 = .ok (.lcmp, 1) := by decide +kernel
theorem dL_law_897 : decode cL_law 897 = .ok (.ifCond .eq 5, 3) := by decide +kernel
theorem dL_law_900 : decode cL_law 900 = .ok (.iconst 0, 1) := by decide +kernel
theorem dL_law_901 : decode cL_law 901 = .ok (.ireturn, 1) := by decide +kernel
theorem dL_law_902 : decode cL_law 902 = .ok (.goto 489, 3) := by decide +kernel
theorem dL_law_905 : decode cL_law 905 = .ok (.aload_n 1, 1) := by decide +kernel
theorem dL_law_906 : decode cL_law 906 = .ok (.aload_n 3, 1) := by decide +kernel
theorem dL_law_907 : decode cL_law 907 = .ok (.invokestatic 138, 3) := by decide +kernel
theorem dL_law_910 : decode cL_law 910 = .ok (.istore 6, 2) := by decide +kernel
theorem dL_law_912 : decode cL_law 912 = .ok (.aload_n 2, 1) := by decide +kernel
theorem dL_law_913 : decode cL_law 913 = .ok (.invokevirtual 140, 3) := by decide +kernel
theorem dL_law_916 : decode cL_law 916 = .ok (.istore 7, 2) := by decide +kernel
theorem dL_law_918 : decode cL_law 918 = .ok (.aload_n 2, 1) := by decide +kernel
theorem dL_law_919 : decode cL_law 919 = .ok (.invokevirtual 93, 3) := by decide +kernel
theorem dL_law_922 : decode cL_law 922 = .ok (.iload 6, 2) := by decide +kernel
theorem dL_law_924 : decode cL_law 924 = .ok (.if_icmp .eq 5, 3) := by decide +kernel
theorem dL_law_927 : decode cL_law 927 = .ok (.iconst 0, 1) := by decide +kernel
theorem dL_law_928 : decode cL_law 928 = .ok (.ireturn, 1) := by decide +kernel
theorem dL_law_929 : decode cL_law 929 = .ok (.iload 6, 2) := by decide +kernel
theorem dL_law_931 : decode cL_law 931 = .ok (.ifCond .ne 15, 3) := by decide +kernel
theorem dL_law_934 : decode cL_law 934 = .ok (.aload_n 3, 1) := by decide +kernel
theorem dL_law_935 : decode cL_law 935 = .ok (.iconst 0, 1) := by decide +kernel
theorem dL_law_936 : decode cL_law 936 = .ok (.laload, 1) := by decide +kernel
theorem dL_law_937 : decode cL_law 937 = .ok (.iload 7, 2) := by decide +kernel
theorem dL_law_939 : decode cL_law 939 = .ok (.i2l, 1) := by decide +kernel
theorem dL_law_940 : decode cL_law 940 = .ok (.lcmp, 1) := by decide +kernel
theorem dL_law_941 : decode cL_law 941 = .ok (.ifCond .eq 5, 3) := by decide +kernel
theorem dL_law_944 : decode cL_law 944 = .ok (.iconst 0, 1) := by decide +kernel
theorem dL_law_945 : decode cL_law 945 = .ok (.ireturn, 1) := by decide +kernel
theorem dL_law_946 : decode cL_law 946 = .ok (.goto 445, 3) := by decide +kernel
theorem dL_law_949 : decode cL_law 949 = .ok (.aload_n 1, 1) := by decide +kernel
theorem dL_law_950 : decode cL_law 950 = .ok (.aload_n 0, 1) := by decide +kernel
theorem dL_law_951 : decode cL_law 951 = .ok (.iload 5, 2) := by decide +kernel
theorem dL_law_953 : decode cL_law 953 = .ok (.iconst 1, 1) := by decide +kernel
theorem dL_law_954 : decode cL_law 954 = .ok (.iadd, 1) := by decide +kernel
theorem dL_law_955 : decode cL_law 955 = .ok (.iaload, 1) := by decide +kernel
theorem dL_law_956 : decode cL_law 956 = .ok (.aload_n 3, 1) := by decide +kernel
theorem dL_law_957 : decode cL_law 957 = .ok (.invokestatic 141, 3) := by decide +kernel
theorem dL_law_960 : decode cL_law 960 = .ok (.istore 6, 2) := by decide +kernel
theorem dL_law_962 : decode cL_law 962 = .ok (.aload_n 2, 1) := by decide +kernel
theorem dL_law_963 : decode cL_law 963 = .ok (.aload_n 0, 1) := by decide +kernel
theorem dL_law_964 : decode cL_law 964 = .ok (.iload 5, 2) := by decide +kernel
theorem dL_law_966 : decode cL_law 966 = .ok (.iconst 1, 1) := by decide +kernel
theorem dL_law_967 : decode cL_law 967 = .ok (.iadd, 1) := by decide +kernel
theorem dL_law_968 : decode cL_law 968 = .ok (.iaload, 1) := by decide +kernel
theorem dL_law_969 : decode cL_law 969 = .ok (.invokevirtual 143, 3) := by decide +kernel
theorem dL_law_972 : decode cL_law 972 = .ok (.istore 7, 2) := by decide +kernel
theorem dL_law_974 : decode cL_law 974 = .ok (.aload_n 2, 1) := by decide +kernel
theorem dL_law_975 : decode cL_law 975 = .ok (.invokevirtual 93, 3) := by decide +kernel
theorem dL_law_978 : decode cL_law 978 = .ok (.iload 6, 2) := by decide +kernel
theorem dL_law_980 : decode cL_law 980 = .ok (.if_icmp .eq 5, 3) := by decide +kernel
theorem dL_law_983 : decode cL_law 983 = .ok (.iconst 0, 1) := by decide +kernel
theorem dL_law_984 : decode cL_law 984 = .ok (.ireturn, 1) := by decide +kernel
theorem dL_law_985 : decode cL_law 985 = .ok (.iload 6, 2) := by decide +kernel
theorem dL_law_987 : decode cL_law 987 = .ok (.ifCond .ne 15, 3) := by decide +kernel
theorem dL_law_990 : decode cL_law 990 = .ok (.aload_n 3, 1) := by decide +kernel
theorem dL_law_991 : decode cL_law 991 = .ok (.iconst 0, 1) := by decide +kernel
theorem dL_law_992 : decode cL_law 992 = .ok (.laload, 1) := by decide +kernel
theorem dL_law_993 : decode cL_law 993 = .ok (.iload 7, 2) := by decide +kernel
theorem dL_law_995 : decode cL_law 995 = .ok (.i2l, 1) := by decide +kernel
theorem dL_law_996 : decode cL_law 996 = .ok (.lcmp, 1) := by decide +kernel
theorem dL_law_997 : decode cL_law 997 = .ok (.ifCond .eq 5, 3) := by decide +kernel
theorem dL_law_1000 : decode cL_law 1000 = .ok (.iconst 0, 1) := by decide +kernel
theorem dL_law_1001 : decode cL_law 1001 = .ok (.ireturn, 1) := by decide +kernel
theorem dL_law_1002 : decode cL_law 1002 = .ok (.goto 389, 3) := by decide +kernel
theorem dL_law_1005 : decode cL_law 1005 = .ok (.aload_n 1, 1) := by decide +kernel
theorem dL_law_1006 : decode cL_law 1006 = .ok (.aload_n 3, 1) := by decide +kernel
theorem dL_law_1007 : decode cL_law 1007 = .ok (.invokestatic 144, 3) := by decide +kernel
theorem dL_law_1010 : decode cL_law 1010 = .ok (.istore 6, 2) := by decide +kernel
theorem dL_law_1012 : decode cL_law 1012 = .ok (.aload_n 2, 1) := by decide +kernel
theorem dL_law_1013 : decode cL_law 1013 = .ok (.invokevirtual 146, 3) := by decide +kernel
theorem dL_law_1016 : decode cL_law 1016 = .ok (.istore 7, 2) := by decide +kernel
theorem dL_law_1018 : decode cL_law 1018 = .ok (.aload_n 2, 1) := by decide +kernel
theorem dL_law_1019 : decode cL_law 1019 = .ok (.invokevirtual 93, 3) := by decide +kernel
theorem dL_law_1022 : decode cL_law 1022 = .ok (.iload 6, 2) := by decide +kernel
theorem dL_law_1024 : decode cL_law 1024 = .ok (.if_icmp .eq 5, 3) := by decide +kernel
theorem dL_law_1027 : decode cL_law 1027 = .ok (.iconst 0, 1) := by decide +kernel
theorem dL_law_1028 : decode cL_law 1028 = .ok (.ireturn, 1) := by decide +kernel
theorem dL_law_1029 : decode cL_law 1029 = .ok (.iload 6, 2) := by decide +kernel
theorem dL_law_1031 : decode cL_law 1031 = .ok (.ifCond .ne 15, 3) := by decide +kernel
theorem dL_law_1034 : decode cL_law 1034 = .ok (.aload_n 3, 1) := by decide +kernel
theorem dL_law_1035 : decode cL_law 1035 = .ok (.iconst 0, 1) := by decide +kernel
theorem dL_law_1036 : decode cL_law 1036 = .ok (.laload, 1) := by decide +kernel
theorem dL_law_1037 : decode cL_law 1037 = .ok (.iload 7, 2) := by decide +kernel
theorem dL_law_1039 : decode cL_law 1039 = .ok (.i2l, 1) := by decide +kernel
theorem dL_law_1040 : decode cL_law 1040 = .ok (.lcmp, 1) := by decide +kernel
theorem dL_law_1041 : decode cL_law 1041 = .ok (.ifCond .eq 5, 3) := by decide +kernel
theorem dL_law_1044 : decode cL_law 1044 = .ok (.iconst 0, 1) := by decide +kernel
theorem dL_law_1045 : decode cL_law 1045 = .ok (.ireturn, 1) := by decide +kernel
theorem dL_law_1046 : decode cL_law 1046 = .ok (.goto 345, 3) := by decide +kernel
theorem dL_law_1049 : decode cL_law 1049 = .ok (.aload_n 1, 1) := by decide +kernel
theorem dL_law_1050 : decode cL_law 1050 = .ok (.aload_n 3, 1) := by decide +kernel
theorem dL_law_1051 : decode cL_law 1051 = .ok (.invokestatic 147, 3) := by decide +kernel
theorem dL_law_1054 : decode cL_law 1054 = .ok (.istore 6, 2) := by decide +kernel
theorem dL_law_1056 : decode cL_law 1056 = .ok (.aload_n 2, 1) := by decide +kernel
theorem dL_law_1057 : decode cL_law 1057 = .ok (.invokevirtual 149, 3) := by decide +kernel
theorem dL_law_1060 : decode cL_law 1060 = .ok (.istore 7, 2) := by decide +kernel
theorem dL_law_1062 : decode cL_law 1062 = .ok (.aload_n 2, 1) := by decide +kernel
theorem dL_law_1063 : decode cL_law 1063 = .ok (.invokevirtual 93, 3) := by decide +kernel
theorem dL_law_1066 : decode cL_law 1066 = .ok (.iload 6, 2) := by decide +kernel
theorem dL_law_1068 : decode cL_law 1068 = .ok (.if_icmp .eq 5, 3) := by decide +kernel
theorem dL_law_1071 : decode cL_law 1071 = .ok (.iconst 0, 1) := by decide +kernel
theorem dL_law_1072 : decode cL_law 1072 = .ok (.ireturn, 1) := by decide +kernel
theorem dL_law_1073 : decode cL_law 1073 = .ok (.iload 6, 2) := by decide +kernel
theorem dL_law_1075 : decode cL_law 1075 = .ok (.ifCond .ne 15, 3) := by decide +kernel
theorem dL_law_1078 : decode cL_law 1078 = .ok (.aload_n 3, 1) := by decide +kernel
theorem dL_law_1079 : decode cL_law 1079 = .ok (.iconst 0, 1) := by decide +kernel
theorem dL_law_1080 : decode cL_law 1080 = .ok (.laload, 1) := by decide +kernel
theorem dL_law_1081 : decode cL_law 1081 = .ok (.iload 7, 2) := by decide +kernel
theorem dL_law_1083 : decode cL_law 1083 = .ok (.i2l, 1) := by decide +kernel
theorem dL_law_1084 : decode cL_law 1084 = .ok (.lcmp, 1) := by decide +kernel
theorem dL_law_1085 : decode cL_law 1085 = .ok (.ifCond .eq 5, 3) := by decide +kernel
theorem dL_law_1088 : decode cL_law 1088 = .ok (.iconst 0, 1) := by decide +kernel
theorem dL_law_1089 : decode cL_law 1089 = .ok (.ireturn, 1) := by decide +kernel
theorem dL_law_1090 : decode cL_law 1090 = .ok (.goto 301, 3) := by decide +kernel
theorem dL_law_1093 : decode cL_law 1093 = .ok (.aload_n 1, 1) := by decide +kernel
theorem dL_law_1094 : decode cL_law 1094 = .ok (.aload 4, 2) := by decide +kernel
theorem dL_law_1096 : decode cL_law 1096 = .ok (.invokestatic 150, 3) := by decide +kernel
theorem dL_law_1099 : decode cL_law 1099 = .ok (.istore 6, 2) := by decide +kernel
theorem dL_law_1101 : decode cL_law 1101 = .ok (.aload_n 2, 1) := by decide +kernel
theorem dL_law_1102 : decode cL_law 1102 = .ok (.invokevirtual 153, 3) := by decide +kernel
theorem dL_law_1105 : decode cL_law 1105 = .ok (.dstore 7, 2) := by decide +kernel
theorem dL_law_1107 : decode cL_law 1107 = .ok (.aload_n 2, 1) := by decide +kernel
theorem dL_law_1108 : decode cL_law 1108 = .ok (.invokevirtual 93, 3) := by decide +kernel
theorem dL_law_1111 : decode cL_law 1111 = .ok (.iload 6, 2) := by decide +kernel
theorem dL_law_1113 : decode cL_law 1113 = .ok (.if_icmp .eq 5, 3) := by decide +kernel
theorem dL_law_1116 : decode cL_law 1116 = .ok (.iconst 0, 1) := by decide +kernel
theorem dL_law_1117 : decode cL_law 1117 = .ok (.ireturn, 1) := by decide +kernel
theorem dL_law_1118 : decode cL_law 1118 = .ok (.iload 6, 2) := by decide +kernel
theorem dL_law_1120 : decode cL_law 1120 = .ok (.ifCond .ne 35, 3) := by decide +kernel
theorem dL_law_1123 : decode cL_law 1123 = .ok (.aload 4, 2) := by decide +kernel
theorem dL_law_1125 : decode cL_law 1125 = .ok (.iconst 0, 1) := by decide +kernel
theorem dL_law_1126 : decode cL_law 1126 = .ok (.daload, 1) := by decide +kernel
theorem dL_law_1127 : decode cL_law 1127 = .ok (.dload 7, 2) := by decide +kernel
theorem dL_law_1129 : decode cL_law 1129 = .ok (.dcmp .l, 1) := by decide +kernel
theorem dL_law_1130 : decode cL_law 1130 = .ok (.ifCond .eq 25, 3) := by decide +kernel
theorem dL_law_1133 : decode cL_law 1133 = .ok (.aload 4, 2) := by decide +kernel
theorem dL_law_1135 : decode cL_law 1135 = .ok (.iconst 0, 1) := by decide +kernel
theorem dL_law_1136 : decode cL_law 1136 = .ok (.daload, 1) := by decide +kernel
theorem dL_law_1137 : decode cL_law 1137 = .ok (.aload 4, 2) := by decide +kernel
theorem dL_law_1139 : decode cL_law 1139 = .ok (.iconst 0, 1) := by decide +kernel
theorem dL_law_1140 : decode cL_law 1140 = .ok (.daload, 1) := by decide +kernel
theorem dL_law_1141 : decode cL_law 1141 = .ok (.dcmp .l, 1) := by decide +kernel
theorem dL_law_1142 : decode cL_law 1142 = .ok (.ifCond .eq 11, 3) := by decide +kernel
theorem dL_law_1145 : decode cL_law 1145 = .ok (.dload 7, 2) := by decide +kernel
theorem dL_law_1147 : decode cL_law 1147 = .ok (.dload 7, 2) := by decide +kernel
theorem dL_law_1149 : decode cL_law 1149 = .ok (.dcmp .l, 1) := by decide +kernel
theorem dL_law_1150 : decode cL_law 1150 = .ok (.ifCond .ne 5, 3) := by decide +kernel
theorem dL_law_1153 : decode cL_law 1153 = .ok (.iconst 0, 1) := by decide +kernel
theorem dL_law_1154 : decode cL_law 1154 = .ok (.ireturn, 1) := by decide +kernel
theorem dL_law_1155 : decode cL_law 1155 = .ok (.goto 236, 3) := by decide +kernel
theorem dL_law_1158 : decode cL_law 1158 = .ok (.aload_n 1, 1) := by decide +kernel
theorem dL_law_1159 : decode cL_law 1159 = .ok (.aload_n 0, 1) := by decide +kernel
theorem dL_law_1160 : decode cL_law 1160 = .ok (.iload 5, 2) := by decide +kernel
theorem dL_law_1162 : decode cL_law 1162 = .ok (.iconst 1, 1) := by decide +kernel
theorem dL_law_1163 : decode cL_law 1163 = .ok (.iadd, 1) := by decide +kernel
theorem dL_law_1164 : decode cL_law 1164 = .ok (.iaload, 1) := by decide +kernel
theorem dL_law_1165 : decode cL_law 1165 = .ok (.aload_n 3, 1) := by decide +kernel
theorem dL_law_1166 : decode cL_law 1166 = .ok (.invokestatic 154, 3) := by decide +kernel
theorem dL_law_1169 : decode cL_law 1169 = .ok (.istore 6, 2) := by decide +kernel
theorem dL_law_1171 : decode cL_law 1171 = .ok (.aload_n 2, 1) := by decide +kernel
theorem dL_law_1172 : decode cL_law 1172 = .ok (.aload_n 0, 1) := by decide +kernel
theorem dL_law_1173 : decode cL_law 1173 = .ok (.iload 5, 2) := by decide +kernel
theorem dL_law_1175 : decode cL_law 1175 = .ok (.iconst 1, 1) := by decide +kernel
theorem dL_law_1176 : decode cL_law 1176 = .ok (.iadd, 1) := by decide +kernel
theorem dL_law_1177 : decode cL_law 1177 = .ok (.iaload, 1) := by decide +kernel
theorem dL_law_1178 : decode cL_law 1178 = .ok (.invokevirtual 156, 3) := by decide +kernel
theorem dL_law_1181 : decode cL_law 1181 = .ok (.istore 7, 2) := by decide +kernel
theorem dL_law_1183 : decode cL_law 1183 = .ok (.aload_n 2, 1) := by decide +kernel
theorem dL_law_1184 : decode cL_law 1184 = .ok (.invokevirtual 93, 3) := by decide +kernel
theorem dL_law_1187 : decode cL_law 1187 = .ok (.iload 6, 2) := by decide +kernel
theorem dL_law_1189 : decode cL_law 1189 = .ok (.if_icmp .eq 5, 3) := by decide +kernel
theorem dL_law_1192 : decode cL_law 1192 = .ok (.iconst 0, 1) := by decide +kernel
theorem dL_law_1193 : decode cL_law 1193 = .ok (.ireturn, 1) := by decide +kernel
theorem dL_law_1194 : decode cL_law 1194 = .ok (.iload 6, 2) := by decide +kernel
theorem dL_law_1196 : decode cL_law 1196 = .ok (.ifCond .ne 22, 3) := by decide +kernel
theorem dL_law_1199 : decode cL_law 1199 = .ok (.aload_n 3, 1) := by decide +kernel
theorem dL_law_1200 : decode cL_law 1200 = .ok (.iconst 0, 1) := by decide +kernel
theorem dL_law_1201 : decode cL_law 1201 = .ok (.laload, 1) := by decide +kernel
theorem dL_law_1202 : decode cL_law 1202 = .ok (.iload 7, 2) := by decide +kernel
theorem dL_law_1204 : decode cL_law 1204 = .ok (.ifCond .eq 7, 3) := by decide +kernel
theorem dL_law_1207 : decode cL_law 1207 = .ok (.lconst 1, 1) := by decide +kernel
theorem dL_law_1208 : decode cL_law 1208 = .ok (.goto 4, 3) := by decide +kernel
theorem dL_law_1211 : decode cL_law 1211 = .ok (.lconst 0, 1) := by decide +kernel
theorem dL_law_1212 : decode cL_law 1212 = .ok (.lcmp, 1) := by decide +kernel
theorem dL_law_1213 : decode cL_law 1213 = .ok (.ifCond .eq 5, 3) := by decide +kernel
theorem dL_law_1216 : decode cL_law 1216 = .ok (.iconst 0, 1) := by decide +kernel
theorem dL_law_1217 : decode cL_law 1217 = .ok (.ireturn, 1) := by decide +kernel
theorem dL_law_1218 : decode cL_law 1218 = .ok (.goto 173, 3) := by decide +kernel
theorem dL_law_1221 : decode cL_law 1221 = .ok (.aload_n 1, 1) := by decide +kernel
theorem dL_law_1222 : decode cL_law 1222 = .ok (.aload_n 3, 1) := by decide +kernel
theorem dL_law_1223 : decode cL_law 1223 = .ok (.invokestatic 157, 3) := by decide +kernel
theorem dL_law_1226 : decode cL_law 1226 = .ok (.istore 6, 2) := by decide +kernel
theorem dL_law_1228 : decode cL_law 1228 = .ok (.aload_n 2, 1) := by decide +kernel
theorem dL_law_1229 : decode cL_law 1229 = .ok (.invokevirtual 159, 3) := by decide +kernel
theorem dL_law_1232 : decode cL_law 1232 = .ok (.istore 7, 2) := by decide +kernel
theorem dL_law_1234 : decode cL_law 1234 = .ok (.aload_n 2, 1) := by decide +kernel
theorem dL_law_1235 : decode cL_law 1235 = .ok (.invokevirtual 93, 3) := by decide +kernel
theorem dL_law_1238 : decode cL_law 1238 = .ok (.iload 6, 2) := by decide +kernel
theorem dL_law_1240 : decode cL_law 1240 = .ok (.if_icmp .eq 5, 3) := by decide +kernel
theorem dL_law_1243 : decode cL_law 1243 = .ok (.iconst 0, 1) := by decide +kernel
theorem dL_law_1244 : decode cL_law 1244 = .ok (.ireturn, 1) := by decide +kernel
theorem dL_law_1245 : decode cL_law 1245 = .ok (.iload 6, 2) := by decide +kernel
theorem dL_law_1247 : decode cL_law 1247 = .ok (.ifCond .ne 15, 3) := by decide +kernel
theorem dL_law_1250 : decode cL_law 1250 = .ok (.aload_n 3, 1) := by decide +kernel
theorem dL_law_1251 : decode cL_law 1251 = .ok (.iconst 0, 1) := by decide +kernel
theorem dL_law_1252 : decode cL_law 1252 = .ok (.laload, 1) := by decide +kernel
theorem dL_law_1253 : decode cL_law 1253 = .ok (.iload 7, 2) := by decide +kernel
theorem dL_law_1255 : decode cL_law 1255 = .ok (.i2l, 1) := by decide +kernel
theorem dL_law_1256 : decode cL_law 1256 = .ok (.lcmp, 1) := by decide +kernel
theorem dL_law_1257 : decode cL_law 1257 = .ok (.ifCond .eq 5, 3) := by decide +kernel
theorem dL_law_1260 : decode cL_law 1260 = .ok (.iconst 0, 1) := by decide +kernel
theorem dL_law_1261 : decode cL_law 1261 = .ok (.ireturn, 1) := by decide +kernel
theorem dL_law_1262 : decode cL_law 1262 = .ok (.goto 129, 3) := by decide +kernel
theorem dL_law_1265 : decode cL_law 1265 = .ok (.aload_n 1, 1) := by decide +kernel
theorem dL_law_1266 : decode cL_law 1266 = .ok (.aload_n 0, 1) := by decide +kernel
theorem dL_law_1267 : decode cL_law 1267 = .ok (.iload 5, 2) := by decide +kernel
theorem dL_law_1269 : decode cL_law 1269 = .ok (.iconst 1, 1) := by decide +kernel
theorem dL_law_1270 : decode cL_law 1270 = .ok (.iadd, 1) := by decide +kernel
theorem dL_law_1271 : decode cL_law 1271 = .ok (.iaload, 1) := by decide +kernel
theorem dL_law_1272 : decode cL_law 1272 = .ok (.aload_n 3, 1) := by decide +kernel
theorem dL_law_1273 : decode cL_law 1273 = .ok (.invokestatic 160, 3) := by decide +kernel
theorem dL_law_1276 : decode cL_law 1276 = .ok (.istore 6, 2) := by decide +kernel
theorem dL_law_1278 : decode cL_law 1278 = .ok (.aload_n 2, 1) := by decide +kernel
theorem dL_law_1279 : decode cL_law 1279 = .ok (.aload_n 0, 1) := by decide +kernel
theorem dL_law_1280 : decode cL_law 1280 = .ok (.iload 5, 2) := by decide +kernel
theorem dL_law_1282 : decode cL_law 1282 = .ok (.iconst 1, 1) := by decide +kernel
theorem dL_law_1283 : decode cL_law 1283 = .ok (.iadd, 1) := by decide +kernel
theorem dL_law_1284 : decode cL_law 1284 = .ok (.iaload, 1) := by decide +kernel
theorem dL_law_1285 : decode cL_law 1285 = .ok (.invokevirtual 162, 3) := by decide +kernel
theorem dL_law_1288 : decode cL_law 1288 = .ok (.istore 7, 2) := by decide +kernel
theorem dL_law_1290 : decode cL_law 1290 = .ok (.aload_n 2, 1) := by decide +kernel
theorem dL_law_1291 : decode cL_law 1291 = .ok (.invokevirtual 93, 3) := by decide +kernel
theorem dL_law_1294 : decode cL_law 1294 = .ok (.iload 6, 2) := by decide +kernel
theorem dL_law_1296 : decode cL_law 1296 = .ok (.if_icmp .eq 5, 3) := by decide +kernel
theorem dL_law_1299 : decode cL_law 1299 = .ok (.iconst 0, 1) := by decide +kernel
theorem dL_law_1300 : decode cL_law 1300 = .ok (.ireturn, 1) := by decide +kernel
theorem dL_law_1301 : decode cL_law 1301 = .ok (.iload 6, 2) := by decide +kernel
theorem dL_law_1303 : decode cL_law 1303 = .ok (.ifCond .ne 15, 3) := by decide +kernel
theorem dL_law_1306 : decode cL_law 1306 = .ok (.aload_n 3, 1) := by decide +kernel
theorem dL_law_1307 : decode cL_law 1307 = .ok (.iconst 0, 1) := by decide +kernel
theorem dL_law_1308 : decode cL_law 1308 = .ok (.laload, 1) := by decide +kernel
theorem dL_law_1309 : decode cL_law 1309 = .ok (.iload 7, 2) := by decide +kernel
theorem dL_law_1311 : decode cL_law 1311 = .ok (.i2l, 1) := by decide +kernel
theorem dL_law_1312 : decode cL_law 1312 = .ok (.lcmp, 1) := by decide +kernel
theorem dL_law_1313 : decode cL_law 1313 = .ok (.ifCond .eq 5, 3) := by decide +kernel
theorem dL_law_1316 : decode cL_law 1316 = .ok (.iconst 0, 1) := by decide +kernel
theorem dL_law_1317 : decode cL_law 1317 = .ok (.ireturn, 1) := by decide +kernel
theorem dL_law_1318 : decode cL_law 1318 = .ok (.goto 73, 3) := by decide +kernel
theorem dL_law_1321 : decode cL_law 1321 = .ok (.aload_n 1, 1) := by decide +kernel
theorem dL_law_1322 : decode cL_law 1322 = .ok (.aload_n 0, 1) := by decide +kernel
theorem dL_law_1323 : decode cL_law 1323 = .ok (.iload 5, 2) := by decide +kernel
theorem dL_law_1325 : decode cL_law 1325 = .ok (.iconst 1, 1) := by decide +kernel
theorem dL_law_1326 : decode cL_law 1326 = .ok (.iadd, 1) := by decide +kernel
theorem dL_law_1327 : decode cL_law 1327 = .ok (.iaload, 1) := by decide +kernel
theorem dL_law_1328 : decode cL_law 1328 = .ok (.aload_n 3, 1) := by decide +kernel
theorem dL_law_1329 : decode cL_law 1329 = .ok (.invokestatic 163, 3) := by decide +kernel
theorem dL_law_1332 : decode cL_law 1332 = .ok (.istore 6, 2) := by decide +kernel
theorem dL_law_1334 : decode cL_law 1334 = .ok (.aload_n 2, 1) := by decide +kernel
theorem dL_law_1335 : decode cL_law 1335 = .ok (.aload_n 0, 1) := by decide +kernel
theorem dL_law_1336 : decode cL_law 1336 = .ok (.iload 5, 2) := by decide +kernel
theorem dL_law_1338 : decode cL_law 1338 = .ok (.iconst 1, 1) := by decide +kernel
theorem dL_law_1339 : decode cL_law 1339 = .ok (.iadd, 1) := by decide +kernel
theorem dL_law_1340 : decode cL_law 1340 = .ok (.iaload, 1) := by decide +kernel
theorem dL_law_1341 : decode cL_law 1341 = .ok (.invokevirtual 165, 3) := by decide +kernel
theorem dL_law_1344 : decode cL_law 1344 = .ok (.istore 7, 2) := by decide +kernel
theorem dL_law_1346 : decode cL_law 1346 = .ok (.aload_n 2, 1) := by decide +kernel
theorem dL_law_1347 : decode cL_law 1347 = .ok (.invokevirtual 93, 3) := by decide +kernel
theorem dL_law_1350 : decode cL_law 1350 = .ok (.iload 6, 2) := by decide +kernel
theorem dL_law_1352 : decode cL_law 1352 = .ok (.if_icmp .eq 5, 3) := by decide +kernel
theorem dL_law_1355 : decode cL_law 1355 = .ok (.iconst 0, 1) := by decide +kernel
theorem dL_law_1356 : decode cL_law 1356 = .ok (.ireturn, 1) := by decide +kernel
theorem dL_law_1357 : decode cL_law 1357 = .ok (.iload 6, 2) := by decide +kernel
theorem dL_law_1359 : decode cL_law 1359 = .ok (.ifCond .ne 15, 3) := by decide +kernel
theorem dL_law_1362 : decode cL_law 1362 = .ok (.aload_n 3, 1) := by decide +kernel
theorem dL_law_1363 : decode cL_law 1363 = .ok (.iconst 0, 1) := by decide +kernel
theorem dL_law_1364 : decode cL_law 1364 = .ok (.laload, 1) := by decide +kernel
theorem dL_law_1365 : decode cL_law 1365 = .ok (.iload 7, 2) := by decide +kernel
theorem dL_law_1367 : decode cL_law 1367 = .ok (.i2l, 1) := by decide +kernel
theorem dL_law_1368 : decode cL_law 1368 = .ok (.lcmp, 1) := by decide +kernel
theorem dL_law_1369 : decode cL_law 1369 = .ok (.ifCond .eq 5, 3) := by decide +kernel
theorem dL_law_1372 : decode cL_law 1372 = .ok (.iconst 0, 1) := by decide +kernel
theorem dL_law_1373 : decode cL_law 1373 = .ok (.ireturn, 1) := by decide +kernel
theorem dL_law_1374 : decode cL_law 1374 = .ok (.goto 17, 3) := by decide +kernel
theorem dL_law_1377 : decode cL_law 1377 = .ok (.aload_n 1, 1) := by decide +kernel
theorem dL_law_1378 : decode cL_law 1378 = .ok (.invokevirtual 166, 3) := by decide +kernel
theorem dL_law_1381 : decode cL_law 1381 = .ok (.aload_n 2, 1) := by decide +kernel
theorem dL_law_1382 : decode cL_law 1382 = .ok (.invokevirtual 170, 3) := by decide +kernel
theorem dL_law_1385 : decode cL_law 1385 = .ok (.lcmp, 1) := by decide +kernel
theorem dL_law_1386 : decode cL_law 1386 = .ok (.ifCond .eq 5, 3) := by decide +kernel
theorem dL_law_1389 : decode cL_law 1389 = .ok (.iconst 0, 1) := by decide +kernel
theorem dL_law_1390 : decode cL_law 1390 = .ok (.ireturn, 1) := by decide +kernel
theorem dL_law_1391 : decode cL_law 1391 = .ok (.iinc 5 6, 3) := by decide +kernel
theorem dL_law_1394 : decode cL_law 1394 = .ok (.goto (-1366), 3) := by decide +kernel
theorem dL_law_1397 : decode cL_law 1397 = .ok (.iconst 1, 1) := by decide +kernel
theorem dL_law_1398 : decode cL_law 1398 = .ok (.ireturn, 1) := by decide +kernel
end
section
/-! ===== a call whose exceptions are caught here ===== -/
def ax_hd (M : ax_M) (pc : Nat) (E : String) (hpc : Nat) : Prop := ∃ (pre : List ExceptionTableEntry) (x : ExceptionTableEntry) (suf : List ExceptionTableEntry), tableOf M.2.2.2.2.1 = pre ++ x :: suf ∧ (∀ z ∈ pre, covers z pc = false ∨ (z.catchType ≠ 0 ∧ ∃ nm : String, Cond.classLink M.1.cls z.catchType nm ∈ ax_all ∧ (E, nm) ∈ ax_ncs)) ∧ covers x pc = true ∧ x.catchType ≠ 0 ∧ Cond.classLink M.1.cls x.catchType E ∈ ax_all ∧ Cond.castable E E ∈ ax_bad ∧ x.handlerPc = hpc
theorem ax_callVc {G : ax_G} {M : ax_M} {d mc ms : Nat} {Q : ax_P} {pc : Nat} {lv : ax_L} {h : ax_H} {cn sn : Nat} {i : Nat} {M' : ax_M} {b ci : Nat} {fs : List Value} {av rest : List Value} {mc' ms' : Nat} {Q1 : ax_P} (hd : decode M.2.1 pc = .ok (.invokevirtual i, 3)) (hlk : ax_lkV M.1.cls i M' ci) (hb : h b = some (.inr (ci, fs))) (hn : av.length = M'.2.2.2.2.2) (hsl : (lg_sl (.ref b :: av)).length ≤ M'.2.2.1) (hcat : (rest.map fun v => v.category).sum ≤ 8) (h1' : cn + mc' ≤ mc) (h2' : sn + ms' ≤ ms)
    (kc : AW G M' d mc' ms' Q1 0 (lv_args 0 (.ref b :: av)) [] h 0 0) (kx : ∀ (E : String) (h1 : ax_H), Q1 (.inr E) h1 → ∃ hpc, ax_hd M pc E hpc ∧ ∀ q : Nat, AW G M (d + 1) mc ms Q hpc lv [.ref q] h1 (cn + mc') (sn + ms')) (kk : ∀ (v : Option Value) (h1 : ax_H), Q1 (.inl v) h1 → AW G M (d + 1) mc ms Q (pc + 3) lv (v.toList ++ rest) h1 (cn + mc') (sn + ms')) : AW G M (d + 1) mc ms Q pc lv (av.reverse ++ .ref b :: rest) h cn sn := by
  intro p e s m args below meth c R H locs ls E Rm Fx Hp hS hl hc hs
  obtain ⟨⟨o1, o2, o3, o4, o5, o6⟩, l1, l2, l3, l4, l5, T, N, l6⟩ := hlk
  obtain ⟨L, hL, hP, hD⟩ := id Hp
  obtain ⟨q0, hq0⟩ := ax_get0 (kc := G.2.2.1) hL hb
  have hrun := vx_runV (Ts := ax_all) (e := e) (below := below) (meth := meth) (locs := locs) (g := F0 m pc ls (av.reverse ++ .ref b :: rest)) (rest := rest) (As := av) ⟨E.1, E.2.1, E.2.2.2.1, E.2.2.2.2.1, E.2.2.2.2.2.1⟩ (ax_met o1 l1 hsl kc) (cwV M'.2.2.2.2.2 (C := M'.1.cls) (own := M.1.cls) (index := i) E.2.2.2.2.2.1 (ax_goodIn (ax_wsin l2 (fun w hw => by
      rcases List.mem_cons.mp hw with rfl | hw
      · exact l3
      · rcases List.mem_cons.mp hw with rfl | hw
        · exact l4
        · rcases List.mem_cons.mp hw with rfl | hw
          · exact l5
          · rcases List.mem_cons.mp hw with rfl | hw
            · exact o6
            · cases hw))) rfl rfl rfl ⟨rfl, o2, o3, o4⟩ ⟨by have := Rm.2.2.1; show d + 8 + 1 ≤ R.frames; omega, by have := Rm.2.2.2; show 8 + (M'.2.2.1 + 11) + (40 * d + 120) ≤ R.locals; omega⟩)
    ⟨ax_blind G _ h, va_recv Fx.1 hP l6 hq0, fun U hU hW => ⟨rfl, ax_fix_warm hW hU Fx hS, by rw [hU]; exact Hp⟩⟩ rfl hn hl.1 rfl (lv_room hcat) hd ⟨by rw [Rm.1]; exact h1', by rw [Rm.2.1]; exact h2'⟩
  refine ax_call0 hrun hS (fun E9 ce q9 h1 H1 locs1 q1 q2 q3 w1 w2 w3 => ?_) (fun v h1 H1 locs1 q1 q2 q3 => kk v h1 q1 p e s m args below meth c R H1 locs1 ls E Rm Fx q2 q3 hl h1' h2')
  obtain ⟨hpc, ⟨pre, x, suf, e1, e2, e3, e4, e5, e6, rfl⟩, kx⟩ := kx E9 h1 q1
  exact vx_catch E.2.2.2.2.1 pre x suf (E.2.2.2.2.2.2.2.1.trans e1) (fun z hz => (e2 z hz).elim Or.inl (fun ⟨g1, nm, g2, g3⟩ => Or.inr ⟨g1, nm, E.2.2.2.2.2.1 _ g2, Fx.2.2.2.2.2.2.2.2.2.1 _ g3⟩)) e3 e4 (E.2.2.2.2.2.1 _ e5) (va_Nw.use (ax_bad_on _ e6) (Fx.2.2.2.2.2.2.2.2.2.2.1 _ e6)) w1 w2 w3 (kx q9 p e s m args below meth c R H1 locs1 ls E Rm Fx q2 q3 hl h1' h2')
theorem hdL_addConstructor_IOB : ax_hd mL_addConstructor 11 "java/lang/IndexOutOfBoundsException" 19 := ⟨[], ⟨0, 16, 19, 25⟩, [⟨0, 16, 23, 13⟩, ⟨0, 16, 27, 19⟩], rfl, (fun z hz => by cases hz), by decide, by decide, hkIOB, by decide, rfl⟩
theorem hdL_addConstructor_IAE : ax_hd mL_addConstructor 11 "java/lang/IllegalArgumentException" 23 := ⟨[⟨0, 16, 19, 25⟩], ⟨0, 16, 23, 13⟩, [⟨0, 16, 27, 19⟩], rfl, (fun z hz => by
    simp only [List.mem_cons, List.not_mem_nil, or_false] at hz
    rcases hz with rfl
    · exact Or.inr ⟨by decide, _, hkIOB, by decide⟩), by decide, by decide, hkIAE, by decide, rfl⟩
theorem hdL_addConstructor_ISE : ax_hd mL_addConstructor 11 "java/lang/IllegalStateException" 27 := ⟨[⟨0, 16, 19, 25⟩, ⟨0, 16, 23, 13⟩], ⟨0, 16, 27, 19⟩, [], rfl, (fun z hz => by
    simp only [List.mem_cons, List.not_mem_nil, or_false] at hz
    rcases hz with rfl | rfl
    · exact Or.inr ⟨by decide, _, hkIOB, by decide⟩
    · exact Or.inr ⟨by decide, _, hkIAE, by decide⟩), by decide, by decide, hkISE, by decide, rfl⟩
theorem hdL_addType_ISE : ax_hd mL_addType 3 "java/lang/IllegalStateException" 11 := ⟨[], ⟨0, 8, 11, 19⟩, [], rfl, (fun z hz => by cases hz), by decide, by decide, hkISE, by decide, rfl⟩
theorem hdL_code_ISE : ax_hd mL_code 4 "java/lang/IllegalStateException" 12 := ⟨[], ⟨0, 9, 12, 19⟩, [⟨0, 9, 15, 25⟩], rfl, (fun z hz => by cases hz), by decide, by decide, hkISE, by decide, rfl⟩
theorem hdL_code_IOB : ax_hd mL_code 4 "java/lang/IndexOutOfBoundsException" 15 := ⟨[⟨0, 9, 12, 19⟩], ⟨0, 9, 15, 25⟩, [], rfl, (fun z hz => by
    simp only [List.mem_cons, List.not_mem_nil, or_false] at hz
    rcases hz with rfl
    · exact Or.inr ⟨by decide, _, hkISE, by decide⟩), by decide, by decide, hkIOB, by decide, rfl⟩
theorem hdL_count_IOB : ax_hd mL_count 5 "java/lang/IndexOutOfBoundsException" 13 := ⟨[], ⟨0, 10, 13, 25⟩, [⟨0, 10, 17, 13⟩, ⟨0, 10, 21, 19⟩], rfl, (fun z hz => by cases hz), by decide, by decide, hkIOB, by decide, rfl⟩
theorem hdL_count_IAE : ax_hd mL_count 5 "java/lang/IllegalArgumentException" 17 := ⟨[⟨0, 10, 13, 25⟩], ⟨0, 10, 17, 13⟩, [⟨0, 10, 21, 19⟩], rfl, (fun z hz => by
    simp only [List.mem_cons, List.not_mem_nil, or_false] at hz
    rcases hz with rfl
    · exact Or.inr ⟨by decide, _, hkIOB, by decide⟩), by decide, by decide, hkIAE, by decide, rfl⟩
theorem hdL_count_ISE : ax_hd mL_count 5 "java/lang/IllegalStateException" 21 := ⟨[⟨0, 10, 13, 25⟩, ⟨0, 10, 17, 13⟩], ⟨0, 10, 21, 19⟩, [], rfl, (fun z hz => by
    simp only [List.mem_cons, List.not_mem_nil, or_false] at hz
    rcases hz with rfl | rfl
    · exact Or.inr ⟨by decide, _, hkIOB, by decide⟩
    · exact Or.inr ⟨by decide, _, hkIAE, by decide⟩), by decide, by decide, hkISE, by decide, rfl⟩
theorem hdL_draw_IOB : ax_hd mL_draw 7 "java/lang/IndexOutOfBoundsException" 15 := ⟨[], ⟨0, 12, 15, 25⟩, [⟨0, 12, 19, 13⟩, ⟨0, 12, 23, 19⟩, ⟨0, 12, 27, 45⟩], rfl, (fun z hz => by cases hz), by decide, by decide, hkIOB, by decide, rfl⟩
theorem hdL_draw_IAE : ax_hd mL_draw 7 "java/lang/IllegalArgumentException" 19 := ⟨[⟨0, 12, 15, 25⟩], ⟨0, 12, 19, 13⟩, [⟨0, 12, 23, 19⟩, ⟨0, 12, 27, 45⟩], rfl, (fun z hz => by
    simp only [List.mem_cons, List.not_mem_nil, or_false] at hz
    rcases hz with rfl
    · exact Or.inr ⟨by decide, _, hkIOB, by decide⟩), by decide, by decide, hkIAE, by decide, rfl⟩
theorem hdL_draw_ISE : ax_hd mL_draw 7 "java/lang/IllegalStateException" 23 := ⟨[⟨0, 12, 15, 25⟩, ⟨0, 12, 19, 13⟩], ⟨0, 12, 23, 19⟩, [⟨0, 12, 27, 45⟩], rfl, (fun z hz => by
    simp only [List.mem_cons, List.not_mem_nil, or_false] at hz
    rcases hz with rfl | rfl
    · exact Or.inr ⟨by decide, _, hkIOB, by decide⟩
    · exact Or.inr ⟨by decide, _, hkIAE, by decide⟩), by decide, by decide, hkISE, by decide, rfl⟩
theorem hdL_draw_NSE : ax_hd mL_draw 7 "java/util/NoSuchElementException" 27 := ⟨[⟨0, 12, 15, 25⟩, ⟨0, 12, 19, 13⟩, ⟨0, 12, 23, 19⟩], ⟨0, 12, 27, 45⟩, [], rfl, (fun z hz => by
    simp only [List.mem_cons, List.not_mem_nil, or_false] at hz
    rcases hz with rfl | rfl | rfl
    · exact Or.inr ⟨by decide, _, hkIOB, by decide⟩
    · exact Or.inr ⟨by decide, _, hkIAE, by decide⟩
    · exact Or.inr ⟨by decide, _, hkISE, by decide⟩), by decide, by decide, hkNSE, by decide, rfl⟩
theorem hdL_firstAgainst_IOB : ax_hd mL_firstAgainst 7 "java/lang/IndexOutOfBoundsException" 15 := ⟨[], ⟨0, 12, 15, 25⟩, [⟨0, 12, 19, 13⟩, ⟨0, 12, 23, 19⟩], rfl, (fun z hz => by cases hz), by decide, by decide, hkIOB, by decide, rfl⟩
theorem hdL_firstAgainst_IAE : ax_hd mL_firstAgainst 7 "java/lang/IllegalArgumentException" 19 := ⟨[⟨0, 12, 15, 25⟩], ⟨0, 12, 19, 13⟩, [⟨0, 12, 23, 19⟩], rfl, (fun z hz => by
    simp only [List.mem_cons, List.not_mem_nil, or_false] at hz
    rcases hz with rfl
    · exact Or.inr ⟨by decide, _, hkIOB, by decide⟩), by decide, by decide, hkIAE, by decide, rfl⟩
theorem hdL_firstAgainst_ISE : ax_hd mL_firstAgainst 7 "java/lang/IllegalStateException" 23 := ⟨[⟨0, 12, 15, 25⟩, ⟨0, 12, 19, 13⟩], ⟨0, 12, 23, 19⟩, [], rfl, (fun z hz => by
    simp only [List.mem_cons, List.not_mem_nil, or_false] at hz
    rcases hz with rfl | rfl
    · exact Or.inr ⟨by decide, _, hkIOB, by decide⟩
    · exact Or.inr ⟨by decide, _, hkIAE, by decide⟩), by decide, by decide, hkISE, by decide, rfl⟩
theorem hdL_height_ISE : ax_hd mL_height 3 "java/lang/IllegalStateException" 11 := ⟨[], ⟨0, 8, 11, 19⟩, [], rfl, (fun z hz => by cases hz), by decide, by decide, hkISE, by decide, rfl⟩
theorem hdL_holds_ISE : ax_hd mL_holds 4 "java/lang/IllegalStateException" 19 := ⟨[], ⟨0, 16, 19, 19⟩, [⟨0, 16, 22, 13⟩], rfl, (fun z hz => by cases hz), by decide, by decide, hkISE, by decide, rfl⟩
theorem hdL_holds_IAE : ax_hd mL_holds 4 "java/lang/IllegalArgumentException" 22 := ⟨[⟨0, 16, 19, 19⟩], ⟨0, 16, 22, 13⟩, [], rfl, (fun z hz => by
    simp only [List.mem_cons, List.not_mem_nil, or_false] at hz
    rcases hz with rfl
    · exact Or.inr ⟨by decide, _, hkISE, by decide⟩), by decide, by decide, hkIAE, by decide, rfl⟩
theorem hdL_length_ISE : ax_hd mL_length 3 "java/lang/IllegalStateException" 11 := ⟨[], ⟨0, 8, 11, 19⟩, [], rfl, (fun z hz => by cases hz), by decide, by decide, hkISE, by decide, rfl⟩
theorem hdL_mean_ISE : ax_hd mL_mean 3 "java/lang/IllegalStateException" 10 := ⟨[], ⟨0, 7, 10, 19⟩, [], rfl, (fun z hz => by cases hz), by decide, by decide, hkISE, by decide, rfl⟩
theorem hdL_number_ISE : ax_hd mL_number 3 "java/lang/IllegalStateException" 11 := ⟨[], ⟨0, 8, 11, 19⟩, [], rfl, (fun z hz => by cases hz), by decide, by decide, hkISE, by decide, rfl⟩
theorem hdL_read_IOB : ax_hd mL_read 4 "java/lang/IndexOutOfBoundsException" 12 := ⟨[], ⟨0, 9, 12, 25⟩, [⟨0, 9, 15, 19⟩], rfl, (fun z hz => by cases hz), by decide, by decide, hkIOB, by decide, rfl⟩
theorem hdL_read_ISE : ax_hd mL_read 4 "java/lang/IllegalStateException" 15 := ⟨[⟨0, 9, 12, 25⟩], ⟨0, 9, 15, 19⟩, [], rfl, (fun z hz => by
    simp only [List.mem_cons, List.not_mem_nil, or_false] at hz
    rcases hz with rfl
    · exact Or.inr ⟨by decide, _, hkIOB, by decide⟩), by decide, by decide, hkISE, by decide, rfl⟩
theorem hdL_reduce_ISE : ax_hd mL_reduce 4 "java/lang/IllegalStateException" 12 := ⟨[], ⟨0, 9, 12, 19⟩, [⟨0, 9, 15, 13⟩], rfl, (fun z hz => by cases hz), by decide, by decide, hkISE, by decide, rfl⟩
theorem hdL_reduce_IAE : ax_hd mL_reduce 4 "java/lang/IllegalArgumentException" 15 := ⟨[⟨0, 9, 12, 19⟩], ⟨0, 9, 15, 13⟩, [], rfl, (fun z hz => by
    simp only [List.mem_cons, List.not_mem_nil, or_false] at hz
    rcases hz with rfl
    · exact Or.inr ⟨by decide, _, hkISE, by decide⟩), by decide, by decide, hkIAE, by decide, rfl⟩
theorem hdL_reduction_ISE : ax_hd mL_reduction 4 "java/lang/IllegalStateException" 12 := ⟨[], ⟨0, 9, 12, 19⟩, [⟨0, 9, 15, 25⟩], rfl, (fun z hz => by cases hz), by decide, by decide, hkISE, by decide, rfl⟩
theorem hdL_reduction_IOB : ax_hd mL_reduction 4 "java/lang/IndexOutOfBoundsException" 15 := ⟨[⟨0, 9, 12, 19⟩], ⟨0, 9, 15, 25⟩, [], rfl, (fun z hz => by
    simp only [List.mem_cons, List.not_mem_nil, or_false] at hz
    rcases hz with rfl
    · exact Or.inr ⟨by decide, _, hkISE, by decide⟩), by decide, by decide, hkIOB, by decide, rfl⟩
theorem hdL_reductionCount_ISE : ax_hd mL_reductionCount 3 "java/lang/IllegalStateException" 11 := ⟨[], ⟨0, 8, 11, 19⟩, [], rfl, (fun z hz => by cases hz), by decide, by decide, hkISE, by decide, rfl⟩
theorem hdL_select_IOB : ax_hd mL_select 5 "java/lang/IndexOutOfBoundsException" 13 := ⟨[], ⟨0, 10, 13, 25⟩, [⟨0, 10, 17, 19⟩], rfl, (fun z hz => by cases hz), by decide, by decide, hkIOB, by decide, rfl⟩
theorem hdL_select_ISE : ax_hd mL_select 5 "java/lang/IllegalStateException" 17 := ⟨[⟨0, 10, 13, 25⟩], ⟨0, 10, 17, 19⟩, [], rfl, (fun z hz => by
    simp only [List.mem_cons, List.not_mem_nil, or_false] at hz
    rcases hz with rfl
    · exact Or.inr ⟨by decide, _, hkIOB, by decide⟩), by decide, by decide, hkISE, by decide, rfl⟩
theorem hdL_setRange_IAE : ax_hd mL_setRange 5 "java/lang/IllegalArgumentException" 20 := ⟨[], ⟨0, 17, 20, 13⟩, [], rfl, (fun z hz => by cases hz), by decide, by decide, hkIAE, by decide, rfl⟩
theorem hdL_tell_IAE : ax_hd mL_tell 4 "java/lang/IllegalArgumentException" 12 := ⟨[], ⟨0, 9, 12, 13⟩, [⟨0, 9, 15, 19⟩], rfl, (fun z hz => by cases hz), by decide, by decide, hkIAE, by decide, rfl⟩
theorem hdL_tell_ISE : ax_hd mL_tell 4 "java/lang/IllegalStateException" 15 := ⟨[⟨0, 9, 12, 13⟩], ⟨0, 9, 15, 19⟩, [], rfl, (fun z hz => by
    simp only [List.mem_cons, List.not_mem_nil, or_false] at hz
    rcases hz with rfl
    · exact Or.inr ⟨by decide, _, hkIAE, by decide⟩), by decide, by decide, hkISE, by decide, rfl⟩
theorem hdL_total_IOB : ax_hd mL_total 5 "java/lang/IndexOutOfBoundsException" 13 := ⟨[], ⟨0, 10, 13, 25⟩, [⟨0, 10, 17, 13⟩, ⟨0, 10, 21, 19⟩], rfl, (fun z hz => by cases hz), by decide, by decide, hkIOB, by decide, rfl⟩
theorem hdL_total_IAE : ax_hd mL_total 5 "java/lang/IllegalArgumentException" 17 := ⟨[⟨0, 10, 13, 25⟩], ⟨0, 10, 17, 13⟩, [⟨0, 10, 21, 19⟩], rfl, (fun z hz => by
    simp only [List.mem_cons, List.not_mem_nil, or_false] at hz
    rcases hz with rfl
    · exact Or.inr ⟨by decide, _, hkIOB, by decide⟩), by decide, by decide, hkIAE, by decide, rfl⟩
theorem hdL_total_ISE : ax_hd mL_total 5 "java/lang/IllegalStateException" 21 := ⟨[⟨0, 10, 13, 25⟩, ⟨0, 10, 17, 13⟩], ⟨0, 10, 21, 19⟩, [], rfl, (fun z hz => by
    simp only [List.mem_cons, List.not_mem_nil, or_false] at hz
    rcases hz with rfl | rfl
    · exact Or.inr ⟨by decide, _, hkIOB, by decide⟩
    · exact Or.inr ⟨by decide, _, hkIAE, by decide⟩), by decide, by decide, hkISE, by decide, rfl⟩
end
section
/-! ===== a few cells over a heap ===== -/
def ax_w (h : ax_H) (l : List (Nat × ax_E)) : ax_H := fun x => match l.find? (fun q => q.1 == x) with
  | some q => some q.2
  | none => h x
theorem ax_w_nil (h : ax_H) : ax_w h [] = h := rfl
theorem ax_w_cons (h : ax_H) (q : Nat × ax_E) (l : List (Nat × ax_E)) : ax_w h (q :: l) = va_up (ax_w h l) q.1 (some q.2) := by
  funext x
  unfold ax_w va_up
  by_cases hx : x = q.1
  · subst hx; simp
  · have : (q.1 == x) = false := by simpa using fun e => hx e.symm
    simp [List.find?_cons, this, hx]
theorem ax_up_s {h : ax_H} {a : Nat} {o : Option ax_E} : va_up h a o a = o := by simp [va_up]
theorem ax_up_n {h : ax_H} {a b : Nat} {o : Option ax_E} (hn : ¬ b = a) : va_up h a o b = h b := by simp [va_up, hn]
theorem ax_w_get {h : ax_H} {l : List (Nat × ax_E)} {i a : Nat} {o : ax_E} (hn : (l.map (fun q => q.1)).Nodup) (hi : l[i]? = some (a, o)) : ax_w h l a = some o := by
  induction l generalizing i with
  | nil => simp at hi
  | cons q l ih =>
    rw [ax_w_cons]
    rw [List.map_cons, List.nodup_cons] at hn
    cases i with
    | zero =>
      simp at hi
      subst hi
      exact ax_up_s
    | succ i =>
      simp at hi
      have hm : a ∈ l.map (fun q => q.1) := List.mem_map.mpr ⟨_, List.mem_of_getElem? hi, rfl⟩
      have hne : ¬ a = q.1 := fun e => hn.1 (by rw [← e]; exact hm)
      rw [ax_up_n hne]
      exact ih hn.2 hi
theorem ax_w_ne {h : ax_H} {l : List (Nat × ax_E)} {a : Nat} (hn : a ∉ l.map (fun q => q.1)) : ax_w h l a = h a := by
  induction l with
  | nil => rfl
  | cons q l ih =>
    rw [List.map_cons, List.mem_cons, not_or] at hn
    rw [ax_w_cons, ax_up_n hn.1, ih hn.2]
theorem ax_up_comm {h : ax_H} {a b : Nat} {o p : Option ax_E} (hn : ¬ a = b) : va_up (va_up h a o) b p = va_up (va_up h b p) a o := by
  funext x
  unfold va_up
  by_cases h1 : x = a
  · by_cases h2 : x = b
    · exact absurd (h1.symm.trans h2) hn
    · simp [h1, hn]
  · simp [h1]
theorem ax_w_set {h : ax_H} {l : List (Nat × ax_E)} {i a : Nat} {o : ax_E} (o' : ax_E) (hn : (l.map (fun q => q.1)).Nodup) (hi : l[i]? = some (a, o)) : va_up (ax_w h l) a (some o') = ax_w h (l.set i (a, o')) := by
  induction l generalizing i with
  | nil => simp at hi
  | cons q l ih =>
    rw [List.map_cons, List.nodup_cons] at hn
    cases i with
    | zero =>
      simp at hi
      subst hi
      rw [List.set_cons_zero, ax_w_cons, ax_w_cons, bx_uu]
    | succ i =>
      simp at hi
      have hm : a ∈ l.map (fun q => q.1) := List.mem_map.mpr ⟨_, List.mem_of_getElem? hi, rfl⟩
      have hne : ¬ q.1 = a := fun e => hn.1 (by rw [e]; exact hm)
      rw [List.set_cons_succ, ax_w_cons, ax_w_cons, ax_up_comm hne, ih hn.2 hi]
theorem ax_set_keys {l : List (Nat × ax_E)} {i a : Nat} {o o' : ax_E} (hi : l[i]? = some (a, o)) : (l.set i (a, o')).map (fun q => q.1) = l.map (fun q => q.1) := by
  induction l generalizing i with
  | nil => rfl
  | cons q l ih =>
    cases i with
    | zero => simp at hi; subst hi; rfl
    | succ i => simp at hi; simp [ih hi]
def ax_sets (l : List (Nat × ax_E)) : List Nat → List (Nat × ax_E) → List (Nat × ax_E)
  | i :: is, q :: qs => (ax_sets l is qs).set i q
  | _, _ => l
theorem ax_w_over {h : ax_H} {l : List (Nat × ax_E)} (hn : (l.map (fun q => q.1)).Nodup) : ∀ (is : List Nat) (lc : List (Nat × ax_E)), is.map (fun i => (l.map (fun q => q.1))[i]?) = lc.map (fun q => some q.1) → ax_w (ax_w h l) lc = ax_w h (ax_sets l is lc) ∧ (ax_sets l is lc).map (fun q => q.1) = l.map (fun q => q.1) := by
  intro is
  induction is with
  | nil =>
    intro lc he
    cases lc with
    | nil => exact ⟨rfl, rfl⟩
    | cons q qs => simp at he
  | cons i is ih =>
    intro lc he
    cases lc with
    | nil => simp at he
    | cons q qs =>
      simp only [List.map_cons, List.cons.injEq] at he
      obtain ⟨e1, e2⟩ := ih qs he.2
      have hk : ((ax_sets l is qs).map (fun q => q.1))[i]? = some q.1 := by rw [e2]; exact he.1
      rw [List.getElem?_map] at hk
      obtain ⟨z, hz, hz2⟩ := Option.map_eq_some_iff.mp hk
      have hz3 : (ax_sets l is qs)[i]? = some (q.1, z.2) := by rw [hz, ← hz2]
      have h4 := ax_w_set (h := h) q.2 (by rw [e2]; exact hn) hz3
      refine ⟨?_, ?_⟩
      · rw [ax_w_cons, e1, h4]
        rfl
      · show ((ax_sets l is qs).set i (q.1, q.2)).map _ = _
        rw [ax_set_keys hz3, e2]
theorem ax_w_self {h : ax_H} {l : List (Nat × ax_E)} (hl : ∀ q ∈ l, h q.1 = some q.2) : ax_w h l = h := by
  funext x
  unfold ax_w
  cases hf : l.find? (fun q => q.1 == x) with
  | none => rfl
  | some q =>
    have h1 := hl q (List.mem_of_find?_eq_some hf)
    have h2 : q.1 = x := by simpa using List.find?_some hf
    rw [← h2]; exact h1.symm
theorem ax_w_push {h : ax_H} {l : List (Nat × ax_E)} {a : Nat} {o : ax_E} (hf : ax_w h l a = none) : va_up (ax_w h l) a (some o) = ax_w h (l ++ [(a, o)]) := by
  induction l with
  | nil => rw [List.nil_append, ax_w_cons]
  | cons q l ih =>
    have hne : ¬ a = q.1 := fun e => by
      rw [ax_w_cons, e, ax_up_s] at hf; cases hf
    rw [List.cons_append, ax_w_cons, ax_w_cons, ← ih (by rw [ax_w_cons, ax_up_n hne] at hf; exact hf), ax_up_comm (fun e => hne e.symm)]
theorem ax_eqh {G : ax_G} {M : ax_M} {d mc ms : Nat} {Q : ax_P} {pc : Nat} {lv : ax_L} {st : List Value} {h h' : ax_H} {cn sn : Nat} (e : h = h') (k : AW G M d mc ms Q pc lv st h' cn sn) : AW G M d mc ms Q pc lv st h cn sn := e ▸ k
theorem ax_ct {G : ax_G} {M : ax_M} {d mc ms : Nat} {Q : ax_P} {pc : Nat} {lv : ax_L} {st st' : List Value} {h h' : ax_H} {cn sn : Nat} (k : AW G M d mc ms Q pc lv st h cn sn) (e : st = st') (e2 : h = h') : AW G M d mc ms Q pc lv st' h' cn sn := e2 ▸ e ▸ k
theorem ax_mono {G : ax_G} {M : ax_M} {d mc ms : Nat} {Q Q' : ax_P} {pc : Nat} {lv : ax_L} {st : List Value} {h : ax_H} {cn sn : Nat} (k : AW G M d mc ms Q pc lv st h cn sn) (hq : ∀ r h1, Q r h1 → Q' r h1) : AW G M d mc ms Q' pc lv st h cn sn := by
  intro p e s m args below meth c R H locs ls E Rm Fx Hp hS hl hc hs T hT X
  obtain ⟨t, a1, o, b1, b2, b3⟩ := k p e s m args below meth c R H locs ls E Rm Fx Hp hS hl hc hs T hT X
  refine ⟨t, a1, o, b1, b2, ?_⟩
  rcases b3 with ⟨⟨v, h9, e1, q1, q2⟩, q3⟩ | ⟨q, e1, E9, ce, L, ⟨h9, q1, q2⟩, q3⟩
  · exact Or.inl ⟨⟨v, h9, e1, hq _ _ q1, q2⟩, q3⟩
  · exact Or.inr ⟨q, e1, E9, ce, L, ⟨h9, hq _ _ q1, q2⟩, q3⟩
section AXW
variable {G : ax_G} {M : ax_M} {d mc ms : Nat} {Q : ax_P} {pc : Nat} {lv : ax_L} {st : List Value} {h : ax_H} {cn sn : Nat} {l : List (Nat × ax_E)}
theorem ax_wget {i a ci j : Nat} {fs : List Value} {v : Value} (n : Nat) (hn : (l.map (fun q => q.1)).Nodup) (hi : l[n]? = some (a, .inr (ci, fs))) (hd : decode M.2.1 pc = .ok (.getfield i, 3)) (hf : ax_fk M.1.cls i ci j) (hv : fs[j]? = some v) (k : AW G M d mc ms Q (pc + 3) lv (v :: st) (ax_w h l) cn sn) : AW G M d mc ms Q pc lv (.ref a :: st) (ax_w h l) cn sn := ax_get hd hf (ax_w_get hn hi) hv k
theorem ax_wput {i a ci j : Nat} {fs : List Value} {v : Value} {ty : FieldType} {l' : List (Nat × ax_E)} (n : Nat) (hn : (l.map (fun q => q.1)).Nodup) (hi : l[n]? = some (a, .inr (ci, fs))) (hd : decode M.2.1 pc = .ok (.putfield i, 3)) (hf : ax_fp M.1.cls i ci j ty) (hw : narrow ty v = v) (hfit : fits ty v = true) (hj : j < fs.length) (hl' : l.set n (a, .inr (ci, fs.set j v)) = l') (k : AW G M d mc ms Q (pc + 3) lv st (ax_w h l') cn sn) : AW G M d mc ms Q pc lv (v :: .ref a :: st) (ax_w h l) cn sn := ax_put hd hf (ax_w_get hn hi) hw hfit hj (by rw [ax_w_set _ hn hi, hl']; exact k)
theorem ax_wputF {i a ci j : Nat} {fs : List Value} {v : Value} {ty : FieldType} {l' : List (Nat × ax_E)} (n : Nat) (hn : (l.map (fun q => q.1)).Nodup) (hi : l[n]? = some (a, .inr (ci, fs))) (hd : decode M.2.1 pc = .ok (.putfield i, 3)) (hf : ax_fF M.1.cls i ci j ty) (hM : M.1.name = "<init>") (hw : narrow ty v = v) (hfit : fits ty v = true) (hj : j < fs.length) (hl' : l.set n (a, .inr (ci, fs.set j v)) = l') (k : AW G M d mc ms Q (pc + 3) lv st (ax_w h l') cn sn) : AW G M d mc ms Q pc lv (v :: .ref a :: st) (ax_w h l) cn sn := ax_putF hd hf hM (ax_w_get hn hi) hw hfit hj (by rw [ax_w_set _ hn hi, hl']; exact k)
theorem ax_wiald {a z : Nat} {f : Nat → Int32} {i : Int32} (n : Nat) (hn : (l.map (fun q => q.1)).Nodup) (hi : l[n]? = some (a, .inl (0, z, .inl f))) (hd : decode M.2.1 pc = .ok (.iaload, 1)) (hin : vp_in i z) (k : AW G M d mc ms Q (pc + 1) lv (.int (f i.toNatClampNeg) :: st) (ax_w h l) cn sn) : AW G M d mc ms Q pc lv (.int i :: .ref a :: st) (ax_w h l) cn sn := ax_iald hd (ax_w_get hn hi) hin k
theorem ax_wiast {a z : Nat} {f : Nat → Int32} {i x : Int32} {l' : List (Nat × ax_E)} (n : Nat) (hn : (l.map (fun q => q.1)).Nodup) (hi : l[n]? = some (a, .inl (0, z, .inl f))) (hd : decode M.2.1 pc = .ok (.iastore, 1)) (hin : vp_in i z) (hl' : l.set n (a, .inl (0, z, .inl (upd f i.toNatClampNeg x))) = l') (k : AW G M d mc ms Q (pc + 1) lv st (ax_w h l') cn sn) : AW G M d mc ms Q pc lv (.int x :: .int i :: .ref a :: st) (ax_w h l) cn sn := ax_iast hd (ax_w_get hn hi) hin (by rw [ax_w_set _ hn hi, hl']; exact k)
theorem ax_waald3 {a z : Nat} {f : Nat → Option Nat} {i : Int32} (n : Nat) (hn : (l.map (fun q => q.1)).Nodup) (hi : l[n]? = some (a, .inl (3, z, .inr (.inr (.inr (.inr f)))))) (hd : decode M.2.1 pc = .ok (.aaload, 1)) (hin : vp_in i z) (k : AW G M d mc ms Q (pc + 1) lv (va_rf (f i.toNatClampNeg) :: st) (ax_w h l) cn sn) : AW G M d mc ms Q pc lv (.int i :: .ref a :: st) (ax_w h l) cn sn := ax_aald3 hd (ax_w_get hn hi) hin k
theorem ax_waast3 {a z v : Nat} {vs : List Value} {f : Nat → Option Nat} {i : Int32} {l' : List (Nat × ax_E)} (n n2 : Nat) (hn : (l.map (fun q => q.1)).Nodup) (hi : l[n]? = some (a, .inl (3, z, .inr (.inr (.inr (.inr f)))))) (hv : l[n2]? = some (v, .inr (5, vs))) (hd : decode M.2.1 pc = .ok (.aastore, 1)) (hin : vp_in i z) (hl' : l.set n (a, .inl (3, z, .inr (.inr (.inr (.inr (va_up f i.toNatClampNeg (some v))))))) = l') (k : AW G M d mc ms Q (pc + 1) lv st (ax_w h l') cn sn) : AW G M d mc ms Q pc lv (.ref v :: .int i :: .ref a :: st) (ax_w h l) cn sn := ax_aast3 hd (ax_w_get hn hi) (ax_w_get hn hv) hin (by rw [ax_w_set _ hn hi, hl']; exact k)
theorem ax_waast3N {a z : Nat} {f : Nat → Option Nat} {i : Int32} {l' : List (Nat × ax_E)} (n : Nat) (hn : (l.map (fun q => q.1)).Nodup) (hi : l[n]? = some (a, .inl (3, z, .inr (.inr (.inr (.inr f)))))) (hd : decode M.2.1 pc = .ok (.aastore, 1)) (hin : vp_in i z) (hl' : l.set n (a, .inl (3, z, .inr (.inr (.inr (.inr (va_up f i.toNatClampNeg none)))))) = l') (k : AW G M d mc ms Q (pc + 1) lv st (ax_w h l') cn sn) : AW G M d mc ms Q pc lv (.null :: .int i :: .ref a :: st) (ax_w h l) cn sn := ax_aast3N hd (ax_w_get hn hi) hin (by rw [ax_w_set _ hn hi, hl']; exact k)
end AXW
theorem ax_w_sub {h : ax_H} {l lc : List (Nat × ax_E)} (hn : (l.map (fun q => q.1)).Nodup) (is : List Nat) (hC : is.map (fun i => l[i]?) = lc.map some) : ax_w (ax_w h l) lc = ax_w h l := by
  refine ax_w_self fun q hq => ?_
  have h1 : some q ∈ lc.map some := List.mem_map.mpr ⟨q, hq, rfl⟩
  rw [← hC] at h1
  obtain ⟨i, -, hi⟩ := List.mem_map.mp h1
  exact ax_w_get hn (i := i) hi
theorem ax_w_ov {h : ax_H} {l lc l' : List (Nat × ax_E)} (hn : (l.map (fun q => q.1)).Nodup) (is : List Nat) (hk : is.map (fun i => (l.map (fun q => q.1))[i]?) = lc.map (fun q => some q.1)) (hl : ax_sets l is lc = l') : ax_w (ax_w h l) lc = ax_w h l' := by
  rw [(ax_w_over hn is lc hk).1, hl]
theorem ax_in {x m : Int32} {n : Nat} (h0 : ¬ x < 0) (h1 : ¬ m ≤ x) (hm : m.toInt = (n : Int)) : vp_in x n := by
  rw [vp_in_iff]
  have e0 : (0 : Int32).toInt = 0 := by decide
  rw [Int32.lt_iff_toInt_lt] at h0
  rw [Int32.le_iff_toInt_le] at h1
  omega
theorem ax_out5 {x : Int32} (h1 : ¬ x.toInt = 1) (h2 : ¬ x.toInt = 2) (h3 : ¬ x.toInt = 3) (h4 : ¬ x.toInt = 4) (h5 : ¬ x.toInt = 5) : x.toInt < 1 ∨ 5 < x.toInt := by omega
theorem ax_inj {ks : List Nat} (hn : ks.Nodup) {i j k : Nat} (h1 : ks[i]? = some k) (h2 : ks[j]? = some k) : i = j := by
  induction ks generalizing i j with
  | nil => simp at h1
  | cons x ks ih =>
    rw [List.nodup_cons] at hn
    cases i with
    | zero =>
      cases j with
      | zero => rfl
      | succ j =>
        simp at h1 h2
        exact absurd (h1 ▸ List.mem_of_getElem? h2) hn.1
    | succ i =>
      cases j with
      | zero =>
        simp at h1 h2
        exact absurd (h2 ▸ List.mem_of_getElem? h1) hn.1
      | succ j =>
        simp at h1 h2
        rw [ih hn.2 h1 h2]
theorem ax_nd {ks : List Nat} (is : List Nat) (hn : ks.Nodup) {ks' : List Nat} (h1 : is.map (fun i => ks[i]?) = ks'.map some) (h2 : is.Nodup) : ks'.Nodup := by
  induction is generalizing ks' with
  | nil =>
    cases ks' with
    | nil => exact List.nodup_nil
    | cons k ks' => simp at h1
  | cons i is ih =>
    cases ks' with
    | nil => simp at h1
    | cons k ks' =>
      simp only [List.map_cons, List.cons.injEq] at h1
      rw [List.nodup_cons] at h2 ⊢
      refine ⟨fun hk => ?_, ih h1.2 h2.2⟩
      have h3 : some k ∈ ks'.map some := List.mem_map.mpr ⟨k, hk, rfl⟩
      rw [← h1.2] at h3
      obtain ⟨j, hj, hj2⟩ := List.mem_map.mp h3
      have := ax_inj hn h1.1 hj2
      exact h2.1 (this ▸ hj)
end
section
set_option maxRecDepth 100000 in
set_option maxHeartbeats 4000000 in
theorem ctX1_hasType {G : ax_G} (d : Nat) (h : ax_H) (a : Nat) (lo hi ty nc : Int32) (gO gP gT gC : Nat) (k : Int32) (hn : ([a] : List Nat).Nodup) : AW G mX1_hasType d 0 0 (fun r h1 => r = .inl (some (.int (if k < 0 then 0 else (if ty ≤ k then 0 else 1)))) ∧ h1 = ax_w h [(a, .inr (1, [.int lo, .int hi, .int ty, .int nc, .ref gO, .ref gP, .ref gT, .ref gC]))]) 0 [(0, .ref a), (1, .int k)] [] (ax_w h [(a, .inr (1, [.int lo, .int hi, .int ty, .int nc, .ref gO, .ref gP, .ref gT, .ref gC]))]) 0 0 := by
  obtain ⟨Q, hQ⟩ : ∃ Q : ax_P, Q = (fun r h1 => r = .inl (some (.int (if k < 0 then 0 else (if ty ≤ k then 0 else 1)))) ∧ h1 = ax_w h [(a, .inr (1, [.int lo, .int hi, .int ty, .int nc, .ref gO, .ref gP, .ref gT, .ref gC]))]) := ⟨_, rfl⟩
  rw [← hQ]
  refine ax_iload_n dX1_hasType_0 rfl ?_
  have J17 : AW G mX1_hasType d 0 0 Q 17 [(0, .ref a), (1, .int k)] [.int (if k < 0 then 0 else (if ty ≤ k then 0 else 1))] (ax_w h [(a, .inr (1, [.int lo, .int hi, .int ty, .int nc, .ref gO, .ref gP, .ref gT, .ref gC]))]) 0 0 := by
    exact ax_iret (st := []) dX1_hasType_17 rfl (by repeat (first | rfl | split)) (by rw [hQ]; refine ⟨?_, ?_⟩ <;> (try rfl))
  refine ax_if_lt (tgt := 16) dX1_hasType_1 (by decide) (fun c1 => ?_) (fun c1 => ?_)
  · refine ax_iconst (v := 0) dX1_hasType_16 (by decide) ?_
    repeat rw [if_pos c1] at J17
    first | exact J17 | contradiction
  · refine ax_iload_n dX1_hasType_4 rfl ?_
    refine ax_aload_n dX1_hasType_5 rfl ?_
    refine ax_wget 0 hn rfl dX1_hasType_6 fkX1_18 rfl ?_
    refine ax_icmp_ge (tgt := 16) dX1_hasType_9 (by decide) (fun c2 => ?_) (fun c2 => ?_)
    · refine ax_iconst (v := 0) dX1_hasType_16 (by decide) ?_
      repeat rw [if_neg c1] at J17
      repeat rw [if_pos c2] at J17
      first | exact J17 | contradiction
    · refine ax_iconst (v := 1) dX1_hasType_12 (by decide) ?_
      refine ax_goto (tgt := 17) dX1_hasType_13 (by decide) ?_
      repeat rw [if_neg c1] at J17
      repeat rw [if_neg c2] at J17
      first | exact J17 | contradiction
set_option maxRecDepth 100000 in
set_option maxHeartbeats 4000000 in
theorem ctX1_hasConstructor {G : ax_G} (d : Nat) (h : ax_H) (a : Nat) (lo hi ty nc : Int32) (gO gP gT gC : Nat) (k : Int32) (hn : ([a] : List Nat).Nodup) : AW G mX1_hasConstructor d 0 0 (fun r h1 => r = .inl (some (.int (if k < 0 then 0 else (if nc ≤ k then 0 else (if (6 : Int32) ≤ k then 0 else 1))))) ∧ h1 = ax_w h [(a, .inr (1, [.int lo, .int hi, .int ty, .int nc, .ref gO, .ref gP, .ref gT, .ref gC]))]) 0 [(0, .ref a), (1, .int k)] [] (ax_w h [(a, .inr (1, [.int lo, .int hi, .int ty, .int nc, .ref gO, .ref gP, .ref gT, .ref gC]))]) 0 0 := by
  obtain ⟨Q, hQ⟩ : ∃ Q : ax_P, Q = (fun r h1 => r = .inl (some (.int (if k < 0 then 0 else (if nc ≤ k then 0 else (if (6 : Int32) ≤ k then 0 else 1))))) ∧ h1 = ax_w h [(a, .inr (1, [.int lo, .int hi, .int ty, .int nc, .ref gO, .ref gP, .ref gT, .ref gC]))]) := ⟨_, rfl⟩
  rw [← hQ]
  refine ax_iload_n dX1_hasConstructor_0 rfl ?_
  have J23 : AW G mX1_hasConstructor d 0 0 Q 23 [(0, .ref a), (1, .int k)] [.int (if k < 0 then 0 else (if nc ≤ k then 0 else (if (6 : Int32) ≤ k then 0 else 1)))] (ax_w h [(a, .inr (1, [.int lo, .int hi, .int ty, .int nc, .ref gO, .ref gP, .ref gT, .ref gC]))]) 0 0 := by
    exact ax_iret (st := []) dX1_hasConstructor_23 rfl (by repeat (first | rfl | split)) (by rw [hQ]; refine ⟨?_, ?_⟩ <;> (try rfl))
  refine ax_if_lt (tgt := 22) dX1_hasConstructor_1 (by decide) (fun c1 => ?_) (fun c1 => ?_)
  · refine ax_iconst (v := 0) dX1_hasConstructor_22 (by decide) ?_
    repeat rw [if_pos c1] at J23
    first | exact J23 | contradiction
  · refine ax_iload_n dX1_hasConstructor_4 rfl ?_
    refine ax_aload_n dX1_hasConstructor_5 rfl ?_
    refine ax_wget 0 hn rfl dX1_hasConstructor_6 fkX1_21 rfl ?_
    refine ax_icmp_ge (tgt := 22) dX1_hasConstructor_9 (by decide) (fun c2 => ?_) (fun c2 => ?_)
    · refine ax_iconst (v := 0) dX1_hasConstructor_22 (by decide) ?_
      repeat rw [if_neg c1] at J23
      repeat rw [if_pos c2] at J23
      first | exact J23 | contradiction
    · refine ax_iload_n dX1_hasConstructor_12 rfl ?_
      refine ax_bipush (v := 6) dX1_hasConstructor_13 (by decide) ?_
      refine ax_icmp_ge (tgt := 22) dX1_hasConstructor_15 (by decide) (fun c3 => ?_) (fun c3 => ?_)
      · refine ax_iconst (v := 0) dX1_hasConstructor_22 (by decide) ?_
        repeat rw [if_neg c1] at J23
        repeat rw [if_neg c2] at J23
        repeat rw [if_pos c3] at J23
        first | exact J23 | contradiction
      · refine ax_iconst (v := 1) dX1_hasConstructor_18 (by decide) ?_
        refine ax_goto (tgt := 23) dX1_hasConstructor_19 (by decide) ?_
        repeat rw [if_neg c1] at J23
        repeat rw [if_neg c2] at J23
        repeat rw [if_neg c3] at J23
        first | exact J23 | contradiction
set_option maxRecDepth 100000 in
set_option maxHeartbeats 4000000 in
theorem ctX1_isParameter {G : ax_G} (d : Nat) (h : ax_H) (a : Nat) (lo hi ty nc : Int32) (gO gP gT gC : Nat) (k : Int32) (hn : ([a] : List Nat).Nodup) : AW G mX1_isParameter (d + 1) 0 0 (fun r h1 => r = .inl (some (.int (if k = ((-1) : Int32) then 1 else (if k = (9 : Int32) then 1 else (if ((if k < 0 then 0 else (if ty ≤ k then 0 else 1)) : Int32) = 0 then 0 else 1))))) ∧ h1 = ax_w h [(a, .inr (1, [.int lo, .int hi, .int ty, .int nc, .ref gO, .ref gP, .ref gT, .ref gC]))]) 0 [(0, .ref a), (1, .int k)] [] (ax_w h [(a, .inr (1, [.int lo, .int hi, .int ty, .int nc, .ref gO, .ref gP, .ref gT, .ref gC]))]) 0 0 := by
  obtain ⟨Q, hQ⟩ : ∃ Q : ax_P, Q = (fun r h1 => r = .inl (some (.int (if k = ((-1) : Int32) then 1 else (if k = (9 : Int32) then 1 else (if ((if k < 0 then 0 else (if ty ≤ k then 0 else 1)) : Int32) = 0 then 0 else 1))))) ∧ h1 = ax_w h [(a, .inr (1, [.int lo, .int hi, .int ty, .int nc, .ref gO, .ref gP, .ref gT, .ref gC]))]) := ⟨_, rfl⟩
  rw [← hQ]
  refine ax_iload_n dX1_isParameter_0 rfl ?_
  refine ax_iconst (v := (-1)) dX1_isParameter_1 (by decide) ?_
  have J24 : AW G mX1_isParameter (d + 1) 0 0 Q 24 [(0, .ref a), (1, .int k)] [.int (if k = ((-1) : Int32) then 1 else (if k = (9 : Int32) then 1 else (if ((if k < 0 then 0 else (if ty ≤ k then 0 else 1)) : Int32) = 0 then 0 else 1)))] (ax_w h [(a, .inr (1, [.int lo, .int hi, .int ty, .int nc, .ref gO, .ref gP, .ref gT, .ref gC]))]) 0 0 := by
    exact ax_iret (st := []) dX1_isParameter_24 rfl (by repeat (first | rfl | split)) (by rw [hQ]; refine ⟨?_, ?_⟩ <;> (try rfl))
  refine ax_icmp_eq (tgt := 19) dX1_isParameter_2 (by decide) (fun c1 => ?_) (fun c1 => ?_)
  · refine ax_iconst (v := 1) dX1_isParameter_19 (by decide) ?_
    refine ax_goto (tgt := 24) dX1_isParameter_20 (by decide) ?_
    repeat rw [if_pos c1] at J24
    first | exact J24 | contradiction
  · refine ax_iload_n dX1_isParameter_5 rfl ?_
    refine ax_bipush (v := 9) dX1_isParameter_6 (by decide) ?_
    refine ax_icmp_eq (tgt := 19) dX1_isParameter_8 (by decide) (fun c2 => ?_) (fun c2 => ?_)
    · refine ax_iconst (v := 1) dX1_isParameter_19 (by decide) ?_
      refine ax_goto (tgt := 24) dX1_isParameter_20 (by decide) ?_
      repeat rw [if_neg c1] at J24
      repeat rw [if_pos c2] at J24
      first | exact J24 | contradiction
    · refine ax_aload_n dX1_isParameter_11 rfl ?_
      refine ax_iload_n dX1_isParameter_12 rfl ?_
      refine ax_callV (b := a) (av := [.int k]) (rest := []) (mc' := 0) (ms' := 0) dX1_isParameter_13 rfl lkX1_41 (ax_w_get hn (i := 0) rfl) rfl (Nat.le_of_ble_eq_true rfl) (Nat.le_of_ble_eq_true rfl) (Nat.le_refl 0) (Nat.le_refl 0) (ax_eqh (ax_w_sub (l := [(a, .inr (1, [.int lo, .int hi, .int ty, .int nc, .ref gO, .ref gP, .ref gT, .ref gC]))]) (lc := [(a, .inr (1, [.int lo, .int hi, .int ty, .int nc, .ref gO, .ref gP, .ref gT, .ref gC]))]) hn [0] rfl).symm (ctX1_hasType _ _ a lo hi ty nc gO gP gT gC k hn)) (fun E9 h9 q9 => by cases q9.1) (fun v9 h9 q9 => ?_)
      obtain ⟨e9, rfl⟩ := q9
      cases e9
      refine ax_eqh (ax_w_ov (l := [(a, .inr (1, [.int lo, .int hi, .int ty, .int nc, .ref gO, .ref gP, .ref gT, .ref gC]))]) (lc := [(a, .inr (1, [.int lo, .int hi, .int ty, .int nc, .ref gO, .ref gP, .ref gT, .ref gC]))]) (l' := [(a, .inr (1, [.int lo, .int hi, .int ty, .int nc, .ref gO, .ref gP, .ref gT, .ref gC]))]) hn [0] rfl rfl) ?_
      show AW G mX1_isParameter (d + 1) 0 0 Q 16 [(0, .ref a), (1, .int k)] [.int (if k < 0 then 0 else (if ty ≤ k then 0 else 1))] _ 0 0
      refine ax_if_eq (tgt := 23) dX1_isParameter_16 (by decide) (fun c3 => ?_) (fun c3 => ?_)
      · refine ax_iconst (v := 0) dX1_isParameter_23 (by decide) ?_
        repeat rw [if_neg c1] at J24
        repeat rw [if_neg c2] at J24
        repeat rw [if_pos c3] at J24
        first | exact J24 | contradiction
      · refine ax_iconst (v := 1) dX1_isParameter_19 (by decide) ?_
        refine ax_goto (tgt := 24) dX1_isParameter_20 (by decide) ?_
        repeat rw [if_neg c1] at J24
        repeat rw [if_neg c2] at J24
        repeat rw [if_neg c3] at J24
        first | exact J24 | contradiction
set_option maxRecDepth 100000 in
set_option maxHeartbeats 4000000 in
theorem ctX1_allowsParameters {G : ax_G} (d : Nat) (h : ax_H) (a : Nat) (lo hi ty nc : Int32) (gO gP gT gC : Nat) (p1 p2 p3 : Int32) (hn : ([a] : List Nat).Nodup) : AW G mX1_allowsParameters (d + 2) 0 0 (fun r h1 => r = .inl (some (.int (if ((if p1 = ((-1) : Int32) then 1 else (if p1 = (9 : Int32) then 1 else (if ((if p1 < 0 then 0 else (if ty ≤ p1 then 0 else 1)) : Int32) = 0 then 0 else 1))) : Int32) = 0 then 0 else (if ((if p2 = ((-1) : Int32) then 1 else (if p2 = (9 : Int32) then 1 else (if ((if p2 < 0 then 0 else (if ty ≤ p2 then 0 else 1)) : Int32) = 0 then 0 else 1))) : Int32) = 0 then 0 else (if ((if p3 = ((-1) : Int32) then 1 else (if p3 = (9 : Int32) then 1 else (if ((if p3 < 0 then 0 else (if ty ≤ p3 then 0 else 1)) : Int32) = 0 then 0 else 1))) : Int32) = 0 then 0 else (if ((if p1 = ((-1) : Int32) then (if p2 = ((-1) : Int32) then (if p2 = ((-1) : Int32) then (if p3 = ((-1) : Int32) then 0 else 1) else 0) else 1) else (if p2 = ((-1) : Int32) then (if p3 = ((-1) : Int32) then 0 else 1) else 0)) : Int32) = 0 then (if ((if p1 < 0 then 0 else (if ty ≤ p1 then 0 else 1)) : Int32) = 0 then 1 else (if ((if p2 < 0 then 0 else (if ty ≤ p2 then 0 else 1)) : Int32) = 0 then 1 else (if ((if p3 < 0 then 0 else (if ty ≤ p3 then 0 else 1)) : Int32) = 0 then 1 else 0))) else 0)))))) ∧ h1 = ax_w h [(a, .inr (1, [.int lo, .int hi, .int ty, .int nc, .ref gO, .ref gP, .ref gT, .ref gC]))]) 0 [(0, .ref a), (1, .int p1), (2, .int p2), (3, .int p3)] [] (ax_w h [(a, .inr (1, [.int lo, .int hi, .int ty, .int nc, .ref gO, .ref gP, .ref gT, .ref gC]))]) 0 0 := by
  obtain ⟨Q, hQ⟩ : ∃ Q : ax_P, Q = (fun r h1 => r = .inl (some (.int (if ((if p1 = ((-1) : Int32) then 1 else (if p1 = (9 : Int32) then 1 else (if ((if p1 < 0 then 0 else (if ty ≤ p1 then 0 else 1)) : Int32) = 0 then 0 else 1))) : Int32) = 0 then 0 else (if ((if p2 = ((-1) : Int32) then 1 else (if p2 = (9 : Int32) then 1 else (if ((if p2 < 0 then 0 else (if ty ≤ p2 then 0 else 1)) : Int32) = 0 then 0 else 1))) : Int32) = 0 then 0 else (if ((if p3 = ((-1) : Int32) then 1 else (if p3 = (9 : Int32) then 1 else (if ((if p3 < 0 then 0 else (if ty ≤ p3 then 0 else 1)) : Int32) = 0 then 0 else 1))) : Int32) = 0 then 0 else (if ((if p1 = ((-1) : Int32) then (if p2 = ((-1) : Int32) then (if p2 = ((-1) : Int32) then (if p3 = ((-1) : Int32) then 0 else 1) else 0) else 1) else (if p2 = ((-1) : Int32) then (if p3 = ((-1) : Int32) then 0 else 1) else 0)) : Int32) = 0 then (if ((if p1 < 0 then 0 else (if ty ≤ p1 then 0 else 1)) : Int32) = 0 then 1 else (if ((if p2 < 0 then 0 else (if ty ≤ p2 then 0 else 1)) : Int32) = 0 then 1 else (if ((if p3 < 0 then 0 else (if ty ≤ p3 then 0 else 1)) : Int32) = 0 then 1 else 0))) else 0)))))) ∧ h1 = ax_w h [(a, .inr (1, [.int lo, .int hi, .int ty, .int nc, .ref gO, .ref gP, .ref gT, .ref gC]))]) := ⟨_, rfl⟩
  rw [← hQ]
  refine ax_aload_n dX1_allowsParameters_0 rfl ?_
  refine ax_iload_n dX1_allowsParameters_1 rfl ?_
  refine ax_callV (b := a) (av := [.int p1]) (rest := []) (mc' := 0) (ms' := 0) dX1_allowsParameters_2 rfl lkX1_37 (ax_w_get hn (i := 0) rfl) rfl (Nat.le_of_ble_eq_true rfl) (Nat.le_of_ble_eq_true rfl) (Nat.le_refl 0) (Nat.le_refl 0) (ax_eqh (ax_w_sub (l := [(a, .inr (1, [.int lo, .int hi, .int ty, .int nc, .ref gO, .ref gP, .ref gT, .ref gC]))]) (lc := [(a, .inr (1, [.int lo, .int hi, .int ty, .int nc, .ref gO, .ref gP, .ref gT, .ref gC]))]) hn [0] rfl).symm (ctX1_isParameter _ _ a lo hi ty nc gO gP gT gC p1 hn)) (fun E9 h9 q9 => by cases q9.1) (fun v9 h9 q9 => ?_)
  obtain ⟨e9, rfl⟩ := q9
  cases e9
  refine ax_eqh (ax_w_ov (l := [(a, .inr (1, [.int lo, .int hi, .int ty, .int nc, .ref gO, .ref gP, .ref gT, .ref gC]))]) (lc := [(a, .inr (1, [.int lo, .int hi, .int ty, .int nc, .ref gO, .ref gP, .ref gT, .ref gC]))]) (l' := [(a, .inr (1, [.int lo, .int hi, .int ty, .int nc, .ref gO, .ref gP, .ref gT, .ref gC]))]) hn [0] rfl rfl) ?_
  show AW G mX1_allowsParameters (d + 2) 0 0 Q 5 [(0, .ref a), (1, .int p1), (2, .int p2), (3, .int p3)] [.int (if p1 = ((-1) : Int32) then 1 else (if p1 = (9 : Int32) then 1 else (if ((if p1 < 0 then 0 else (if ty ≤ p1 then 0 else 1)) : Int32) = 0 then 0 else 1)))] _ 0 0
  refine ax_if_eq (tgt := 24) dX1_allowsParameters_5 (by decide) (fun c1 => ?_) (fun c1 => ?_)
  · refine ax_iconst (v := 0) dX1_allowsParameters_24 (by decide) ?_
    exact ax_iret (st := []) dX1_allowsParameters_25 rfl (by repeat (first | rfl | split)) (by rw [hQ]; refine ⟨?_, ?_⟩ <;> (repeat rw [if_pos c1]) <;> (try rfl))
  · refine ax_aload_n dX1_allowsParameters_8 rfl ?_
    refine ax_iload_n dX1_allowsParameters_9 rfl ?_
    refine ax_callV (b := a) (av := [.int p2]) (rest := []) (mc' := 0) (ms' := 0) dX1_allowsParameters_10 rfl lkX1_37 (ax_w_get hn (i := 0) rfl) rfl (Nat.le_of_ble_eq_true rfl) (Nat.le_of_ble_eq_true rfl) (Nat.le_refl 0) (Nat.le_refl 0) (ax_eqh (ax_w_sub (l := [(a, .inr (1, [.int lo, .int hi, .int ty, .int nc, .ref gO, .ref gP, .ref gT, .ref gC]))]) (lc := [(a, .inr (1, [.int lo, .int hi, .int ty, .int nc, .ref gO, .ref gP, .ref gT, .ref gC]))]) hn [0] rfl).symm (ctX1_isParameter _ _ a lo hi ty nc gO gP gT gC p2 hn)) (fun E9 h9 q9 => by cases q9.1) (fun v9 h9 q9 => ?_)
    obtain ⟨e9, rfl⟩ := q9
    cases e9
    refine ax_eqh (ax_w_ov (l := [(a, .inr (1, [.int lo, .int hi, .int ty, .int nc, .ref gO, .ref gP, .ref gT, .ref gC]))]) (lc := [(a, .inr (1, [.int lo, .int hi, .int ty, .int nc, .ref gO, .ref gP, .ref gT, .ref gC]))]) (l' := [(a, .inr (1, [.int lo, .int hi, .int ty, .int nc, .ref gO, .ref gP, .ref gT, .ref gC]))]) hn [0] rfl rfl) ?_
    show AW G mX1_allowsParameters (d + 2) 0 0 Q 13 [(0, .ref a), (1, .int p1), (2, .int p2), (3, .int p3)] [.int (if p2 = ((-1) : Int32) then 1 else (if p2 = (9 : Int32) then 1 else (if ((if p2 < 0 then 0 else (if ty ≤ p2 then 0 else 1)) : Int32) = 0 then 0 else 1)))] _ 0 0
    refine ax_if_eq (tgt := 24) dX1_allowsParameters_13 (by decide) (fun c2 => ?_) (fun c2 => ?_)
    · refine ax_iconst (v := 0) dX1_allowsParameters_24 (by decide) ?_
      exact ax_iret (st := []) dX1_allowsParameters_25 rfl (by repeat (first | rfl | split)) (by rw [hQ]; refine ⟨?_, ?_⟩ <;> (repeat rw [if_neg c1]) <;> (repeat rw [if_pos c2]) <;> (try rfl))
    · refine ax_aload_n dX1_allowsParameters_16 rfl ?_
      refine ax_iload_n dX1_allowsParameters_17 rfl ?_
      refine ax_callV (b := a) (av := [.int p3]) (rest := []) (mc' := 0) (ms' := 0) dX1_allowsParameters_18 rfl lkX1_37 (ax_w_get hn (i := 0) rfl) rfl (Nat.le_of_ble_eq_true rfl) (Nat.le_of_ble_eq_true rfl) (Nat.le_refl 0) (Nat.le_refl 0) (ax_eqh (ax_w_sub (l := [(a, .inr (1, [.int lo, .int hi, .int ty, .int nc, .ref gO, .ref gP, .ref gT, .ref gC]))]) (lc := [(a, .inr (1, [.int lo, .int hi, .int ty, .int nc, .ref gO, .ref gP, .ref gT, .ref gC]))]) hn [0] rfl).symm (ctX1_isParameter _ _ a lo hi ty nc gO gP gT gC p3 hn)) (fun E9 h9 q9 => by cases q9.1) (fun v9 h9 q9 => ?_)
      obtain ⟨e9, rfl⟩ := q9
      cases e9
      refine ax_eqh (ax_w_ov (l := [(a, .inr (1, [.int lo, .int hi, .int ty, .int nc, .ref gO, .ref gP, .ref gT, .ref gC]))]) (lc := [(a, .inr (1, [.int lo, .int hi, .int ty, .int nc, .ref gO, .ref gP, .ref gT, .ref gC]))]) (l' := [(a, .inr (1, [.int lo, .int hi, .int ty, .int nc, .ref gO, .ref gP, .ref gT, .ref gC]))]) hn [0] rfl rfl) ?_
      show AW G mX1_allowsParameters (d + 2) 0 0 Q 21 [(0, .ref a), (1, .int p1), (2, .int p2), (3, .int p3)] [.int (if p3 = ((-1) : Int32) then 1 else (if p3 = (9 : Int32) then 1 else (if ((if p3 < 0 then 0 else (if ty ≤ p3 then 0 else 1)) : Int32) = 0 then 0 else 1)))] _ 0 0
      refine ax_if_ne (tgt := 26) dX1_allowsParameters_21 (by decide) (fun c3 => ?_) (fun c3 => ?_)
      · refine ax_iload_n dX1_allowsParameters_26 rfl ?_
        refine ax_iconst (v := (-1)) dX1_allowsParameters_27 (by decide) ?_
        have J51 : AW G mX1_allowsParameters (d + 2) 0 0 Q 51 [(0, .ref a), (1, .int p1), (2, .int p2), (3, .int p3)] [.int (if p1 = ((-1) : Int32) then (if p2 = ((-1) : Int32) then (if p2 = ((-1) : Int32) then (if p3 = ((-1) : Int32) then 0 else 1) else 0) else 1) else (if p2 = ((-1) : Int32) then (if p3 = ((-1) : Int32) then 0 else 1) else 0))] (ax_w h [(a, .inr (1, [.int lo, .int hi, .int ty, .int nc, .ref gO, .ref gP, .ref gT, .ref gC]))]) 0 0 := by
          refine ax_istore dX1_allowsParameters_51 (by decide) ?_
          refine ax_sub (lv' := [(0, .ref a), (1, .int p1), (2, .int p2), (3, .int p3), (4, .int (if p1 = ((-1) : Int32) then (if p2 = ((-1) : Int32) then (if p2 = ((-1) : Int32) then (if p3 = ((-1) : Int32) then 0 else 1) else 0) else 1) else (if p2 = ((-1) : Int32) then (if p3 = ((-1) : Int32) then 0 else 1) else 0)))]) (fun _ z => z) ?_
          refine ax_iload dX1_allowsParameters_53 rfl ?_
          have J87 : AW G mX1_allowsParameters (d + 2) 0 0 Q 87 [(0, .ref a), (1, .int p1), (2, .int p2), (3, .int p3), (4, .int (if p1 = ((-1) : Int32) then (if p2 = ((-1) : Int32) then (if p2 = ((-1) : Int32) then (if p3 = ((-1) : Int32) then 0 else 1) else 0) else 1) else (if p2 = ((-1) : Int32) then (if p3 = ((-1) : Int32) then 0 else 1) else 0)))] [.int (if ((if p1 = ((-1) : Int32) then (if p2 = ((-1) : Int32) then (if p2 = ((-1) : Int32) then (if p3 = ((-1) : Int32) then 0 else 1) else 0) else 1) else (if p2 = ((-1) : Int32) then (if p3 = ((-1) : Int32) then 0 else 1) else 0)) : Int32) = 0 then (if ((if p1 < 0 then 0 else (if ty ≤ p1 then 0 else 1)) : Int32) = 0 then 1 else (if ((if p2 < 0 then 0 else (if ty ≤ p2 then 0 else 1)) : Int32) = 0 then 1 else (if ((if p3 < 0 then 0 else (if ty ≤ p3 then 0 else 1)) : Int32) = 0 then 1 else 0))) else 0)] (ax_w h [(a, .inr (1, [.int lo, .int hi, .int ty, .int nc, .ref gO, .ref gP, .ref gT, .ref gC]))]) 0 0 := by
            exact ax_iret (st := []) dX1_allowsParameters_87 rfl (by repeat (first | rfl | split)) (by rw [hQ]; refine ⟨?_, ?_⟩ <;> (repeat rw [if_neg c1]) <;> (repeat rw [if_neg c2]) <;> (repeat rw [if_neg c3]) <;> (try rfl))
          refine ax_if_ne (tgt := 86) dX1_allowsParameters_55 (by decide) (fun c10 => ?_) (fun c10 => ?_)
          · refine ax_iconst (v := 0) dX1_allowsParameters_86 (by decide) ?_
            repeat rw [if_neg c10] at J87
            first | exact J87 | contradiction
          · refine ax_aload_n dX1_allowsParameters_58 rfl ?_
            refine ax_iload_n dX1_allowsParameters_59 rfl ?_
            refine ax_callV (b := a) (av := [.int p1]) (rest := []) (mc' := 0) (ms' := 0) dX1_allowsParameters_60 rfl lkX1_41 (ax_w_get hn (i := 0) rfl) rfl (Nat.le_of_ble_eq_true rfl) (Nat.le_of_ble_eq_true rfl) (Nat.le_refl 0) (Nat.le_refl 0) (ax_eqh (ax_w_sub (l := [(a, .inr (1, [.int lo, .int hi, .int ty, .int nc, .ref gO, .ref gP, .ref gT, .ref gC]))]) (lc := [(a, .inr (1, [.int lo, .int hi, .int ty, .int nc, .ref gO, .ref gP, .ref gT, .ref gC]))]) hn [0] rfl).symm (ctX1_hasType _ _ a lo hi ty nc gO gP gT gC p1 hn)) (fun E9 h9 q9 => by cases q9.1) (fun v9 h9 q9 => ?_)
            obtain ⟨e9, rfl⟩ := q9
            cases e9
            refine ax_eqh (ax_w_ov (l := [(a, .inr (1, [.int lo, .int hi, .int ty, .int nc, .ref gO, .ref gP, .ref gT, .ref gC]))]) (lc := [(a, .inr (1, [.int lo, .int hi, .int ty, .int nc, .ref gO, .ref gP, .ref gT, .ref gC]))]) (l' := [(a, .inr (1, [.int lo, .int hi, .int ty, .int nc, .ref gO, .ref gP, .ref gT, .ref gC]))]) hn [0] rfl rfl) ?_
            show AW G mX1_allowsParameters (d + 2) 0 0 Q 63 [(0, .ref a), (1, .int p1), (2, .int p2), (3, .int p3), (4, .int (if p1 = ((-1) : Int32) then (if p2 = ((-1) : Int32) then (if p2 = ((-1) : Int32) then (if p3 = ((-1) : Int32) then 0 else 1) else 0) else 1) else (if p2 = ((-1) : Int32) then (if p3 = ((-1) : Int32) then 0 else 1) else 0)))] [.int (if p1 < 0 then 0 else (if ty ≤ p1 then 0 else 1))] _ 0 0
            refine ax_if_eq (tgt := 82) dX1_allowsParameters_63 (by decide) (fun c11 => ?_) (fun c11 => ?_)
            · refine ax_iconst (v := 1) dX1_allowsParameters_82 (by decide) ?_
              refine ax_goto (tgt := 87) dX1_allowsParameters_83 (by decide) ?_
              repeat rw [if_pos c10] at J87
              repeat rw [if_pos c11] at J87
              first | exact J87 | contradiction
            · refine ax_aload_n dX1_allowsParameters_66 rfl ?_
              refine ax_iload_n dX1_allowsParameters_67 rfl ?_
              refine ax_callV (b := a) (av := [.int p2]) (rest := []) (mc' := 0) (ms' := 0) dX1_allowsParameters_68 rfl lkX1_41 (ax_w_get hn (i := 0) rfl) rfl (Nat.le_of_ble_eq_true rfl) (Nat.le_of_ble_eq_true rfl) (Nat.le_refl 0) (Nat.le_refl 0) (ax_eqh (ax_w_sub (l := [(a, .inr (1, [.int lo, .int hi, .int ty, .int nc, .ref gO, .ref gP, .ref gT, .ref gC]))]) (lc := [(a, .inr (1, [.int lo, .int hi, .int ty, .int nc, .ref gO, .ref gP, .ref gT, .ref gC]))]) hn [0] rfl).symm (ctX1_hasType _ _ a lo hi ty nc gO gP gT gC p2 hn)) (fun E9 h9 q9 => by cases q9.1) (fun v9 h9 q9 => ?_)
              obtain ⟨e9, rfl⟩ := q9
              cases e9
              refine ax_eqh (ax_w_ov (l := [(a, .inr (1, [.int lo, .int hi, .int ty, .int nc, .ref gO, .ref gP, .ref gT, .ref gC]))]) (lc := [(a, .inr (1, [.int lo, .int hi, .int ty, .int nc, .ref gO, .ref gP, .ref gT, .ref gC]))]) (l' := [(a, .inr (1, [.int lo, .int hi, .int ty, .int nc, .ref gO, .ref gP, .ref gT, .ref gC]))]) hn [0] rfl rfl) ?_
              show AW G mX1_allowsParameters (d + 2) 0 0 Q 71 [(0, .ref a), (1, .int p1), (2, .int p2), (3, .int p3), (4, .int (if p1 = ((-1) : Int32) then (if p2 = ((-1) : Int32) then (if p2 = ((-1) : Int32) then (if p3 = ((-1) : Int32) then 0 else 1) else 0) else 1) else (if p2 = ((-1) : Int32) then (if p3 = ((-1) : Int32) then 0 else 1) else 0)))] [.int (if p2 < 0 then 0 else (if ty ≤ p2 then 0 else 1))] _ 0 0
              refine ax_if_eq (tgt := 82) dX1_allowsParameters_71 (by decide) (fun c12 => ?_) (fun c12 => ?_)
              · refine ax_iconst (v := 1) dX1_allowsParameters_82 (by decide) ?_
                refine ax_goto (tgt := 87) dX1_allowsParameters_83 (by decide) ?_
                repeat rw [if_pos c10] at J87
                repeat rw [if_neg c11] at J87
                repeat rw [if_pos c12] at J87
                first | exact J87 | contradiction
              · refine ax_aload_n dX1_allowsParameters_74 rfl ?_
                refine ax_iload_n dX1_allowsParameters_75 rfl ?_
                refine ax_callV (b := a) (av := [.int p3]) (rest := []) (mc' := 0) (ms' := 0) dX1_allowsParameters_76 rfl lkX1_41 (ax_w_get hn (i := 0) rfl) rfl (Nat.le_of_ble_eq_true rfl) (Nat.le_of_ble_eq_true rfl) (Nat.le_refl 0) (Nat.le_refl 0) (ax_eqh (ax_w_sub (l := [(a, .inr (1, [.int lo, .int hi, .int ty, .int nc, .ref gO, .ref gP, .ref gT, .ref gC]))]) (lc := [(a, .inr (1, [.int lo, .int hi, .int ty, .int nc, .ref gO, .ref gP, .ref gT, .ref gC]))]) hn [0] rfl).symm (ctX1_hasType _ _ a lo hi ty nc gO gP gT gC p3 hn)) (fun E9 h9 q9 => by cases q9.1) (fun v9 h9 q9 => ?_)
                obtain ⟨e9, rfl⟩ := q9
                cases e9
                refine ax_eqh (ax_w_ov (l := [(a, .inr (1, [.int lo, .int hi, .int ty, .int nc, .ref gO, .ref gP, .ref gT, .ref gC]))]) (lc := [(a, .inr (1, [.int lo, .int hi, .int ty, .int nc, .ref gO, .ref gP, .ref gT, .ref gC]))]) (l' := [(a, .inr (1, [.int lo, .int hi, .int ty, .int nc, .ref gO, .ref gP, .ref gT, .ref gC]))]) hn [0] rfl rfl) ?_
                show AW G mX1_allowsParameters (d + 2) 0 0 Q 79 [(0, .ref a), (1, .int p1), (2, .int p2), (3, .int p3), (4, .int (if p1 = ((-1) : Int32) then (if p2 = ((-1) : Int32) then (if p2 = ((-1) : Int32) then (if p3 = ((-1) : Int32) then 0 else 1) else 0) else 1) else (if p2 = ((-1) : Int32) then (if p3 = ((-1) : Int32) then 0 else 1) else 0)))] [.int (if p3 < 0 then 0 else (if ty ≤ p3 then 0 else 1))] _ 0 0
                refine ax_if_ne (tgt := 86) dX1_allowsParameters_79 (by decide) (fun c13 => ?_) (fun c13 => ?_)
                · refine ax_iconst (v := 0) dX1_allowsParameters_86 (by decide) ?_
                  repeat rw [if_pos c10] at J87
                  repeat rw [if_neg c11] at J87
                  repeat rw [if_neg c12] at J87
                  repeat rw [if_neg c13] at J87
                  first | exact J87 | contradiction
                · refine ax_iconst (v := 1) dX1_allowsParameters_82 (by decide) ?_
                  refine ax_goto (tgt := 87) dX1_allowsParameters_83 (by decide) ?_
                  repeat rw [if_pos c10] at J87
                  repeat rw [if_neg c11] at J87
                  repeat rw [if_neg c12] at J87
                  repeat rw [if_pos c13] at J87
                  first | exact J87 | contradiction
        refine ax_icmp_ne (tgt := 36) dX1_allowsParameters_28 (by decide) (fun c4 => ?_) (fun c4 => ?_)
        · refine ax_iload_n dX1_allowsParameters_36 rfl ?_
          refine ax_iconst (v := (-1)) dX1_allowsParameters_37 (by decide) ?_
          refine ax_icmp_ne (tgt := 50) dX1_allowsParameters_38 (by decide) (fun c8 => ?_) (fun c8 => ?_)
          · refine ax_iconst (v := 0) dX1_allowsParameters_50 (by decide) ?_
            repeat rw [if_neg c4] at J51
            repeat rw [if_neg c8] at J51
            first | exact J51 | contradiction
          · refine ax_iload_n dX1_allowsParameters_41 rfl ?_
            refine ax_iconst (v := (-1)) dX1_allowsParameters_42 (by decide) ?_
            refine ax_icmp_eq (tgt := 50) dX1_allowsParameters_43 (by decide) (fun c9 => ?_) (fun c9 => ?_)
            · refine ax_iconst (v := 0) dX1_allowsParameters_50 (by decide) ?_
              repeat rw [if_neg c4] at J51
              repeat rw [if_pos c8] at J51
              repeat rw [if_pos c9] at J51
              first | exact J51 | contradiction
            · refine ax_iconst (v := 1) dX1_allowsParameters_46 (by decide) ?_
              refine ax_goto (tgt := 51) dX1_allowsParameters_47 (by decide) ?_
              repeat rw [if_neg c4] at J51
              repeat rw [if_pos c8] at J51
              repeat rw [if_neg c9] at J51
              first | exact J51 | contradiction
        · refine ax_iload_n dX1_allowsParameters_31 rfl ?_
          refine ax_iconst (v := (-1)) dX1_allowsParameters_32 (by decide) ?_
          refine ax_icmp_ne (tgt := 46) dX1_allowsParameters_33 (by decide) (fun c5 => ?_) (fun c5 => ?_)
          · refine ax_iconst (v := 1) dX1_allowsParameters_46 (by decide) ?_
            refine ax_goto (tgt := 51) dX1_allowsParameters_47 (by decide) ?_
            repeat rw [if_pos c4] at J51
            repeat rw [if_neg c5] at J51
            first | exact J51 | contradiction
          · refine ax_iload_n dX1_allowsParameters_36 rfl ?_
            refine ax_iconst (v := (-1)) dX1_allowsParameters_37 (by decide) ?_
            refine ax_icmp_ne (tgt := 50) dX1_allowsParameters_38 (by decide) (fun c6 => ?_) (fun c6 => ?_)
            · refine ax_iconst (v := 0) dX1_allowsParameters_50 (by decide) ?_
              repeat rw [if_pos c4] at J51
              repeat rw [if_pos c5] at J51
              repeat rw [if_neg c6] at J51
              first | exact J51 | contradiction
            · refine ax_iload_n dX1_allowsParameters_41 rfl ?_
              refine ax_iconst (v := (-1)) dX1_allowsParameters_42 (by decide) ?_
              refine ax_icmp_eq (tgt := 50) dX1_allowsParameters_43 (by decide) (fun c7 => ?_) (fun c7 => ?_)
              · refine ax_iconst (v := 0) dX1_allowsParameters_50 (by decide) ?_
                repeat rw [if_pos c4] at J51
                repeat rw [if_pos c5] at J51
                repeat rw [if_pos c6] at J51
                repeat rw [if_pos c7] at J51
                first | exact J51 | contradiction
              · refine ax_iconst (v := 1) dX1_allowsParameters_46 (by decide) ?_
                refine ax_goto (tgt := 51) dX1_allowsParameters_47 (by decide) ?_
                repeat rw [if_pos c4] at J51
                repeat rw [if_pos c5] at J51
                repeat rw [if_pos c6] at J51
                repeat rw [if_neg c7] at J51
                first | exact J51 | contradiction
      · refine ax_iconst (v := 0) dX1_allowsParameters_24 (by decide) ?_
        exact ax_iret (st := []) dX1_allowsParameters_25 rfl (by repeat (first | rfl | split)) (by rw [hQ]; refine ⟨?_, ?_⟩ <;> (repeat rw [if_neg c1]) <;> (repeat rw [if_neg c2]) <;> (repeat rw [if_pos c3]) <;> (try rfl))
set_option maxRecDepth 100000 in
set_option maxHeartbeats 4000000 in
theorem ctX5_partsDiffer {G : ax_G} (d : Nat) (h : ax_H) (a n p : Nat) (V : Nat → Int32) (hn : ([a] : List Nat).Nodup) : AW G mX5_partsDiffer d 0 0 (fun r h1 => r = .inl (some (.int (((V 7) - 1) - (V 8)))) ∧ h1 = ax_w h [(a, .inr (5, [.int (V 0), .int (V 1), .int (V 2), .int (V 3), .ref n, .ref p, .int (V 6), .int (V 7), .int (V 8), .int (V 9), .int (V 10), .int (V 11), .int (V 12), .int (V 13), .int (V 14), .int (V 15)]))]) 0 [(0, .ref a)] [] (ax_w h [(a, .inr (5, [.int (V 0), .int (V 1), .int (V 2), .int (V 3), .ref n, .ref p, .int (V 6), .int (V 7), .int (V 8), .int (V 9), .int (V 10), .int (V 11), .int (V 12), .int (V 13), .int (V 14), .int (V 15)]))]) 0 0 := by
  obtain ⟨Q, hQ⟩ : ∃ Q : ax_P, Q = (fun r h1 => r = .inl (some (.int (((V 7) - 1) - (V 8)))) ∧ h1 = ax_w h [(a, .inr (5, [.int (V 0), .int (V 1), .int (V 2), .int (V 3), .ref n, .ref p, .int (V 6), .int (V 7), .int (V 8), .int (V 9), .int (V 10), .int (V 11), .int (V 12), .int (V 13), .int (V 14), .int (V 15)]))]) := ⟨_, rfl⟩
  rw [← hQ]
  refine ax_aload_n dX5_partsDiffer_0 rfl ?_
  refine ax_wget 0 hn rfl dX5_partsDiffer_1 fkX5_35 rfl ?_
  refine ax_iconst (v := 1) dX5_partsDiffer_4 (by decide) ?_
  refine ax_isub dX5_partsDiffer_5 ?_
  refine ax_aload_n dX5_partsDiffer_6 rfl ?_
  refine ax_wget 0 hn rfl dX5_partsDiffer_7 fkX5_38 rfl ?_
  refine ax_isub dX5_partsDiffer_10 ?_
  exact ax_iret (st := []) dX5_partsDiffer_11 rfl (by repeat (first | rfl | split)) (by rw [hQ]; refine ⟨?_, ?_⟩ <;> (try rfl))
set_option maxRecDepth 100000 in
set_option maxHeartbeats 4000000 in
theorem ctX5_codeLength {G : ax_G} (d : Nat) (h : ax_H) (a n p : Nat) (V : Nat → Int32) (hn : ([a] : List Nat).Nodup) : AW G mX5_codeLength d 0 0 (fun r h1 => r = .inl (some (.int ((V 6) + (V 10)))) ∧ h1 = ax_w h [(a, .inr (5, [.int (V 0), .int (V 1), .int (V 2), .int (V 3), .ref n, .ref p, .int (V 6), .int (V 7), .int (V 8), .int (V 9), .int (V 10), .int (V 11), .int (V 12), .int (V 13), .int (V 14), .int (V 15)]))]) 0 [(0, .ref a)] [] (ax_w h [(a, .inr (5, [.int (V 0), .int (V 1), .int (V 2), .int (V 3), .ref n, .ref p, .int (V 6), .int (V 7), .int (V 8), .int (V 9), .int (V 10), .int (V 11), .int (V 12), .int (V 13), .int (V 14), .int (V 15)]))]) 0 0 := by
  obtain ⟨Q, hQ⟩ : ∃ Q : ax_P, Q = (fun r h1 => r = .inl (some (.int ((V 6) + (V 10)))) ∧ h1 = ax_w h [(a, .inr (5, [.int (V 0), .int (V 1), .int (V 2), .int (V 3), .ref n, .ref p, .int (V 6), .int (V 7), .int (V 8), .int (V 9), .int (V 10), .int (V 11), .int (V 12), .int (V 13), .int (V 14), .int (V 15)]))]) := ⟨_, rfl⟩
  rw [← hQ]
  refine ax_aload_n dX5_codeLength_0 rfl ?_
  refine ax_wget 0 hn rfl dX5_codeLength_1 fkX5_32 rfl ?_
  refine ax_aload_n dX5_codeLength_4 rfl ?_
  refine ax_wget 0 hn rfl dX5_codeLength_5 fkX5_44 rfl ?_
  refine ax_iadd dX5_codeLength_8 ?_
  exact ax_iret (st := []) dX5_codeLength_9 rfl (by repeat (first | rfl | split)) (by rw [hQ]; refine ⟨?_, ?_⟩ <;> (try rfl))
set_option maxRecDepth 100000 in
set_option maxHeartbeats 4000000 in
theorem ctX5_fits {G : ax_G} (d : Nat) (h : ax_H) (a n p : Nat) (V : Nat → Int32) (k : Int32) (hb : narrow .boolean (.int (V 15)) = .int (V 15)) (hn : ([a] : List Nat).Nodup) : AW G mX5_fits (d + 1) 0 0 (fun r h1 => r = .inl (some (.int (if k = 1 then (V 15) else (if k = 2 then (if (V 9) < 0 then 1 else (if (V 12) < (V 9) then 0 else 1)) else (if k = 3 then (if (((V 7) - 1) - (V 8)) = 0 then 1 else 0) else (if k = 4 then (if (1 : Int32) < (((V 7) - 1) - (V 8)) then 0 else 1) else (if k = 5 then (if ((V 11) - (V 11) / 2 * 2) = 0 then 1 else 0) else 1))))))) ∧ h1 = ax_w h [(a, .inr (5, [.int (V 0), .int (V 1), .int (V 2), .int (V 3), .ref n, .ref p, .int (V 6), .int (V 7), .int (V 8), .int (V 9), .int (V 10), .int (V 11), .int (V 12), .int (V 13), .int (V 14), .int (V 15)]))]) 0 [(0, .ref a), (1, .int k)] [] (ax_w h [(a, .inr (5, [.int (V 0), .int (V 1), .int (V 2), .int (V 3), .ref n, .ref p, .int (V 6), .int (V 7), .int (V 8), .int (V 9), .int (V 10), .int (V 11), .int (V 12), .int (V 13), .int (V 14), .int (V 15)]))]) 0 0 := by
  obtain ⟨Q, hQ⟩ : ∃ Q : ax_P, Q = (fun r h1 => r = .inl (some (.int (if k = 1 then (V 15) else (if k = 2 then (if (V 9) < 0 then 1 else (if (V 12) < (V 9) then 0 else 1)) else (if k = 3 then (if (((V 7) - 1) - (V 8)) = 0 then 1 else 0) else (if k = 4 then (if (1 : Int32) < (((V 7) - 1) - (V 8)) then 0 else 1) else (if k = 5 then (if ((V 11) - (V 11) / 2 * 2) = 0 then 1 else 0) else 1))))))) ∧ h1 = ax_w h [(a, .inr (5, [.int (V 0), .int (V 1), .int (V 2), .int (V 3), .ref n, .ref p, .int (V 6), .int (V 7), .int (V 8), .int (V 9), .int (V 10), .int (V 11), .int (V 12), .int (V 13), .int (V 14), .int (V 15)]))]) := ⟨_, rfl⟩
  rw [← hQ]
  refine ax_iload_n dX5_fits_0 rfl ?_
  by_cases c6 : k = 1
  · subst c6
    refine ax_tabIn (tgt := 36) dX5_fits_1 (by decide) (by decide) rfl (by decide) ?_
    refine ax_aload_n dX5_fits_36 rfl ?_
    refine ax_wget 0 hn rfl dX5_fits_37 fkX5_59 rfl ?_
    exact ax_iret (st := []) dX5_fits_40 rfl (by repeat (first | rfl | exact hb | split)) (by rw [hQ]; refine ⟨?_, ?_⟩ <;> (try rfl))
  · skip
    by_cases c7 : k = 2
    · subst c7
      refine ax_tabIn (tgt := 41) dX5_fits_1 (by decide) (by decide) rfl (by decide) ?_
      refine ax_aload_n dX5_fits_41 rfl ?_
      refine ax_wget 0 hn rfl dX5_fits_42 fkX5_41 rfl ?_
      have J64 : AW G mX5_fits (d + 1) 0 0 Q 64 [(0, .ref a), (1, .int 2)] [.int (if (V 9) < 0 then 1 else (if (V 12) < (V 9) then 0 else 1))] (ax_w h [(a, .inr (5, [.int (V 0), .int (V 1), .int (V 2), .int (V 3), .ref n, .ref p, .int (V 6), .int (V 7), .int (V 8), .int (V 9), .int (V 10), .int (V 11), .int (V 12), .int (V 13), .int (V 14), .int (V 15)]))]) 0 0 := by
        exact ax_iret (st := []) dX5_fits_64 rfl (by repeat (first | rfl | exact hb | split)) (by rw [hQ]; refine ⟨?_, ?_⟩ <;> (repeat rw [if_neg c6]) <;> (try rfl))
      refine ax_if_lt (tgt := 59) dX5_fits_45 (by decide) (fun c1 => ?_) (fun c1 => ?_)
      · refine ax_iconst (v := 1) dX5_fits_59 (by decide) ?_
        refine ax_goto (tgt := 64) dX5_fits_60 (by decide) ?_
        repeat rw [if_pos c1] at J64
        first | exact J64 | contradiction
      · refine ax_aload_n dX5_fits_48 rfl ?_
        refine ax_wget 0 hn rfl dX5_fits_49 fkX5_41 rfl ?_
        refine ax_aload_n dX5_fits_52 rfl ?_
        refine ax_wget 0 hn rfl dX5_fits_53 fkX5_50 rfl ?_
        refine ax_icmp_gt (tgt := 63) dX5_fits_56 (by decide) (fun c2 => ?_) (fun c2 => ?_)
        · refine ax_iconst (v := 0) dX5_fits_63 (by decide) ?_
          repeat rw [if_neg c1] at J64
          repeat rw [if_pos c2] at J64
          first | exact J64 | contradiction
        · refine ax_iconst (v := 1) dX5_fits_59 (by decide) ?_
          refine ax_goto (tgt := 64) dX5_fits_60 (by decide) ?_
          repeat rw [if_neg c1] at J64
          repeat rw [if_neg c2] at J64
          first | exact J64 | contradiction
    · skip
      by_cases c8 : k = 3
      · subst c8
        refine ax_tabIn (tgt := 65) dX5_fits_1 (by decide) (by decide) rfl (by decide) ?_
        refine ax_aload_n dX5_fits_65 rfl ?_
        refine ax_callV (b := a) (av := []) (rest := []) (mc' := 0) (ms' := 0) dX5_fits_66 rfl lkX5_67 (ax_w_get hn (i := 0) rfl) rfl (Nat.le_of_ble_eq_true rfl) (Nat.le_of_ble_eq_true rfl) (Nat.le_refl 0) (Nat.le_refl 0) (ax_eqh (ax_w_sub (l := [(a, .inr (5, [.int (V 0), .int (V 1), .int (V 2), .int (V 3), .ref n, .ref p, .int (V 6), .int (V 7), .int (V 8), .int (V 9), .int (V 10), .int (V 11), .int (V 12), .int (V 13), .int (V 14), .int (V 15)]))]) (lc := [(a, .inr (5, [.int (V 0), .int (V 1), .int (V 2), .int (V 3), .ref n, .ref p, .int (V 6), .int (V 7), .int (V 8), .int (V 9), .int (V 10), .int (V 11), .int (V 12), .int (V 13), .int (V 14), .int (V 15)]))]) hn [0] rfl).symm (ctX5_partsDiffer _ _ a n p V hn)) (fun E9 h9 q9 => by cases q9.1) (fun v9 h9 q9 => ?_)
        obtain ⟨e9, rfl⟩ := q9
        cases e9
        refine ax_eqh (ax_w_ov (l := [(a, .inr (5, [.int (V 0), .int (V 1), .int (V 2), .int (V 3), .ref n, .ref p, .int (V 6), .int (V 7), .int (V 8), .int (V 9), .int (V 10), .int (V 11), .int (V 12), .int (V 13), .int (V 14), .int (V 15)]))]) (lc := [(a, .inr (5, [.int (V 0), .int (V 1), .int (V 2), .int (V 3), .ref n, .ref p, .int (V 6), .int (V 7), .int (V 8), .int (V 9), .int (V 10), .int (V 11), .int (V 12), .int (V 13), .int (V 14), .int (V 15)]))]) (l' := [(a, .inr (5, [.int (V 0), .int (V 1), .int (V 2), .int (V 3), .ref n, .ref p, .int (V 6), .int (V 7), .int (V 8), .int (V 9), .int (V 10), .int (V 11), .int (V 12), .int (V 13), .int (V 14), .int (V 15)]))]) hn [0] rfl rfl) ?_
        show AW G mX5_fits (d + 1) 0 0 Q 69 [(0, .ref a), (1, .int 3)] [.int (((V 7) - 1) - (V 8))] _ 0 0
        have J77 : AW G mX5_fits (d + 1) 0 0 Q 77 [(0, .ref a), (1, .int 3)] [.int (if (((V 7) - 1) - (V 8)) = 0 then 1 else 0)] (ax_w h [(a, .inr (5, [.int (V 0), .int (V 1), .int (V 2), .int (V 3), .ref n, .ref p, .int (V 6), .int (V 7), .int (V 8), .int (V 9), .int (V 10), .int (V 11), .int (V 12), .int (V 13), .int (V 14), .int (V 15)]))]) 0 0 := by
          exact ax_iret (st := []) dX5_fits_77 rfl (by repeat (first | rfl | exact hb | split)) (by rw [hQ]; refine ⟨?_, ?_⟩ <;> (repeat rw [if_neg c6]) <;> (repeat rw [if_neg c7]) <;> (try rfl))
        refine ax_if_ne (tgt := 76) dX5_fits_69 (by decide) (fun c3 => ?_) (fun c3 => ?_)
        · refine ax_iconst (v := 0) dX5_fits_76 (by decide) ?_
          repeat rw [if_neg c3] at J77
          first | exact J77 | contradiction
        · refine ax_iconst (v := 1) dX5_fits_72 (by decide) ?_
          refine ax_goto (tgt := 77) dX5_fits_73 (by decide) ?_
          repeat rw [if_pos c3] at J77
          first | exact J77 | contradiction
      · skip
        by_cases c9 : k = 4
        · subst c9
          refine ax_tabIn (tgt := 78) dX5_fits_1 (by decide) (by decide) rfl (by decide) ?_
          refine ax_aload_n dX5_fits_78 rfl ?_
          refine ax_callV (b := a) (av := []) (rest := []) (mc' := 0) (ms' := 0) dX5_fits_79 rfl lkX5_67 (ax_w_get hn (i := 0) rfl) rfl (Nat.le_of_ble_eq_true rfl) (Nat.le_of_ble_eq_true rfl) (Nat.le_refl 0) (Nat.le_refl 0) (ax_eqh (ax_w_sub (l := [(a, .inr (5, [.int (V 0), .int (V 1), .int (V 2), .int (V 3), .ref n, .ref p, .int (V 6), .int (V 7), .int (V 8), .int (V 9), .int (V 10), .int (V 11), .int (V 12), .int (V 13), .int (V 14), .int (V 15)]))]) (lc := [(a, .inr (5, [.int (V 0), .int (V 1), .int (V 2), .int (V 3), .ref n, .ref p, .int (V 6), .int (V 7), .int (V 8), .int (V 9), .int (V 10), .int (V 11), .int (V 12), .int (V 13), .int (V 14), .int (V 15)]))]) hn [0] rfl).symm (ctX5_partsDiffer _ _ a n p V hn)) (fun E9 h9 q9 => by cases q9.1) (fun v9 h9 q9 => ?_)
          obtain ⟨e9, rfl⟩ := q9
          cases e9
          refine ax_eqh (ax_w_ov (l := [(a, .inr (5, [.int (V 0), .int (V 1), .int (V 2), .int (V 3), .ref n, .ref p, .int (V 6), .int (V 7), .int (V 8), .int (V 9), .int (V 10), .int (V 11), .int (V 12), .int (V 13), .int (V 14), .int (V 15)]))]) (lc := [(a, .inr (5, [.int (V 0), .int (V 1), .int (V 2), .int (V 3), .ref n, .ref p, .int (V 6), .int (V 7), .int (V 8), .int (V 9), .int (V 10), .int (V 11), .int (V 12), .int (V 13), .int (V 14), .int (V 15)]))]) (l' := [(a, .inr (5, [.int (V 0), .int (V 1), .int (V 2), .int (V 3), .ref n, .ref p, .int (V 6), .int (V 7), .int (V 8), .int (V 9), .int (V 10), .int (V 11), .int (V 12), .int (V 13), .int (V 14), .int (V 15)]))]) hn [0] rfl rfl) ?_
          show AW G mX5_fits (d + 1) 0 0 Q 82 [(0, .ref a), (1, .int 4)] [.int (((V 7) - 1) - (V 8))] _ 0 0
          refine ax_iconst (v := 1) dX5_fits_82 (by decide) ?_
          have J91 : AW G mX5_fits (d + 1) 0 0 Q 91 [(0, .ref a), (1, .int 4)] [.int (if (1 : Int32) < (((V 7) - 1) - (V 8)) then 0 else 1)] (ax_w h [(a, .inr (5, [.int (V 0), .int (V 1), .int (V 2), .int (V 3), .ref n, .ref p, .int (V 6), .int (V 7), .int (V 8), .int (V 9), .int (V 10), .int (V 11), .int (V 12), .int (V 13), .int (V 14), .int (V 15)]))]) 0 0 := by
            exact ax_iret (st := []) dX5_fits_91 rfl (by repeat (first | rfl | exact hb | split)) (by rw [hQ]; refine ⟨?_, ?_⟩ <;> (repeat rw [if_neg c6]) <;> (repeat rw [if_neg c7]) <;> (repeat rw [if_neg c8]) <;> (try rfl))
          refine ax_icmp_gt (tgt := 90) dX5_fits_83 (by decide) (fun c4 => ?_) (fun c4 => ?_)
          · refine ax_iconst (v := 0) dX5_fits_90 (by decide) ?_
            repeat rw [if_pos c4] at J91
            first | exact J91 | contradiction
          · refine ax_iconst (v := 1) dX5_fits_86 (by decide) ?_
            refine ax_goto (tgt := 91) dX5_fits_87 (by decide) ?_
            repeat rw [if_neg c4] at J91
            first | exact J91 | contradiction
        · skip
          by_cases c10 : k = 5
          · subst c10
            refine ax_tabIn (tgt := 92) dX5_fits_1 (by decide) (by decide) rfl (by decide) ?_
            refine ax_aload_n dX5_fits_92 rfl ?_
            refine ax_wget 0 hn rfl dX5_fits_93 fkX5_47 rfl ?_
            refine ax_iconst (v := 2) dX5_fits_96 (by decide) ?_
            refine ax_irem dX5_fits_97 (by decide) ?_
            have J106 : AW G mX5_fits (d + 1) 0 0 Q 106 [(0, .ref a), (1, .int 5)] [.int (if ((V 11) - (V 11) / 2 * 2) = 0 then 1 else 0)] (ax_w h [(a, .inr (5, [.int (V 0), .int (V 1), .int (V 2), .int (V 3), .ref n, .ref p, .int (V 6), .int (V 7), .int (V 8), .int (V 9), .int (V 10), .int (V 11), .int (V 12), .int (V 13), .int (V 14), .int (V 15)]))]) 0 0 := by
              exact ax_iret (st := []) dX5_fits_106 rfl (by repeat (first | rfl | exact hb | split)) (by rw [hQ]; refine ⟨?_, ?_⟩ <;> (repeat rw [if_neg c6]) <;> (repeat rw [if_neg c7]) <;> (repeat rw [if_neg c8]) <;> (repeat rw [if_neg c9]) <;> (try rfl))
            refine ax_if_ne (tgt := 105) dX5_fits_98 (by decide) (fun c5 => ?_) (fun c5 => ?_)
            · refine ax_iconst (v := 0) dX5_fits_105 (by decide) ?_
              repeat rw [if_neg c5] at J106
              first | exact J106 | contradiction
            · refine ax_iconst (v := 1) dX5_fits_101 (by decide) ?_
              refine ax_goto (tgt := 106) dX5_fits_102 (by decide) ?_
              repeat rw [if_pos c5] at J106
              first | exact J106 | contradiction
          · skip
            refine ax_tabOut (tgt := 107) dX5_fits_1 (ax_out5 (lv_neT c6 (a := 1) (by decide)) (lv_neT c7 (a := 2) (by decide)) (lv_neT c8 (a := 3) (by decide)) (lv_neT c9 (a := 4) (by decide)) (lv_neT c10 (a := 5) (by decide))) (by decide) ?_
            refine ax_iconst (v := 1) dX5_fits_107 (by decide) ?_
            exact ax_iret (st := []) dX5_fits_108 rfl (by repeat (first | rfl | exact hb | split)) (by rw [hQ]; refine ⟨?_, ?_⟩ <;> (repeat rw [if_neg c6]) <;> (repeat rw [if_neg c7]) <;> (repeat rw [if_neg c8]) <;> (repeat rw [if_neg c9]) <;> (repeat rw [if_neg c10]) <;> (try rfl))
set_option maxRecDepth 100000 in
set_option maxHeartbeats 4000000 in
theorem ctX5_joinInts {G : ax_G} (d : Nat) (h : ax_H) (a n p : Nat) (V : Nat → Int32) (k1 k2 k3 : Int32) (hn : ([a] : List Nat).Nodup) : AW G mX5_joinInts d 0 0 (fun r h1 => r = .inl none ∧ h1 = ax_w h [(a, .inr (5, [.int (V 0), .int (V 1), .int (V 2), .int (V 3), .ref n, .ref p, .int (V 6), .int (V 7), .int (V 8), .int (V 9), .int (V 10), .int (V 11), .int (if (V 10) = 0 then k3 else (if (V 12) ≤ k3 then (V 12) else k3)), .int k2, .int (if (V 10) = 0 then k1 else (V 14)), .int (if (V 10) = 0 then (V 15) else (if (V 15) = 0 then 0 else (if k1 ≤ (V 13) then 0 else 1)))]))]) 0 [(0, .ref a), (1, .int k1), (2, .int k2), (3, .int k3)] [] (ax_w h [(a, .inr (5, [.int (V 0), .int (V 1), .int (V 2), .int (V 3), .ref n, .ref p, .int (V 6), .int (V 7), .int (V 8), .int (V 9), .int (V 10), .int (V 11), .int (V 12), .int (V 13), .int (V 14), .int (V 15)]))]) 0 0 := by
  obtain ⟨Q, hQ⟩ : ∃ Q : ax_P, Q = (fun r h1 => r = .inl none ∧ h1 = ax_w h [(a, .inr (5, [.int (V 0), .int (V 1), .int (V 2), .int (V 3), .ref n, .ref p, .int (V 6), .int (V 7), .int (V 8), .int (V 9), .int (V 10), .int (V 11), .int (if (V 10) = 0 then k3 else (if (V 12) ≤ k3 then (V 12) else k3)), .int k2, .int (if (V 10) = 0 then k1 else (V 14)), .int (if (V 10) = 0 then (V 15) else (if (V 15) = 0 then 0 else (if k1 ≤ (V 13) then 0 else 1)))]))]) := ⟨_, rfl⟩
  rw [← hQ]
  refine ax_aload_n dX5_joinInts_0 rfl ?_
  refine ax_wget 0 hn rfl dX5_joinInts_1 fkX5_44 rfl ?_
  have J64 : AW G mX5_joinInts d 0 0 Q 64 [(0, .ref a), (1, .int k1), (2, .int k2), (3, .int k3)] [] (ax_w h [(a, .inr (5, [.int (V 0), .int (V 1), .int (V 2), .int (V 3), .ref n, .ref p, .int (V 6), .int (V 7), .int (V 8), .int (V 9), .int (V 10), .int (V 11), .int (if (V 10) = 0 then k3 else (if (V 12) ≤ k3 then (V 12) else k3)), .int (V 13), .int (if (V 10) = 0 then k1 else (V 14)), .int (if (V 10) = 0 then (V 15) else (if (V 15) = 0 then 0 else (if k1 ≤ (V 13) then 0 else 1)))]))]) 0 0 := by
    refine ax_aload_n dX5_joinInts_64 rfl ?_
    refine ax_iload_n dX5_joinInts_65 rfl ?_
    refine ax_wput (l' := [(a, .inr (5, [.int (V 0), .int (V 1), .int (V 2), .int (V 3), .ref n, .ref p, .int (V 6), .int (V 7), .int (V 8), .int (V 9), .int (V 10), .int (V 11), .int (if (V 10) = 0 then k3 else (if (V 12) ≤ k3 then (V 12) else k3)), .int k2, .int (if (V 10) = 0 then k1 else (V 14)), .int (if (V 10) = 0 then (V 15) else (if (V 15) = 0 then 0 else (if k1 ≤ (V 13) then 0 else 1)))]))]) 0 hn rfl dX5_joinInts_66 fpX5_56 rfl rfl (Nat.le_of_ble_eq_true rfl) rfl ?_
    exact ax_vret (st := []) dX5_joinInts_69 rfl (by rw [hQ]; refine ⟨?_, ?_⟩ <;> (try rfl))
  refine ax_if_ne (tgt := 20) dX5_joinInts_4 (by decide) (fun c1 => ?_) (fun c1 => ?_)
  · refine ax_aload_n dX5_joinInts_20 rfl ?_
    refine ax_aload_n dX5_joinInts_21 rfl ?_
    refine ax_wget 0 hn rfl dX5_joinInts_22 fkX5_59 rfl ?_
    have J41 : AW G mX5_joinInts d 0 0 Q 41 [(0, .ref a), (1, .int k1), (2, .int k2), (3, .int k3)] [.int (if (V 15) = 0 then 0 else (if k1 ≤ (V 13) then 0 else 1)), .ref a] (ax_w h [(a, .inr (5, [.int (V 0), .int (V 1), .int (V 2), .int (V 3), .ref n, .ref p, .int (V 6), .int (V 7), .int (V 8), .int (V 9), .int (V 10), .int (V 11), .int (V 12), .int (V 13), .int (V 14), .int (V 15)]))]) 0 0 := by
      refine ax_wput (l' := [(a, .inr (5, [.int (V 0), .int (V 1), .int (V 2), .int (V 3), .ref n, .ref p, .int (V 6), .int (V 7), .int (V 8), .int (V 9), .int (V 10), .int (V 11), .int (V 12), .int (V 13), .int (V 14), .int (if (V 15) = 0 then 0 else (if k1 ≤ (V 13) then 0 else 1))]))]) 0 hn rfl dX5_joinInts_41 fpX5_59 (by repeat (first | rfl | split)) (by repeat (first | rfl | split)) (Nat.le_of_ble_eq_true rfl) rfl ?_
      refine ax_aload_n dX5_joinInts_44 rfl ?_
      refine ax_iload_n dX5_joinInts_45 rfl ?_
      refine ax_aload_n dX5_joinInts_46 rfl ?_
      refine ax_wget 0 hn rfl dX5_joinInts_47 fkX5_50 rfl ?_
      have J61 : AW G mX5_joinInts d 0 0 Q 61 [(0, .ref a), (1, .int k1), (2, .int k2), (3, .int k3)] [.int (if (V 12) ≤ k3 then (V 12) else k3), .ref a] (ax_w h [(a, .inr (5, [.int (V 0), .int (V 1), .int (V 2), .int (V 3), .ref n, .ref p, .int (V 6), .int (V 7), .int (V 8), .int (V 9), .int (V 10), .int (V 11), .int (V 12), .int (V 13), .int (V 14), .int (if (V 15) = 0 then 0 else (if k1 ≤ (V 13) then 0 else 1))]))]) 0 0 := by
        refine ax_wput (l' := [(a, .inr (5, [.int (V 0), .int (V 1), .int (V 2), .int (V 3), .ref n, .ref p, .int (V 6), .int (V 7), .int (V 8), .int (V 9), .int (V 10), .int (V 11), .int (if (V 12) ≤ k3 then (V 12) else k3), .int (V 13), .int (V 14), .int (if (V 15) = 0 then 0 else (if k1 ≤ (V 13) then 0 else 1))]))]) 0 hn rfl dX5_joinInts_61 fpX5_50 rfl rfl (Nat.le_of_ble_eq_true rfl) rfl ?_
        repeat rw [if_neg c1] at J64
        first | exact J64 | contradiction
      refine ax_icmp_ge (tgt := 57) dX5_joinInts_50 (by decide) (fun c4 => ?_) (fun c4 => ?_)
      · refine ax_aload_n dX5_joinInts_57 rfl ?_
        refine ax_wget 0 hn rfl dX5_joinInts_58 fkX5_50 rfl ?_
        repeat rw [if_pos c4] at J61
        first | exact J61 | contradiction
      · refine ax_iload_n dX5_joinInts_53 rfl ?_
        refine ax_goto (tgt := 61) dX5_joinInts_54 (by decide) ?_
        repeat rw [if_neg c4] at J61
        first | exact J61 | contradiction
    refine ax_if_eq (tgt := 40) dX5_joinInts_25 (by decide) (fun c2 => ?_) (fun c2 => ?_)
    · refine ax_iconst (v := 0) dX5_joinInts_40 (by decide) ?_
      repeat rw [if_pos c2] at J41
      first | exact J41 | contradiction
    · refine ax_aload_n dX5_joinInts_28 rfl ?_
      refine ax_wget 0 hn rfl dX5_joinInts_29 fkX5_56 rfl ?_
      refine ax_iload_n dX5_joinInts_32 rfl ?_
      refine ax_icmp_ge (tgt := 40) dX5_joinInts_33 (by decide) (fun c3 => ?_) (fun c3 => ?_)
      · refine ax_iconst (v := 0) dX5_joinInts_40 (by decide) ?_
        repeat rw [if_neg c2] at J41
        repeat rw [if_pos c3] at J41
        first | exact J41 | contradiction
      · refine ax_iconst (v := 1) dX5_joinInts_36 (by decide) ?_
        refine ax_goto (tgt := 41) dX5_joinInts_37 (by decide) ?_
        repeat rw [if_neg c2] at J41
        repeat rw [if_neg c3] at J41
        first | exact J41 | contradiction
  · refine ax_aload_n dX5_joinInts_7 rfl ?_
    refine ax_iload_n dX5_joinInts_8 rfl ?_
    refine ax_wput (l' := [(a, .inr (5, [.int (V 0), .int (V 1), .int (V 2), .int (V 3), .ref n, .ref p, .int (V 6), .int (V 7), .int (V 8), .int (V 9), .int (V 10), .int (V 11), .int (V 12), .int (V 13), .int k1, .int (V 15)]))]) 0 hn rfl dX5_joinInts_9 fpX5_53 rfl rfl (Nat.le_of_ble_eq_true rfl) rfl ?_
    refine ax_aload_n dX5_joinInts_12 rfl ?_
    refine ax_iload_n dX5_joinInts_13 rfl ?_
    refine ax_wput (l' := [(a, .inr (5, [.int (V 0), .int (V 1), .int (V 2), .int (V 3), .ref n, .ref p, .int (V 6), .int (V 7), .int (V 8), .int (V 9), .int (V 10), .int (V 11), .int k3, .int (V 13), .int k1, .int (V 15)]))]) 0 hn rfl dX5_joinInts_14 fpX5_50 rfl rfl (Nat.le_of_ble_eq_true rfl) rfl ?_
    refine ax_goto (tgt := 64) dX5_joinInts_17 (by decide) ?_
    repeat rw [if_pos c1] at J64
    first | exact J64 | contradiction
set_option maxRecDepth 100000 in
set_option maxHeartbeats 4000000 in
theorem ctX5_begin {G : ax_G} (d : Nat) (h : ax_H) (a n p : Nat) (V : Nat → Int32) (k1 k2 : Int32) (hn : ([a] : List Nat).Nodup) : AW G mX5_begin d 0 0 (fun r h1 => r = .inl none ∧ h1 = ax_w h [(a, .inr (5, [.int k1, .int (-1), .int k2, .int 0, .ref n, .ref p, .int 1, .int 1, .int 0, .int (-1), .int 0, .int 0, .int 0, .int 0, .int 0, .int 1]))]) 0 [(0, .ref a), (1, .int k1), (2, .int k2)] [] (ax_w h [(a, .inr (5, [.int (V 0), .int (V 1), .int (V 2), .int (V 3), .ref n, .ref p, .int (V 6), .int (V 7), .int (V 8), .int (V 9), .int (V 10), .int (V 11), .int (V 12), .int (V 13), .int (V 14), .int (V 15)]))]) 0 0 := by
  obtain ⟨Q, hQ⟩ : ∃ Q : ax_P, Q = (fun r h1 => r = .inl none ∧ h1 = ax_w h [(a, .inr (5, [.int k1, .int (-1), .int k2, .int 0, .ref n, .ref p, .int 1, .int 1, .int 0, .int (-1), .int 0, .int 0, .int 0, .int 0, .int 0, .int 1]))]) := ⟨_, rfl⟩
  rw [← hQ]
  refine ax_aload_n dX5_begin_0 rfl ?_
  refine ax_iload_n dX5_begin_1 rfl ?_
  refine ax_wput (l' := [(a, .inr (5, [.int k1, .int (V 1), .int (V 2), .int (V 3), .ref n, .ref p, .int (V 6), .int (V 7), .int (V 8), .int (V 9), .int (V 10), .int (V 11), .int (V 12), .int (V 13), .int (V 14), .int (V 15)]))]) 0 hn rfl dX5_begin_2 fpX5_19 rfl rfl (Nat.le_of_ble_eq_true rfl) rfl ?_
  refine ax_aload_n dX5_begin_5 rfl ?_
  refine ax_iconst (v := (-1)) dX5_begin_6 (by decide) ?_
  refine ax_wput (l' := [(a, .inr (5, [.int k1, .int (-1), .int (V 2), .int (V 3), .ref n, .ref p, .int (V 6), .int (V 7), .int (V 8), .int (V 9), .int (V 10), .int (V 11), .int (V 12), .int (V 13), .int (V 14), .int (V 15)]))]) 0 hn rfl dX5_begin_7 fpX5_23 rfl rfl (Nat.le_of_ble_eq_true rfl) rfl ?_
  refine ax_aload_n dX5_begin_10 rfl ?_
  refine ax_iload_n dX5_begin_11 rfl ?_
  refine ax_wput (l' := [(a, .inr (5, [.int k1, .int (-1), .int k2, .int (V 3), .ref n, .ref p, .int (V 6), .int (V 7), .int (V 8), .int (V 9), .int (V 10), .int (V 11), .int (V 12), .int (V 13), .int (V 14), .int (V 15)]))]) 0 hn rfl dX5_begin_12 fpX5_26 rfl rfl (Nat.le_of_ble_eq_true rfl) rfl ?_
  refine ax_aload_n dX5_begin_15 rfl ?_
  refine ax_iconst (v := 0) dX5_begin_16 (by decide) ?_
  refine ax_wput (l' := [(a, .inr (5, [.int k1, .int (-1), .int k2, .int 0, .ref n, .ref p, .int (V 6), .int (V 7), .int (V 8), .int (V 9), .int (V 10), .int (V 11), .int (V 12), .int (V 13), .int (V 14), .int (V 15)]))]) 0 hn rfl dX5_begin_17 fpX5_29 rfl rfl (Nat.le_of_ble_eq_true rfl) rfl ?_
  refine ax_aload_n dX5_begin_20 rfl ?_
  refine ax_iconst (v := 1) dX5_begin_21 (by decide) ?_
  refine ax_wput (l' := [(a, .inr (5, [.int k1, .int (-1), .int k2, .int 0, .ref n, .ref p, .int 1, .int (V 7), .int (V 8), .int (V 9), .int (V 10), .int (V 11), .int (V 12), .int (V 13), .int (V 14), .int (V 15)]))]) 0 hn rfl dX5_begin_22 fpX5_32 rfl rfl (Nat.le_of_ble_eq_true rfl) rfl ?_
  refine ax_aload_n dX5_begin_25 rfl ?_
  refine ax_iconst (v := 1) dX5_begin_26 (by decide) ?_
  refine ax_wput (l' := [(a, .inr (5, [.int k1, .int (-1), .int k2, .int 0, .ref n, .ref p, .int 1, .int 1, .int (V 8), .int (V 9), .int (V 10), .int (V 11), .int (V 12), .int (V 13), .int (V 14), .int (V 15)]))]) 0 hn rfl dX5_begin_27 fpX5_35 rfl rfl (Nat.le_of_ble_eq_true rfl) rfl ?_
  refine ax_aload_n dX5_begin_30 rfl ?_
  refine ax_iconst (v := 0) dX5_begin_31 (by decide) ?_
  refine ax_wput (l' := [(a, .inr (5, [.int k1, .int (-1), .int k2, .int 0, .ref n, .ref p, .int 1, .int 1, .int 0, .int (V 9), .int (V 10), .int (V 11), .int (V 12), .int (V 13), .int (V 14), .int (V 15)]))]) 0 hn rfl dX5_begin_32 fpX5_38 rfl rfl (Nat.le_of_ble_eq_true rfl) rfl ?_
  refine ax_aload_n dX5_begin_35 rfl ?_
  refine ax_iconst (v := (-1)) dX5_begin_36 (by decide) ?_
  refine ax_wput (l' := [(a, .inr (5, [.int k1, .int (-1), .int k2, .int 0, .ref n, .ref p, .int 1, .int 1, .int 0, .int (-1), .int (V 10), .int (V 11), .int (V 12), .int (V 13), .int (V 14), .int (V 15)]))]) 0 hn rfl dX5_begin_37 fpX5_41 rfl rfl (Nat.le_of_ble_eq_true rfl) rfl ?_
  refine ax_aload_n dX5_begin_40 rfl ?_
  refine ax_iconst (v := 0) dX5_begin_41 (by decide) ?_
  refine ax_wput (l' := [(a, .inr (5, [.int k1, .int (-1), .int k2, .int 0, .ref n, .ref p, .int 1, .int 1, .int 0, .int (-1), .int 0, .int (V 11), .int (V 12), .int (V 13), .int (V 14), .int (V 15)]))]) 0 hn rfl dX5_begin_42 fpX5_44 rfl rfl (Nat.le_of_ble_eq_true rfl) rfl ?_
  refine ax_aload_n dX5_begin_45 rfl ?_
  refine ax_iconst (v := 0) dX5_begin_46 (by decide) ?_
  refine ax_wput (l' := [(a, .inr (5, [.int k1, .int (-1), .int k2, .int 0, .ref n, .ref p, .int 1, .int 1, .int 0, .int (-1), .int 0, .int 0, .int (V 12), .int (V 13), .int (V 14), .int (V 15)]))]) 0 hn rfl dX5_begin_47 fpX5_47 rfl rfl (Nat.le_of_ble_eq_true rfl) rfl ?_
  refine ax_aload_n dX5_begin_50 rfl ?_
  refine ax_iconst (v := 0) dX5_begin_51 (by decide) ?_
  refine ax_wput (l' := [(a, .inr (5, [.int k1, .int (-1), .int k2, .int 0, .ref n, .ref p, .int 1, .int 1, .int 0, .int (-1), .int 0, .int 0, .int 0, .int (V 13), .int (V 14), .int (V 15)]))]) 0 hn rfl dX5_begin_52 fpX5_50 rfl rfl (Nat.le_of_ble_eq_true rfl) rfl ?_
  refine ax_aload_n dX5_begin_55 rfl ?_
  refine ax_iconst (v := 0) dX5_begin_56 (by decide) ?_
  refine ax_wput (l' := [(a, .inr (5, [.int k1, .int (-1), .int k2, .int 0, .ref n, .ref p, .int 1, .int 1, .int 0, .int (-1), .int 0, .int 0, .int 0, .int (V 13), .int 0, .int (V 15)]))]) 0 hn rfl dX5_begin_57 fpX5_53 rfl rfl (Nat.le_of_ble_eq_true rfl) rfl ?_
  refine ax_aload_n dX5_begin_60 rfl ?_
  refine ax_iconst (v := 0) dX5_begin_61 (by decide) ?_
  refine ax_wput (l' := [(a, .inr (5, [.int k1, .int (-1), .int k2, .int 0, .ref n, .ref p, .int 1, .int 1, .int 0, .int (-1), .int 0, .int 0, .int 0, .int 0, .int 0, .int (V 15)]))]) 0 hn rfl dX5_begin_62 fpX5_56 rfl rfl (Nat.le_of_ble_eq_true rfl) rfl ?_
  refine ax_aload_n dX5_begin_65 rfl ?_
  refine ax_iconst (v := 1) dX5_begin_66 (by decide) ?_
  refine ax_wput (l' := [(a, .inr (5, [.int k1, .int (-1), .int k2, .int 0, .ref n, .ref p, .int 1, .int 1, .int 0, .int (-1), .int 0, .int 0, .int 0, .int 0, .int 0, .int 1]))]) 0 hn rfl dX5_begin_67 fpX5_59 rfl rfl (Nat.le_of_ble_eq_true rfl) rfl ?_
  exact ax_vret (st := []) dX5_begin_70 rfl (by rw [hQ]; refine ⟨?_, ?_⟩ <;> (try rfl))
end
