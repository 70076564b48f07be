section
-- ===== PART A: goes FIRST, ahead of the names: the tables' words, and 'selects' of the private methods out of them =====
/-- a private method of a class that the tables say can be made, by its rows of tables_1 -/
def lw_okq (q : MethodName × Nat) : Prop := (q.1.cls ≠ "java/lang/invoke/MethodHandle" ∧ q.1.cls ≠ "java/lang/invoke/VarHandle") ∧ Cond.instantiable q.1.cls q.2 ∈ tables_1 ∧ Cond.privateMethod q.1 ∈ tables_1 ∧ Cond.instanceMethod q.1 ∈ tables_1
theorem lw_p0 : lw_okq (⟨"java/lang/Throwable", "fillInStackTrace", "(I)Ljava/lang/Throwable;"⟩, 6) := ⟨⟨by decide +kernel, by decide +kernel⟩, List.mem_of_getElem? (i := 189) (by decide +kernel), List.mem_of_getElem? (i := 187) (by decide +kernel), List.mem_of_getElem? (i := 188) (by decide +kernel)⟩
theorem lw_p1 : lw_okq (⟨"java/util/ArrayList", "add", "(Ljava/lang/Object;[Ljava/lang/Object;I)V"⟩, 3) := ⟨⟨by decide +kernel, by decide +kernel⟩, List.mem_of_getElem? (i := 40) (by decide +kernel), List.mem_of_getElem? (i := 283) (by decide +kernel), List.mem_of_getElem? (i := 284) (by decide +kernel)⟩
theorem lw_p2 : lw_okq (⟨"java/util/ArrayList", "grow", "()[Ljava/lang/Object;"⟩, 3) := ⟨⟨by decide +kernel, by decide +kernel⟩, List.mem_of_getElem? (i := 40) (by decide +kernel), List.mem_of_getElem? (i := 287) (by decide +kernel), List.mem_of_getElem? (i := 288) (by decide +kernel)⟩
theorem lw_p3 : lw_okq (⟨"java/util/ArrayList", "grow", "(I)[Ljava/lang/Object;"⟩, 3) := ⟨⟨by decide +kernel, by decide +kernel⟩, List.mem_of_getElem? (i := 40) (by decide +kernel), List.mem_of_getElem? (i := 291) (by decide +kernel), List.mem_of_getElem? (i := 292) (by decide +kernel)⟩
theorem lw_p4 : lw_okq (⟨"SheetMaker$Roads", "findLeft", "(LSheetMaker$Road;I)I"⟩, 1) := ⟨⟨by decide +kernel, by decide +kernel⟩, List.mem_of_getElem? (i := 34) (by decide +kernel), List.mem_of_getElem? (i := 357) (by decide +kernel), List.mem_of_getElem? (i := 358) (by decide +kernel)⟩
theorem lw_p5 : lw_okq (⟨"SheetMaker$Roads", "pointThatGoes", "(LSheetMaker$Road;II)I"⟩, 1) := ⟨⟨by decide +kernel, by decide +kernel⟩, List.mem_of_getElem? (i := 34) (by decide +kernel), List.mem_of_getElem? (i := 369) (by decide +kernel), List.mem_of_getElem? (i := 370) (by decide +kernel)⟩
theorem lw_p6 : lw_okq (⟨"SheetMaker$Roads", "isMet", "(LSheetMaker$Road;II)Z"⟩, 1) := ⟨⟨by decide +kernel, by decide +kernel⟩, List.mem_of_getElem? (i := 34) (by decide +kernel), List.mem_of_getElem? (i := 392) (by decide +kernel), List.mem_of_getElem? (i := 393) (by decide +kernel)⟩
theorem lw_p7 : lw_okq (⟨"SheetMaker", "requireRoad", "(I)LSheetMaker$Road;"⟩, 5) := ⟨⟨by decide +kernel, by decide +kernel⟩, List.mem_of_getElem? (i := 26) (by decide +kernel), List.mem_of_getElem? (i := 413) (by decide +kernel), List.mem_of_getElem? (i := 414) (by decide +kernel)⟩
theorem lw_p8 : lw_okq (⟨"SheetMaker", "sheetsWithErrata", "()I"⟩, 5) := ⟨⟨by decide +kernel, by decide +kernel⟩, List.mem_of_getElem? (i := 26) (by decide +kernel), List.mem_of_getElem? (i := 443) (by decide +kernel), List.mem_of_getElem? (i := 444) (by decide +kernel)⟩
theorem lw_p9 : lw_okq (⟨"SheetMaker", "draw", "(LSheetMaker$Sheet;)V"⟩, 5) := ⟨⟨by decide +kernel, by decide +kernel⟩, List.mem_of_getElem? (i := 26) (by decide +kernel), List.mem_of_getElem? (i := 450) (by decide +kernel), List.mem_of_getElem? (i := 451) (by decide +kernel)⟩
theorem lw_p10 : lw_okq (⟨"SheetMaker$Names", "drawLabel", "(ILSheetMaker$Name;LSheetMaker$Sheet;LSheetMaker$Picture;)V"⟩, 1) := ⟨⟨by decide +kernel, by decide +kernel⟩, List.mem_of_getElem? (i := 70) (by decide +kernel), List.mem_of_getElem? (i := 484) (by decide +kernel), List.mem_of_getElem? (i := 485) (by decide +kernel)⟩
theorem lw_p11 : lw_okq (⟨"SheetMaker$Picture", "hasSameRoad", "(ILSheetMaker$Picture;)Z"⟩, 3) := ⟨⟨by decide +kernel, by decide +kernel⟩, List.mem_of_getElem? (i := 84) (by decide +kernel), List.mem_of_getElem? (i := 551) (by decide +kernel), List.mem_of_getElem? (i := 552) (by decide +kernel)⟩
theorem lw_p12 : lw_okq (⟨"SheetMaker$Picture", "pointOf", "(II)I"⟩, 3) := ⟨⟨by decide +kernel, by decide +kernel⟩, List.mem_of_getElem? (i := 84) (by decide +kernel), List.mem_of_getElem? (i := 555) (by decide +kernel), List.mem_of_getElem? (i := 556) (by decide +kernel)⟩
theorem lw_p13 : lw_okq (⟨"SheetMaker", "requireName", "(I)LSheetMaker$Name;"⟩, 5) := ⟨⟨by decide +kernel, by decide +kernel⟩, List.mem_of_getElem? (i := 26) (by decide +kernel), List.mem_of_getElem? (i := 602) (by decide +kernel), List.mem_of_getElem? (i := 603) (by decide +kernel)⟩
theorem lw_p14 : lw_okq (⟨"SheetMaker", "requireSheet", "(I)LSheetMaker$Sheet;"⟩, 5) := ⟨⟨by decide +kernel, by decide +kernel⟩, List.mem_of_getElem? (i := 26) (by decide +kernel), List.mem_of_getElem? (i := 716) (by decide +kernel), List.mem_of_getElem? (i := 717) (by decide +kernel)⟩
theorem lw_p15 : lw_okq (⟨"SheetMaker", "errataOf", "(LSheetMaker$Sheet;)I"⟩, 5) := ⟨⟨by decide +kernel, by decide +kernel⟩, List.mem_of_getElem? (i := 26) (by decide +kernel), List.mem_of_getElem? (i := 768) (by decide +kernel), List.mem_of_getElem? (i := 769) (by decide +kernel)⟩
def lw_privs_1 : List (MethodName × Nat) := [(⟨"java/lang/Throwable", "fillInStackTrace", "(I)Ljava/lang/Throwable;"⟩, 6), (⟨"java/util/ArrayList", "add", "(Ljava/lang/Object;[Ljava/lang/Object;I)V"⟩, 3), (⟨"java/util/ArrayList", "grow", "()[Ljava/lang/Object;"⟩, 3), (⟨"java/util/ArrayList", "grow", "(I)[Ljava/lang/Object;"⟩, 3), (⟨"SheetMaker$Roads", "findLeft", "(LSheetMaker$Road;I)I"⟩, 1), (⟨"SheetMaker$Roads", "pointThatGoes", "(LSheetMaker$Road;II)I"⟩, 1), (⟨"SheetMaker$Roads", "isMet", "(LSheetMaker$Road;II)Z"⟩, 1), (⟨"SheetMaker", "requireRoad", "(I)LSheetMaker$Road;"⟩, 5), (⟨"SheetMaker", "sheetsWithErrata", "()I"⟩, 5), (⟨"SheetMaker", "draw", "(LSheetMaker$Sheet;)V"⟩, 5), (⟨"SheetMaker$Names", "drawLabel", "(ILSheetMaker$Name;LSheetMaker$Sheet;LSheetMaker$Picture;)V"⟩, 1), (⟨"SheetMaker$Picture", "hasSameRoad", "(ILSheetMaker$Picture;)Z"⟩, 3), (⟨"SheetMaker$Picture", "pointOf", "(II)I"⟩, 3), (⟨"SheetMaker", "requireName", "(I)LSheetMaker$Name;"⟩, 5), (⟨"SheetMaker", "requireSheet", "(I)LSheetMaker$Sheet;"⟩, 5), (⟨"SheetMaker", "errataOf", "(LSheetMaker$Sheet;)I"⟩, 5)]
theorem lw_r1 : ∀ q ∈ lw_privs_1, lw_okq q := List.forall_mem_cons.mpr ⟨lw_p0, List.forall_mem_cons.mpr ⟨lw_p1, List.forall_mem_cons.mpr ⟨lw_p2, List.forall_mem_cons.mpr ⟨lw_p3, List.forall_mem_cons.mpr ⟨lw_p4, List.forall_mem_cons.mpr ⟨lw_p5, List.forall_mem_cons.mpr ⟨lw_p6, List.forall_mem_cons.mpr ⟨lw_p7, List.forall_mem_cons.mpr ⟨lw_p8, List.forall_mem_cons.mpr ⟨lw_p9, List.forall_mem_cons.mpr ⟨lw_p10, List.forall_mem_cons.mpr ⟨lw_p11, List.forall_mem_cons.mpr ⟨lw_p12, List.forall_mem_cons.mpr ⟨lw_p13, List.forall_mem_cons.mpr ⟨lw_p14, List.forall_mem_cons.mpr ⟨lw_p15, fun _ h => absurd h List.not_mem_nil⟩⟩⟩⟩⟩⟩⟩⟩⟩⟩⟩⟩⟩⟩⟩⟩
theorem lw_p16 : lw_okq (⟨"SheetMakerModel", "isFine", "(I)Z"⟩, 28) := ⟨⟨by decide +kernel, by decide +kernel⟩, List.mem_of_getElem? (i := 786) (by decide +kernel), List.mem_of_getElem? (i := 892) (by decide +kernel), List.mem_of_getElem? (i := 893) (by decide +kernel)⟩
theorem lw_p17 : lw_okq (⟨"SheetMakerModel", "isRoad", "(I)Z"⟩, 28) := ⟨⟨by decide +kernel, by decide +kernel⟩, List.mem_of_getElem? (i := 786) (by decide +kernel), List.mem_of_getElem? (i := 907) (by decide +kernel), List.mem_of_getElem? (i := 908) (by decide +kernel)⟩
theorem lw_p18 : lw_okq (⟨"SheetMakerModel", "isAt", "(III)Z"⟩, 28) := ⟨⟨by decide +kernel, by decide +kernel⟩, List.mem_of_getElem? (i := 786) (by decide +kernel), List.mem_of_getElem? (i := 911) (by decide +kernel), List.mem_of_getElem? (i := 912) (by decide +kernel)⟩
theorem lw_p19 : lw_okq (⟨"SheetMakerModel", "wrong", "()I"⟩, 28) := ⟨⟨by decide +kernel, by decide +kernel⟩, List.mem_of_getElem? (i := 786) (by decide +kernel), List.mem_of_getElem? (i := 915) (by decide +kernel), List.mem_of_getElem? (i := 916) (by decide +kernel)⟩
theorem lw_p20 : lw_okq (⟨"SheetMakerModel", "errataNow", "(I)I"⟩, 28) := ⟨⟨by decide +kernel, by decide +kernel⟩, List.mem_of_getElem? (i := 786) (by decide +kernel), List.mem_of_getElem? (i := 919) (by decide +kernel), List.mem_of_getElem? (i := 920) (by decide +kernel)⟩
theorem lw_p21 : lw_okq (⟨"SheetMakerModel", "labels", "(I)V"⟩, 28) := ⟨⟨by decide +kernel, by decide +kernel⟩, List.mem_of_getElem? (i := 786) (by decide +kernel), List.mem_of_getElem? (i := 923) (by decide +kernel), List.mem_of_getElem? (i := 924) (by decide +kernel)⟩
theorem lw_p22 : lw_okq (⟨"SheetMakerModel", "isOn", "(III)Z"⟩, 28) := ⟨⟨by decide +kernel, by decide +kernel⟩, List.mem_of_getElem? (i := 786) (by decide +kernel), List.mem_of_getElem? (i := 927) (by decide +kernel), List.mem_of_getElem? (i := 928) (by decide +kernel)⟩
theorem lw_p23 : lw_okq (⟨"SheetMakerModel", "gives", "(II)V"⟩, 28) := ⟨⟨by decide +kernel, by decide +kernel⟩, List.mem_of_getElem? (i := 786) (by decide +kernel), List.mem_of_getElem? (i := 931) (by decide +kernel), List.mem_of_getElem? (i := 932) (by decide +kernel)⟩
theorem lw_p24 : lw_okq (⟨"SheetMakerModel", "isRoom", "(III)Z"⟩, 28) := ⟨⟨by decide +kernel, by decide +kernel⟩, List.mem_of_getElem? (i := 786) (by decide +kernel), List.mem_of_getElem? (i := 935) (by decide +kernel), List.mem_of_getElem? (i := 936) (by decide +kernel)⟩
theorem lw_p25 : lw_okq (⟨"SheetMakerModel", "startX", "(II)I"⟩, 28) := ⟨⟨by decide +kernel, by decide +kernel⟩, List.mem_of_getElem? (i := 786) (by decide +kernel), List.mem_of_getElem? (i := 939) (by decide +kernel), List.mem_of_getElem? (i := 940) (by decide +kernel)⟩
theorem lw_p26 : lw_okq (⟨"SheetMakerModel", "startY", "(II)I"⟩, 28) := ⟨⟨by decide +kernel, by decide +kernel⟩, List.mem_of_getElem? (i := 786) (by decide +kernel), List.mem_of_getElem? (i := 943) (by decide +kernel), List.mem_of_getElem? (i := 944) (by decide +kernel)⟩
theorem lw_p27 : lw_okq (⟨"SheetMakerModel", "takes", "(III)Z"⟩, 28) := ⟨⟨by decide +kernel, by decide +kernel⟩, List.mem_of_getElem? (i := 786) (by decide +kernel), List.mem_of_getElem? (i := 947) (by decide +kernel), List.mem_of_getElem? (i := 948) (by decide +kernel)⟩
theorem lw_p28 : lw_okq (⟨"SheetMakerModel", "isLike", "(II)Z"⟩, 28) := ⟨⟨by decide +kernel, by decide +kernel⟩, List.mem_of_getElem? (i := 786) (by decide +kernel), List.mem_of_getElem? (i := 951) (by decide +kernel), List.mem_of_getElem? (i := 952) (by decide +kernel)⟩
theorem lw_p29 : lw_okq (⟨"SheetMakerModel", "drawn", "(II)I"⟩, 28) := ⟨⟨by decide +kernel, by decide +kernel⟩, List.mem_of_getElem? (i := 786) (by decide +kernel), List.mem_of_getElem? (i := 955) (by decide +kernel), List.mem_of_getElem? (i := 956) (by decide +kernel)⟩
theorem lw_p30 : lw_okq (⟨"SheetMakerModel", "leftOf", "(II)I"⟩, 28) := ⟨⟨by decide +kernel, by decide +kernel⟩, List.mem_of_getElem? (i := 786) (by decide +kernel), List.mem_of_getElem? (i := 959) (by decide +kernel), List.mem_of_getElem? (i := 960) (by decide +kernel)⟩
theorem lw_p31 : lw_okq (⟨"SheetMakerModel", "isShown", "(II)Z"⟩, 28) := ⟨⟨by decide +kernel, by decide +kernel⟩, List.mem_of_getElem? (i := 786) (by decide +kernel), List.mem_of_getElem? (i := 963) (by decide +kernel), List.mem_of_getElem? (i := 964) (by decide +kernel)⟩
def lw_privs_2 : List (MethodName × Nat) := [(⟨"SheetMakerModel", "isFine", "(I)Z"⟩, 28), (⟨"SheetMakerModel", "isRoad", "(I)Z"⟩, 28), (⟨"SheetMakerModel", "isAt", "(III)Z"⟩, 28), (⟨"SheetMakerModel", "wrong", "()I"⟩, 28), (⟨"SheetMakerModel", "errataNow", "(I)I"⟩, 28), (⟨"SheetMakerModel", "labels", "(I)V"⟩, 28), (⟨"SheetMakerModel", "isOn", "(III)Z"⟩, 28), (⟨"SheetMakerModel", "gives", "(II)V"⟩, 28), (⟨"SheetMakerModel", "isRoom", "(III)Z"⟩, 28), (⟨"SheetMakerModel", "startX", "(II)I"⟩, 28), (⟨"SheetMakerModel", "startY", "(II)I"⟩, 28), (⟨"SheetMakerModel", "takes", "(III)Z"⟩, 28), (⟨"SheetMakerModel", "isLike", "(II)Z"⟩, 28), (⟨"SheetMakerModel", "drawn", "(II)I"⟩, 28), (⟨"SheetMakerModel", "leftOf", "(II)I"⟩, 28), (⟨"SheetMakerModel", "isShown", "(II)Z"⟩, 28)]
theorem lw_r2 : ∀ q ∈ lw_privs_2, lw_okq q := List.forall_mem_cons.mpr ⟨lw_p16, List.forall_mem_cons.mpr ⟨lw_p17, List.forall_mem_cons.mpr ⟨lw_p18, List.forall_mem_cons.mpr ⟨lw_p19, List.forall_mem_cons.mpr ⟨lw_p20, List.forall_mem_cons.mpr ⟨lw_p21, List.forall_mem_cons.mpr ⟨lw_p22, List.forall_mem_cons.mpr ⟨lw_p23, List.forall_mem_cons.mpr ⟨lw_p24, List.forall_mem_cons.mpr ⟨lw_p25, List.forall_mem_cons.mpr ⟨lw_p26, List.forall_mem_cons.mpr ⟨lw_p27, List.forall_mem_cons.mpr ⟨lw_p28, List.forall_mem_cons.mpr ⟨lw_p29, List.forall_mem_cons.mpr ⟨lw_p30, List.forall_mem_cons.mpr ⟨lw_p31, fun _ h => absurd h List.not_mem_nil⟩⟩⟩⟩⟩⟩⟩⟩⟩⟩⟩⟩⟩⟩⟩⟩
theorem lw_p32 : lw_okq (⟨"SheetMakerModel", "goes", "(III)I"⟩, 28) := ⟨⟨by decide +kernel, by decide +kernel⟩, List.mem_of_getElem? (i := 786) (by decide +kernel), List.mem_of_getElem? (i := 967) (by decide +kernel), List.mem_of_getElem? (i := 968) (by decide +kernel)⟩
theorem lw_p33 : lw_okq (⟨"SheetMakerModel", "triangle", "(III)I"⟩, 28) := ⟨⟨by decide +kernel, by decide +kernel⟩, List.mem_of_getElem? (i := 786) (by decide +kernel), List.mem_of_getElem? (i := 974) (by decide +kernel), List.mem_of_getElem? (i := 975) (by decide +kernel)⟩
theorem lw_p34 : lw_okq (⟨"SheetMakerModel", "isShared", "(III)Z"⟩, 28) := ⟨⟨by decide +kernel, by decide +kernel⟩, List.mem_of_getElem? (i := 786) (by decide +kernel), List.mem_of_getElem? (i := 978) (by decide +kernel), List.mem_of_getElem? (i := 979) (by decide +kernel)⟩
theorem lw_p35 : lw_okq (⟨"SheetMakerModel", "isName", "(I)Z"⟩, 28) := ⟨⟨by decide +kernel, by decide +kernel⟩, List.mem_of_getElem? (i := 786) (by decide +kernel), List.mem_of_getElem? (i := 993) (by decide +kernel), List.mem_of_getElem? (i := 994) (by decide +kernel)⟩
theorem lw_p36 : lw_okq (⟨"SheetMakerModel", "meetingsNow", "(I)I"⟩, 28) := ⟨⟨by decide +kernel, by decide +kernel⟩, List.mem_of_getElem? (i := 786) (by decide +kernel), List.mem_of_getElem? (i := 1012) (by decide +kernel), List.mem_of_getElem? (i := 1013) (by decide +kernel)⟩
theorem lw_p37 : lw_okq (⟨"SheetMakerModel", "meet", "(III)Z"⟩, 28) := ⟨⟨by decide +kernel, by decide +kernel⟩, List.mem_of_getElem? (i := 786) (by decide +kernel), List.mem_of_getElem? (i := 1016) (by decide +kernel), List.mem_of_getElem? (i := 1017) (by decide +kernel)⟩
theorem lw_p38 : lw_okq (⟨"SheetMakerModel", "isSheet", "(I)Z"⟩, 28) := ⟨⟨by decide +kernel, by decide +kernel⟩, List.mem_of_getElem? (i := 786) (by decide +kernel), List.mem_of_getElem? (i := 1032) (by decide +kernel), List.mem_of_getElem? (i := 1033) (by decide +kernel)⟩
theorem lw_p39 : lw_okq (⟨"SheetMakerModel", "keeps", "(I)V"⟩, 28) := ⟨⟨by decide +kernel, by decide +kernel⟩, List.mem_of_getElem? (i := 786) (by decide +kernel), List.mem_of_getElem? (i := 1044) (by decide +kernel), List.mem_of_getElem? (i := 1045) (by decide +kernel)⟩
def lw_privs_3 : List (MethodName × Nat) := [(⟨"SheetMakerModel", "goes", "(III)I"⟩, 28), (⟨"SheetMakerModel", "triangle", "(III)I"⟩, 28), (⟨"SheetMakerModel", "isShared", "(III)Z"⟩, 28), (⟨"SheetMakerModel", "isName", "(I)Z"⟩, 28), (⟨"SheetMakerModel", "meetingsNow", "(I)I"⟩, 28), (⟨"SheetMakerModel", "meet", "(III)Z"⟩, 28), (⟨"SheetMakerModel", "isSheet", "(I)Z"⟩, 28), (⟨"SheetMakerModel", "keeps", "(I)V"⟩, 28)]
theorem lw_r3 : ∀ q ∈ lw_privs_3, lw_okq q := List.forall_mem_cons.mpr ⟨lw_p32, List.forall_mem_cons.mpr ⟨lw_p33, List.forall_mem_cons.mpr ⟨lw_p34, List.forall_mem_cons.mpr ⟨lw_p35, List.forall_mem_cons.mpr ⟨lw_p36, List.forall_mem_cons.mpr ⟨lw_p37, List.forall_mem_cons.mpr ⟨lw_p38, List.forall_mem_cons.mpr ⟨lw_p39, fun _ h => absurd h List.not_mem_nil⟩⟩⟩⟩⟩⟩⟩⟩
def lw_privs : List (MethodName × Nat) := lw_privs_1 ++ (lw_privs_2 ++ (lw_privs_3))
def lw_tbl : List Cond := k2_sels lw_privs ++ tables_1
theorem lw_privs_ok : ∀ q ∈ lw_privs, lw_okq q := by
  show ∀ q ∈ lw_privs_1 ++ (lw_privs_2 ++ (lw_privs_3)), lw_okq q
  exact List.forall_mem_append.mpr ⟨lw_r1, List.forall_mem_append.mpr ⟨lw_r2, lw_r3⟩⟩

/-! ===== BEGIN words of one list among another's, by their places ===== -/
theorem goodIn_r {big : List Cond} (ws : List Cond) (ps : List Nat) (hp : ws = ps.filterMap (fun i => big[i]?)) (h : ws.all goodWord = true) : GoodIn big ws := by
  intro w hw
  have h1 := List.all_eq_true.mp h w hw
  rw [hp] at hw
  obtain ⟨i, -, hi⟩ := List.mem_filterMap.mp hw
  have hm : w ∈ big := by first | exact List.mem_of_getElem? hi | exact List.getElem?_mem hi
  exact ⟨hm, good_of_word h1⟩
theorem goodIn_app {big a b : List Cond} (ha : GoodIn big a) (hb : GoodIn big b) : GoodIn big (a ++ b) := fun w h => (List.mem_append.mp h).elim (ha w) (hb w)
theorem goodIn_ca {big a b : List Cond} {c : Cond} (ha : GoodIn big (c :: a)) (hb : GoodIn big b) : GoodIn big (c :: (a ++ b)) := fun w h => (List.mem_cons.mp h).elim (fun e => ha w (List.mem_cons.mpr (Or.inl e))) (fun h => (List.mem_append.mp h).elim (fun h => ha w (List.mem_cons.mpr (Or.inr h))) (hb w))
theorem goodIn_sub {big ws : List Cond} (hm : ∀ w ∈ ws, w ∈ big) (h : ws.all goodWord = true) : GoodIn big ws := fun w hw => ⟨hm w hw, good_of_word (List.all_eq_true.mp h w hw)⟩
/-! ===== END ===== -/

/-! ===== BEGIN exceptions that leave a method, and their catching by the caller (launches without stack traces) ===== -/
section VXA
/-! The laws vx_back, vx_callV, vx_callS, vx_callSW, vx_throw0, vx_throwS follow proofs of the library, with one case more: JvmDerived/Free/Laws.lean (Back.of_free), Shelf42/LK1.lean (callV, callS), Shelf/KitTraced.lean (throwNew0V, throwNewS). -/
/-- where a method has thrown q: the class by its name, the cell, what was written, the world -/
def vx_T (XC : String → State → State → Prop) (st : State) (q : Addr) (t : State) (mc ms : Nat) (free : Addr → Prop) : Prop :=
  ∃ (E : String) (ce : Cell) (L : List Loc), XC E st t ∧ t.heap[q]? = some ce ∧ ce.vm = .none ∧ st.vm.findClass E = some ce.cls ∧ st.WarmedH t.vm ∧ st.sameButNew ({ t with vm := st.vm } : State) L mc ms ∧ ∀ z ∈ L, free z.base
def vx_Q (Qc : Array Value → State → Outcome → State → Prop) (XC : String → State → State → Prop) (mc ms : Nat) (free : Addr → Prop) : Array Value → State → Outcome → State → Prop := fun a st o t =>
  (Qc a st o t ∧ ∃ L, FrameEnd st o t L mc ms ∧ ∀ q ∈ L, free q.base) ∨ ∃ q, o = .threw q ∧ vx_T XC st q t mc ms free
/-- a callee that returns or throws -/
def vx_Met (l : Launch) (y : MethodName) (ws : List Cond) (rm : Room) (Pc : Array Value → State → Prop) (Qc : Array Value → State → Outcome → State → Prop) (XC : String → State → State → Prop) (mc ms : Nat) (free : Addr → Prop) : Prop :=
  MetFree l y (headSpec ws rm) Pc (fun _ _ _ _ _ => True) (vx_Q Qc XC mc ms free)
def vx_Post (XC : String → State → State → Prop) (mc ms : Nat) (free : Addr → Prop) : Pt → Array Value → Addr → Pt → Prop := fun A a q B =>
  ∃ (g : JFrame) (mk : MethodId) (t : State) (L : List Loc) (E : String) (ce : Cell), B.U.heap = t.heap ∧ B.U.vm = t.vm ∧ XC E (A.U.calling g mk a) t ∧ t.heap[q]? = some ce ∧ ce.vm = .none ∧ A.U.vm.findClass E = some ce.cls ∧ B.locs = A.locs ++ L ∧ (∀ z ∈ L, free z.base) ∧ B.cells = A.cells + mc ∧ B.slots = A.slots + ms
def vx_Back (l : Launch) (R : Room) (p : Program) (e : Env) (below : List Frame) (s : State) (sargs : Array Value) (y : MethodName) (len W9 : Nat)
    (Pre : Pt → Array Value → Prop) (Post : Pt → Array Value → Option Value → Pt → Prop) (PostX : Pt → Array Value → Addr → Pt → Prop) : Prop :=
  ∀ (m : MethodId) (meth : Method) (c : Code) (A : Pt) (g : JFrame) (ig : Instr) (mk : MethodId) (a : Array Value),
    Stand p l e R s m sargs below meth c A.U A.locs A.cells A.slots → g.method = m → g.locals.size = c.maxLocals → decode c.code g.pc = .ok (ig, len) →
    2 * g.monitorRoom + (g.stack.map fun v => v.category).sum ≤ W9 → A.U.methodNamed? y = some mk → Pre A a →
    (∃ (v : Option Value) (B : Pt), Stand p l e R s m sargs below meth c B.U B.locs B.cells B.slots ∧ Post A a v B ∧
      Steps p.tables e below (doInvoke e (A.U.setTop g) [] mk a).1 (B.U.setTop { g with pc := g.pc + len, stack := v.toList ++ g.stack })) ∨
    (∃ (q : Addr) (B : Pt), Stand p l e R s m sargs below meth c B.U B.locs B.cells B.slots ∧ PostX A a q B ∧
      Steps p.tables e below (doInvoke e (A.U.setTop g) [] mk a).1 ((B.U.setTop g).pushFrame (.throwing q)))
section Payer
variable {l : Launch} {R : Room} {p : Program} {e : Env} {below : List Frame} {s : State} {sargs : Array Value} {y : MethodName} {len W9 : Nat}
theorem vx_back {ws : List Cond} {rm : Room} {Pc : Array Value → State → Prop} {Qc : Array Value → State → Outcome → State → Prop} {XC : String → State → State → Prop} {mc ms : Nat} {free : Addr → Prop} {bytes : ByteArray} {maxL : Nat} {ret : Option FieldType}
    (hM : vx_Met l y ws rm Pc Qc XC mc ms free) (hblind : FrameBlind Pc) (hrc : rm.cells = mc) (hrs : rm.slots = ms)
    (hframes : rm.frames + 1 ≤ R.frames) (hlocals : W9 + (maxL + 11) + rm.locals ≤ R.locals)
    (hws : ∀ w ∈ ws, ∀ a' U, s.WarmedH U.vm → w.before a' U = true) (hcode : Cond.code y bytes maxL ret ∈ ws) (hinit : ∀ a' U, s.WarmedH U.vm → (Cond.initialized y.cls).before a' U = true) :
    vx_Back l R p e below s sargs y len W9 (PreOf R mc ms Pc) (PostOf Qc mc ms free) (vx_Post XC mc ms free) := by
  intro m meth c A g ig mk a X hg hsize hdg hW hn hp
  have h1 : (headSpec ws rm).pre.before a A.U = true := atoms_intro fun w hw => hws w hw _ _ X.warmed
  have h2 : (Cond.code y bytes maxL ret).before a A.U = true := hws _ hcode _ _ X.warmed
  have h3 : (Cond.initialized y.cls).before a A.U = true := hinit _ _ X.warmed
  have h4 : A.cells + (headSpec ws rm).room.cells ≤ R.cells := by rw [show (headSpec ws rm).room.cells = mc from hrc]; exact hp.1
  have h5 : A.slots + (headSpec ws rm).room.slots ≤ R.slots := by rw [show (headSpec ws rm).room.slots = ms from hrs]; exact hp.2.1
  have hPc : Pc a (A.U.calling g mk a) := hblind _ _ _ _ hp.2.2
  obtain ⟨U, Ls, c0, s0⟩ := A
  dsimp only [Pt.U, Pt.locs, Pt.cells, Pt.slots] at h1 h2 h3 h4 h5 X hn hPc ⊢
  obtain ⟨methY, cY, hmY, hcY, -, hlY, -, -, -, -⟩ := Cond.code_spec hn h2
  obtain ⟨kY, hkY, -⟩ := className_of_methodNamed hn
  have hinitY : kY.init = .initialized := Cond.initialized_spec (findClass_of_methodNamed hn) hkY h3
  have h : At U g.method c below := by rw [hg]; exact X.here
  have hlocals9 : W9 + (maxL + 11) + (headSpec ws rm).room.locals ≤ R.locals := hlocals
  have happ : (headSpec ws rm).appliesLoose y e.platform (U.calling g mk a) = true :=
    Spec.appliesLoose_calling (g := g) h hdg hn hkY hinitY
      (X.room_calling (g := g) (R' := (headSpec ws rm).room) hsize hmY hcY hframes (by rw [hlY]; omega) h4 h5) h1
  obtain ⟨mid, hmid⟩ := h.above
  have hfr : (U.setTop g).frames = (.java g :: mid) ++ below := by rw [State.frames_setTop' g h.top, hmid]; rfl
  obtain ⟨o, s₂, hsteps, -, hend, hq⟩ := Steps.callFree hM p X.admits X.cas X.clock (acts := []) hfr happ hPc trivial
  have hq' : vx_Q Qc XC mc ms free a (U.calling g mk a) o s₂ := hq
  rw [State.frames_setTop' g h.top] at hend
  obtain ⟨g₀, hg0⟩ := Option.isSome_iff_exists.mp h.top
  obtain ⟨r, hr⟩ := State.topJava?_eq_some.mp hg0
  have hr' : (({ U with heap := s₂.heap, slotsUsed := s₂.slotsUsed } : State).setVm s₂.vm).frames = .java g₀ :: r := hr
  rcases hq' with ⟨hqc, L, hfe, hL⟩ | ⟨q, rfl, E, ce, L, hx, hce, hcv, hcl, hW₂, hsm, hL⟩
  · obtain ⟨⟨v, rfl⟩, hW₂, e2, q2, q3, q4, q5, q6⟩ := id hfe
    have e3 : s₂ = ({ (U.calling g mk a).setFrames s₂.frames with heap := s₂.heap, slotsUsed := s₂.slotsUsed } : State).setVm s₂.vm := by
      have : s₂ = ({ s₂ with vm := (U.calling g mk a).vm } : State).setVm s₂.vm := rfl
      rw [e2] at this
      exact this
    obtain ⟨c₂, i₂, len₂, hc₂, hd₂, hf₂⟩ := hend
    have hW' : U.WarmedH s₂.vm := hW₂
    have hcc : c₂ = c := by
      have h1 : s₂.code? g.method = U.code? g.method := by
        rw [State.code?_eq, State.code?_eq, hW'.alike.method?]
      exact Option.some.inj (hc₂.symm.trans (h1.trans h.code))
    subst hcc
    have hlen : len₂ = len := by rw [hdg] at hd₂; cases hd₂; rfl
    subst hlen
    have hs₂ : s₂ = (({ U with heap := s₂.heap, slotsUsed := s₂.slotsUsed } : State).setVm s₂.vm).setTop { g with pc := g.pc + len₂, stack := v.toList ++ g.stack } := by
      refine e3.trans ?_
      rw [hf₂, State.calling_eq h.top, State.setFrames_setFrames, State.setTop_of_frames _ hr', hr]
      rfl
    have hsame : U.sameButNew ({ U with heap := s₂.heap, slotsUsed := s₂.slotsUsed } : State) L mc ms := by
      refine ⟨?_, q2, q3, q4, q5, q6⟩
      obtain ⟨t, ht, -⟩ := State.frames_cons hr
      show ({ U with heap := s₂.heap, slotsUsed := s₂.slotsUsed } : State) = { U.setFrames U.frames with heap := s₂.heap, slotsUsed := s₂.slotsUsed }
      rw [State.setFrames_self ht]
    subst hg
    refine Or.inl ⟨v, ⟨(({ U with heap := s₂.heap, slotsUsed := s₂.slotsUsed } : State).setVm s₂.vm), Ls ++ L, c0 + mc, s0 + ms⟩,
      ⟨X.admits, X.cas, X.clock, X.frames, X.room, X.hears, X.method, X.code, (X.here.setHeapUsed s₂.heap s₂.slotsUsed).setVm hW'.alike, X.tail, State.WarmedH.trans X.warmed hW', X.limits, X.bytes, X.same.trans (hsame.setVm s.vm)⟩,
      ⟨g, mk, s₂, L, rfl, rfl, hqc, rfl, hL, rfl, rfl⟩, ?_⟩
    show Steps p.tables e below _ ((({ U with heap := s₂.heap, slotsUsed := s₂.slotsUsed } : State).setVm s₂.vm).setTop { g with pc := g.pc + len₂, stack := v.toList ++ g.stack })
    rw [← hs₂]
    exact hsteps
  · obtain ⟨e2, q2, q3, q4, q5, q6⟩ := id hsm
    have e3 : s₂ = ({ (U.calling g mk a).setFrames s₂.frames with heap := s₂.heap, slotsUsed := s₂.slotsUsed } : State).setVm s₂.vm := by
      have : s₂ = ({ s₂ with vm := (U.calling g mk a).vm } : State).setVm s₂.vm := rfl
      rw [e2] at this
      exact this
    have hf₂ : s₂.frames = .throwing q :: .java g :: U.frames.tail := hend
    have hW' : U.WarmedH s₂.vm := hW₂
    have hs₂ : s₂ = ((({ U with heap := s₂.heap, slotsUsed := s₂.slotsUsed } : State).setVm s₂.vm).setTop g).pushFrame (.throwing q) := by
      refine e3.trans ?_
      rw [hf₂, State.calling_eq h.top, State.setFrames_setFrames, State.pushFrame, State.frames_setTop _ hr', State.setTop_of_frames _ hr', State.setFrames_setFrames, hr]
      rfl
    have hsame : U.sameButNew ({ U with heap := s₂.heap, slotsUsed := s₂.slotsUsed } : State) L mc ms := by
      refine ⟨?_, q2, q3, q4, q5, q6⟩
      obtain ⟨t, ht, -⟩ := State.frames_cons hr
      show ({ U with heap := s₂.heap, slotsUsed := s₂.slotsUsed } : State) = { U.setFrames U.frames with heap := s₂.heap, slotsUsed := s₂.slotsUsed }
      rw [State.setFrames_self ht]
    subst hg
    refine Or.inr ⟨q, ⟨(({ U with heap := s₂.heap, slotsUsed := s₂.slotsUsed } : State).setVm s₂.vm), Ls ++ L, c0 + mc, s0 + ms⟩,
      ⟨X.admits, X.cas, X.clock, X.frames, X.room, X.hears, X.method, X.code, (X.here.setHeapUsed s₂.heap s₂.slotsUsed).setVm hW'.alike, X.tail, State.WarmedH.trans X.warmed hW', X.limits, X.bytes, X.same.trans (hsame.setVm s.vm)⟩,
      ⟨g, mk, s₂, L, E, ce, rfl, rfl, hx, hce, hcv, hcl, rfl, hL, rfl, rfl⟩, ?_⟩
    show Steps p.tables e below _ (((({ U with heap := s₂.heap, slotsUsed := s₂.slotsUsed } : State).setVm s₂.vm).setTop g).pushFrame (.throwing q))
    rw [← hs₂]
    exact hsteps
end Payer
section Calls
variable {p : Program} {l : Launch} {e : Env} {R : Room} {s : State} {m : MethodId} {args : Array Value} {below : List Frame} {meth : Method} {c : Code} {T : State} {locs : List Loc} {cells slots : Nat}
theorem vx_callV (X : Stand p l e R s m args below meth c T locs cells slots) (hexec : p.tables.exec = Jvm.exec) {own C : String} {index : Nat} {y : MethodName} {bytes : ByteArray} {maxL : Nat} {ret : Option FieldType}
    (hown : s.vm.findClass own = some m.cls) (hlink : (Cond.methodLink own index y).before args s = true) (hinst : (Cond.instanceMethod y).before args s = true) (hsel : (Cond.selects C y y).before args s = true)
    (hcode : (Cond.code y bytes maxL ret).before args s = true) (hy : y.cls ≠ "java/lang/invoke/MethodHandle" ∧ y.cls ≠ "java/lang/invoke/VarHandle")
    {W9 : Nat} {Pre : Pt → Array Value → Prop} {Post : Pt → Array Value → Option Value → Pt → Prop} {PostX : Pt → Array Value → Addr → Pt → Prop} (hK : vx_Back l R p e below s args y 3 W9 Pre Post PostX)
    {b : Addr} {cellB : Cell} (hcell : T.heap[b]? = some cellB) (hobj : cellB.vm.isStatics = false) (hcls : s.vm.findClass C = some cellB.cls)
    {g : JFrame} (hg : g.method = m) (hsize : g.locals.size = c.maxLocals) {argsL rest : List Value} (hlen : ∀ sig, parseMethodDescriptor y.desc = some sig → argsL.length = sig.parameters.length)
    (hstack : g.stack = argsL.reverse ++ .ref b :: rest) (hW : 2 * g.monitorRoom + (rest.map fun v => v.category).sum ≤ W9) (hdg : decode c.code g.pc = .ok (.invokevirtual index, 3))
    (hpre : ∀ vm₁, s.WarmedH vm₁ → Pre ⟨T.setVm vm₁, locs, cells, slots⟩ (Value.ref b :: argsL).toArray) :
    (∃ (v : Option Value) (vm₁ : Vm) (B : Pt), s.WarmedH vm₁ ∧ Stand p l e R s m args below meth c B.U B.locs B.cells B.slots ∧ Post ⟨T.setVm vm₁, locs, cells, slots⟩ (Value.ref b :: argsL).toArray v B ∧
      ∀ target, Steps p.tables e below (B.U.setTop { g with pc := g.pc + 3, stack := v.toList ++ rest }) target → Steps p.tables e below (T.setTop g) target) ∨
    (∃ (q : Addr) (vm₁ : Vm) (B : Pt), s.WarmedH vm₁ ∧ Stand p l e R s m args below meth c B.U B.locs B.cells B.slots ∧ PostX ⟨T.setVm vm₁, locs, cells, slots⟩ (Value.ref b :: argsL).toArray q B ∧
      Steps p.tables e below (T.setTop g) ((B.U.setTop { g with stack := rest }).pushFrame (.throwing q))) := by
  obtain ⟨mk, methM, hnamed, hmethM, hstM, habM⟩ := Cond.instanceMethod_spec hinst
  obtain ⟨methM', cM, hmethM', -, -, -, -, -, -, hsigM⟩ := Cond.code_spec hnamed hcode
  cases hmethM.symm.trans hmethM'
  obtain ⟨c2, r2, m2, q1, q2, q3, q4, kP, hkP, hkPi⟩ := Cond.selects_spec hsel
  cases hcls.symm.trans q1
  cases (State.methodFound?_of_named hnamed hy).symm.trans q2
  cases hnamed.symm.trans q3
  have hselP : selectMethod e.platform s.vm cellB.cls mk = .method mk := by rw [Launch.admits_selectMethod X.admits]; exact q4
  obtain ⟨vm₁, X₁, hstep₁⟩ := X.invokevirtual hexec hown hlink hnamed hmethM hstM hkP hkPi hy (a := b) (cell := cellB) hcell
    (fun z h => by rw [h] at hobj; cases hobj) hselP hmethM habM hkP hkPi (g := g) hg (argsL := argsL) (rest := rest) (hlen _ hsigM) hstack hdg
  rcases hK m meth c ⟨T.setVm vm₁, locs, cells, slots⟩ { g with stack := rest } (.invokevirtual index) mk (Value.ref b :: argsL).toArray X₁ hg hsize hdg hW (X₁.named hnamed) (hpre vm₁ X₁.warmed) with ⟨v, B, X', hpost, hsteps⟩ | ⟨q, B, X', hpost, hsteps⟩
  · exact Or.inl ⟨v, vm₁, B, X₁.warmed, X', hpost, fun target h => hstep₁ _ fun acts => by rw [doInvoke_state]; exact hsteps.trans h⟩
  · exact Or.inr ⟨q, vm₁, B, X₁.warmed, X', hpost, hstep₁ _ fun acts => by rw [doInvoke_state]; exact hsteps⟩
theorem vx_callS (X : Stand p l e R s m args below meth c T locs cells slots) (hexec : p.tables.exec = Jvm.exec) {own : String} {index : Nat} {y : MethodName} {bytes : ByteArray} {maxL : Nat} {ret : Option FieldType}
    (hown : s.vm.findClass own = some m.cls) (hlink : (Cond.methodLink own index y).before args s = true) (hstat : (Cond.static y).before args s = true) (hinit : (Cond.initialized y.cls).before args s = true)
    (hcode : (Cond.code y bytes maxL ret).before args s = true) (hy : y.cls ≠ "java/lang/invoke/MethodHandle" ∧ y.cls ≠ "java/lang/invoke/VarHandle")
    {W9 : Nat} {Pre : Pt → Array Value → Prop} {Post : Pt → Array Value → Option Value → Pt → Prop} {PostX : Pt → Array Value → Addr → Pt → Prop} (hK : vx_Back l R p e below s args y 3 W9 Pre Post PostX)
    {g : JFrame} (hg : g.method = m) (hsize : g.locals.size = c.maxLocals) {argsL rest : List Value} (hlen : ∀ sig, parseMethodDescriptor y.desc = some sig → argsL.length = sig.parameters.length)
    (hstack : g.stack = argsL.reverse ++ rest) (hW : 2 * g.monitorRoom + (rest.map fun v => v.category).sum ≤ W9) (hdg : decode c.code g.pc = .ok (.invokestatic index, 3))
    (hpre : ∀ vm₁, s.WarmedH vm₁ → Pre ⟨T.setVm vm₁, locs, cells, slots⟩ argsL.toArray) :
    (∃ (v : Option Value) (vm₁ : Vm) (B : Pt), s.WarmedH vm₁ ∧ Stand p l e R s m args below meth c B.U B.locs B.cells B.slots ∧ Post ⟨T.setVm vm₁, locs, cells, slots⟩ argsL.toArray v B ∧
      ∀ target, Steps p.tables e below (B.U.setTop { g with pc := g.pc + 3, stack := v.toList ++ rest }) target → Steps p.tables e below (T.setTop g) target) ∨
    (∃ (q : Addr) (vm₁ : Vm) (B : Pt), s.WarmedH vm₁ ∧ Stand p l e R s m args below meth c B.U B.locs B.cells B.slots ∧ PostX ⟨T.setVm vm₁, locs, cells, slots⟩ argsL.toArray q B ∧
      Steps p.tables e below (T.setTop g) ((B.U.setTop { g with stack := rest }).pushFrame (.throwing q))) := by
  obtain ⟨mk, hnamed⟩ := Cond.code_named hcode
  obtain ⟨methM, cM, hmethM, -, -, -, -, -, -, hsigM⟩ := Cond.code_spec hnamed hcode
  have hstatic : methM.isStatic = true := Cond.static_spec hnamed hmethM hstat
  obtain ⟨kP, hkP, -⟩ := className_of_methodNamed hnamed
  have hinitP : kP.init = .initialized := Cond.initialized_spec (findClass_of_methodNamed hnamed) hkP hinit
  obtain ⟨vm₁, X₁, hstep₁⟩ := X.invokestatic hexec hown hlink hnamed hmethM hstatic hkP hinitP hy (g := g) hg (argsL := argsL) (rest := rest) (hlen _ hsigM) hstack hdg
  rcases hK m meth c ⟨T.setVm vm₁, locs, cells, slots⟩ { g with stack := rest } (.invokestatic index) mk argsL.toArray X₁ hg hsize hdg hW (X₁.named hnamed) (hpre vm₁ X₁.warmed) with ⟨v, B, X', hpost, hsteps⟩ | ⟨q, B, X', hpost, hsteps⟩
  · exact Or.inl ⟨v, vm₁, B, X₁.warmed, X', hpost, fun target h => hstep₁ _ fun acts => by rw [doInvoke_state]; exact hsteps.trans h⟩
  · exact Or.inr ⟨q, vm₁, B, X₁.warmed, X', hpost, hstep₁ _ fun acts => by rw [doInvoke_state]; exact hsteps⟩
end Calls
theorem vx_cls {s : State} {T : State} {vm₁ : Vm} {E : String} {k : ClassId} (hW : s.WarmedH vm₁) (h : (T.setVm vm₁).vm.findClass E = some k) : s.vm.findClass E = some k := by
  have h1 : vm₁.findClass E = some k := h
  rw [hW.alike.findClass] at h1
  exact h1
/-- the method's frame g, with q thrown over it -/
def vx_W (p : Program) (l : Launch) (e : Env) (R : Room) (s : State) (m : MethodId) (args : Array Value) (below : List Frame) (meth : Method) (c : Code) (H : Heap) (locs : List Loc) (cells slots : Nat) (Q : State → Prop) (g : JFrame) (q : Addr) : Prop :=
  ∀ T : State, T.heap = H → Stand p l e R s m args below meth c T locs cells slots → ∃ t, Steps p.tables e below ((T.setTop g).pushFrame (.throwing q)) t ∧ Q t
def vx_Run (p : Program) (l : Launch) (e : Env) (R : Room) (s : State) (m : MethodId) (args : Array Value) (below : List Frame) (meth : Method) (c : Code) (H : Heap) (locs : List Loc) (cells slots mc ms : Nat) (g : JFrame) (rest : List Value) (Qa : State → Outcome → State → Prop) (XC : String → State → State → Prop) (free : Addr → Prop) : Prop :=
  ∀ T : State, T.heap = H → Stand p l e R s m args below meth c T locs cells slots →
    (∃ (v : Option Value) (st₀ t T' : State) (L : List Loc), st₀.heap = H ∧ Stand p l e R s m args below meth c T' (locs ++ L) (cells + mc) (slots + ms) ∧ (∀ q ∈ L, free q.base) ∧ T'.heap = t.heap ∧ T'.vm = t.vm ∧ Qa st₀ (.returned v) t ∧
      Goes p e below T g T' { g with pc := g.pc + 3, stack := v.toList ++ rest }) ∨
    (∃ (q : Addr) (st₀ t T' : State) (L : List Loc) (E : String) (ce : Cell), st₀.heap = H ∧ Stand p l e R s m args below meth c T' (locs ++ L) (cells + mc) (slots + ms) ∧ (∀ z ∈ L, free z.base) ∧ T'.heap = t.heap ∧ T'.vm = t.vm ∧ XC E st₀ t ∧ t.heap[q]? = some ce ∧ ce.vm = .none ∧ s.vm.findClass E = some ce.cls ∧
      Steps p.tables e below (T.setTop g) ((T'.setTop { g with stack := rest }).pushFrame (.throwing q)))
def vx_X {S : Type} (px : S → Prop) (B : String → S → State → Prop) (A : Nat → Prop) : String → State → State → Prop := fun E st t => ∃ u : S, px u ∧ B E u t ∧ va_F A st t
section Runs
variable {p : Program} {l : Launch} {e : Env} {R : Room} {s : State} {m : MethodId} {args : Array Value} {below : List Frame} {meth : Method} {c : Code} {H : Heap} {locs : List Loc} {cells slots : Nat}
variable {y : MethodName} {bytes cc : ByteArray} {maxL nL mc ms n index : Nat} {ret : Option FieldType} {ws : List Cond} {rm : Room} {Pc : Array Value → State → Prop} {Qc : Array Value → State → Outcome → State → Prop} {XC : String → State → State → Prop} {free : Addr → Prop} {Ts : List Cond} {own C : String} {b : Addr} {As rest : List Value} {g : JFrame}
theorem vx_callBack (cb : CallB R s args own index y bytes maxL ret ws rm mc ms n) (hM : vx_Met l y ws rm Pc Qc XC mc ms free) (hbl : FrameBlind Pc) : vx_Back l R p e below s args y 3 8 (PreOf R mc ms Pc) (PostOf Qc mc ms free) (vx_Post XC mc ms free) := by
  obtain ⟨hrc, hrs, hfr, hlo, hws, hcw, -, hini, -⟩ := cb
  exact vx_back (bytes := bytes) (maxL := maxL) (ret := ret) hM hbl hrc hrs hfr hlo hws hcw (fun a' U hW => word_at hW (Or.inl (by first | rfl | simp [Cond.onTables, Cond.keeps, Cond.steady])) hini)
theorem vx_runV (S : CallFix p m c cc nL s args Ts own) (hM : vx_Met l y ws rm Pc Qc XC mc ms free) (cw : CallW R s args own C index y bytes maxL ret ws rm mc ms n) (hp : PreV s H C b Pc As)
    (hg : g.method = m) (hn : As.length = n) (hsize : g.locals.size = nL) (hstack : g.stack = As.reverse ++ .ref b :: rest) (hW : 2 * g.monitorRoom + (rest.map fun v => v.category).sum ≤ 8) (hdg : decode cc g.pc = .ok (.invokevirtual index, 3)) (hf : cells + mc ≤ R.cells ∧ slots + ms ≤ R.slots) :
    vx_Run p l e R s m args below meth c H locs cells slots mc ms g rest (Qc (Value.ref b :: As).toArray) XC free := by
  have hK : vx_Back l R p e below s args y 3 8 (PreOf R mc ms Pc) (PostOf Qc mc ms free) (vx_Post XC mc ms free) := vx_callBack cw.1 hM hp.1
  obtain ⟨⟨-, -, -, -, -, -, hcode, -, hy, hlen, hl⟩, hin, hse⟩ := cw
  obtain ⟨hx, hb, hml, ho, -⟩ := S
  obtain ⟨-, ⟨cellB, hcB, hoB, hclB⟩, hPc⟩ := hp
  intro T hT X
  rcases vx_callV X hx (C := C) (bytes := bytes) (maxL := maxL) (ret := ret) ho hl hin hse hcode hy hK (by rw [hT]; exact hcB) hoB hclB hg (hsize.trans hml.symm) (argsL := As) (rest := rest) (fun sig h => hn.trans (hlen sig h)) hstack hW (by rw [hb]; exact hdg)
    (fun vm₁ hW₁ => ⟨hf.1, hf.2, hPc (T.setVm vm₁) hT hW₁⟩) with ⟨v, vm₁, ⟨U', l2, c2, s2⟩, hW₁, X', ⟨g', mk, t, L, e1, e2, hq, h1, hL, h2, h3⟩, st⟩ | ⟨q, vm₁, ⟨U', l2, c2, s2⟩, hW₁, X', ⟨g', mk, t, L, E, ce, e1, e2, hq, hce, hcv, hcl, h1, hL, h2, h3⟩, st⟩
  · dsimp only [Pt.U, Pt.locs, Pt.cells, Pt.slots] at X' e1 e2 h1 h2 h3 st
    subst h1; subst h2; subst h3
    exact Or.inl ⟨v, (T.setVm vm₁).calling g' mk (Value.ref b :: As).toArray, t, U', L, hT, X', hL, e1, e2, hq, st⟩
  · dsimp only [Pt.U, Pt.locs, Pt.cells, Pt.slots] at X' e1 e2 h1 h2 h3 st hcl
    subst h1; subst h2; subst h3
    exact Or.inr ⟨q, (T.setVm vm₁).calling g' mk (Value.ref b :: As).toArray, t, U', L, E, ce, hT, X', hL, e1, e2, hq, hce, hcv, vx_cls hW₁ hcl, st⟩
theorem vx_runS (S : CallFix p m c cc nL s args Ts own) (hM : vx_Met l y ws rm Pc Qc XC mc ms free) (cw : CallB R s args own index y bytes maxL ret ws rm mc ms n ∧ (Cond.static y).before args s = true) (hp : PreS s H Pc As)
    (hg : g.method = m) (hn : As.length = n) (hsize : g.locals.size = nL) (hstack : g.stack = As.reverse ++ rest) (hW : 2 * g.monitorRoom + (rest.map fun v => v.category).sum ≤ 8) (hdg : decode cc g.pc = .ok (.invokestatic index, 3)) (hf : cells + mc ≤ R.cells ∧ slots + ms ≤ R.slots) :
    vx_Run p l e R s m args below meth c H locs cells slots mc ms g rest (Qc As.toArray) XC free := by
  have hK : vx_Back l R p e below s args y 3 8 (PreOf R mc ms Pc) (PostOf Qc mc ms free) (vx_Post XC mc ms free) := vx_callBack cw.1 hM hp.1
  obtain ⟨⟨-, -, -, -, -, -, hcode, hini, hy, hlen, hl⟩, hstt⟩ := cw
  obtain ⟨hx, hb, hml, ho, -⟩ := S
  intro T hT X
  rcases vx_callS X hx (bytes := bytes) (maxL := maxL) (ret := ret) ho hl hstt hini hcode hy hK hg (hsize.trans hml.symm) (argsL := As) (rest := rest) (fun sig h => hn.trans (hlen sig h)) hstack hW (by rw [hb]; exact hdg)
    (fun vm₁ hW₁ => ⟨hf.1, hf.2, hp.2 (T.setVm vm₁) hT hW₁⟩) with ⟨v, vm₁, ⟨U', l2, c2, s2⟩, hW₁, X', ⟨g', mk, t, L, e1, e2, hq, h1, hL, h2, h3⟩, st⟩ | ⟨q, vm₁, ⟨U', l2, c2, s2⟩, hW₁, X', ⟨g', mk, t, L, E, ce, e1, e2, hq, hce, hcv, hcl, h1, hL, h2, h3⟩, st⟩
  · dsimp only [Pt.U, Pt.locs, Pt.cells, Pt.slots] at X' e1 e2 h1 h2 h3 st
    subst h1; subst h2; subst h3
    exact Or.inl ⟨v, (T.setVm vm₁).calling g' mk As.toArray, t, U', L, hT, X', hL, e1, e2, hq, st⟩
  · dsimp only [Pt.U, Pt.locs, Pt.cells, Pt.slots] at X' e1 e2 h1 h2 h3 st hcl
    subst h1; subst h2; subst h3
    exact Or.inr ⟨q, (T.setVm vm₁).calling g' mk As.toArray, t, U', L, E, ce, hT, X', hL, e1, e2, hq, hce, hcv, vx_cls hW₁ hcl, st⟩
end Runs
section Rows
variable {p : Program} {l : Launch} {e : Env} {R : Room} {s : State} {m : MethodId} {args : Array Value} {below : List Frame} {meth : Method} {c : Code} {H : Heap} {locs : List Loc} {cells slots : Nat} {Q : State → Prop}
variable {mc ms : Nat} {free : Addr → Prop} {A0 A1 : Nat → Prop} {H0 : Heap} {a : Array Value} {pc : Nat} {ls : Array Slot} {st0 rest : List Value}
theorem vx_keep {st₀ t T' : State} {L : List Loc} (h0 : st₀.heap = H) (e1 : T'.heap = t.heap) (hS : va_S A0 H0 H locs) (hA : ∀ q, q < H.size → A1 q → A0 q) (hf : ∀ q, free q → A0 q) (hL : ∀ q ∈ L, free q.base) (hF : va_F A1 st₀ t) :
    H.size ≤ T'.heap.size ∧ (∀ q : Nat, q < H.size → ¬ A1 q → T'.heap[q]? = H[q]?) ∧ va_S A0 H0 T'.heap (locs ++ L) := by
  obtain ⟨hz, hk⟩ := hF
  rw [h0] at hz hk
  exact ⟨by rw [e1]; exact hz, fun q h1 h2 => by rw [e1]; exact hk q h1 h2,
    ⟨Nat.le_trans hS.1 (by rw [e1]; exact hz), fun q h1 h2 => by rw [e1, hk q (Nat.lt_of_lt_of_le h1 hS.1) (fun z => h2 (hA q (Nat.lt_of_lt_of_le h1 hS.1) z))]; exact hS.2.1 q h1 h2, fun q hq => by
      rcases List.mem_append.mp hq with h | h
      · exact hS.2.2 q h
      · exact hf _ (hL q h)⟩⟩
theorem vx_calli {S SX : Type} {post : Int32 → S → Prop} {px : SX → Prop} {B : S → State → Prop} {BX : String → SX → State → Prop} {AX : Nat → Prop} (hr : vx_Run p l e R s m args below meth c H locs cells slots mc ms (F0 m pc ls st0) rest (va_Qi post B A1 a) (vx_X px BX AX) free) (hS : va_S A0 H0 H locs) (hA : ∀ q, q < H.size → A1 q → A0 q) (hf : ∀ q, free q → A0 q) (hAX : ∀ q, q < H.size → AX q → A0 q)
    (kx : ∀ (E : String) (ce : Cell) (q9 : Addr) (u : SX) (t : State) (H1 : Heap) (locs1 : List Loc), t.heap = H1 → s.vm.Alike t.vm → px u → BX E u t → H.size ≤ H1.size → (∀ q : Nat, q < H.size → ¬ AX q → H1[q]? = H[q]?) → va_S A0 H0 H1 locs1 → H1[q9]? = some ce → ce.vm = .none → s.vm.findClass E = some ce.cls → vx_W p l e R s m args below meth c H1 locs1 (cells + mc) (slots + ms) Q (F0 m pc ls rest) q9)
    (kk : ∀ (r : Int32) (u : S) (t : State) (H1 : Heap) (locs1 : List Loc), t.heap = H1 → s.vm.Alike t.vm → post r u → B u t → H.size ≤ H1.size → (∀ q : Nat, q < H.size → ¬ A1 q → H1[q]? = H[q]?) → va_S A0 H0 H1 locs1 → W p l e R s m args below meth c H1 locs1 (cells + mc) (slots + ms) Q (F0 m (pc + 3) ls (.int r :: rest))) : W p l e R s m args below meth c H locs cells slots Q (F0 m pc ls st0) := by
  intro T hT X
  rcases hr T hT X with ⟨v, st₀, t, T', L, h0, X', hL, e1, e2, ⟨⟨r, u, hv, hp, hb⟩, hF⟩, st⟩ | ⟨q, st₀, t, T', L, E, ce, h0, X', hL, e1, e2, ⟨u, hp, hb, hF⟩, hce, hcv, hcl, st⟩
  · cases hv
    obtain ⟨k1, k2, k3⟩ := vx_keep h0 e1 hS hA hf hL hF
    obtain ⟨t2, a1, b1⟩ := kk r u t T'.heap (locs ++ L) e1.symm (by rw [← e2]; exact X'.warmed.alike) hp hb k1 k2 k3 T' rfl X'
    exact ⟨t2, st t2 a1, b1⟩
  · obtain ⟨k1, k2, k3⟩ := vx_keep h0 e1 hS hAX hf hL hF
    obtain ⟨t2, a1, b1⟩ := kx E ce q u t T'.heap (locs ++ L) e1.symm (by rw [← e2]; exact X'.warmed.alike) hp hb k1 k2 k3 (by rw [e1]; exact hce) hcv hcl T' rfl X'
    exact ⟨t2, st.trans a1, b1⟩
theorem vx_calll {S SX : Type} {post : Int64 → S → Prop} {px : SX → Prop} {B : S → State → Prop} {BX : String → SX → State → Prop} {AX : Nat → Prop} (hr : vx_Run p l e R s m args below meth c H locs cells slots mc ms (F0 m pc ls st0) rest (va_Ql post B A1 a) (vx_X px BX AX) free) (hS : va_S A0 H0 H locs) (hA : ∀ q, q < H.size → A1 q → A0 q) (hf : ∀ q, free q → A0 q) (hAX : ∀ q, q < H.size → AX q → A0 q)
    (kx : ∀ (E : String) (ce : Cell) (q9 : Addr) (u : SX) (t : State) (H1 : Heap) (locs1 : List Loc), t.heap = H1 → s.vm.Alike t.vm → px u → BX E u t → H.size ≤ H1.size → (∀ q : Nat, q < H.size → ¬ AX q → H1[q]? = H[q]?) → va_S A0 H0 H1 locs1 → H1[q9]? = some ce → ce.vm = .none → s.vm.findClass E = some ce.cls → vx_W p l e R s m args below meth c H1 locs1 (cells + mc) (slots + ms) Q (F0 m pc ls rest) q9)
    (kk : ∀ (r : Int64) (u : S) (t : State) (H1 : Heap) (locs1 : List Loc), t.heap = H1 → s.vm.Alike t.vm → post r u → B u t → H.size ≤ H1.size → (∀ q : Nat, q < H.size → ¬ A1 q → H1[q]? = H[q]?) → va_S A0 H0 H1 locs1 → W p l e R s m args below meth c H1 locs1 (cells + mc) (slots + ms) Q (F0 m (pc + 3) ls (.long r :: rest))) : W p l e R s m args below meth c H locs cells slots Q (F0 m pc ls st0) := by
  intro T hT X
  rcases hr T hT X with ⟨v, st₀, t, T', L, h0, X', hL, e1, e2, ⟨⟨r, u, hv, hp, hb⟩, hF⟩, st⟩ | ⟨q, st₀, t, T', L, E, ce, h0, X', hL, e1, e2, ⟨u, hp, hb, hF⟩, hce, hcv, hcl, st⟩
  · cases hv
    obtain ⟨k1, k2, k3⟩ := vx_keep h0 e1 hS hA hf hL hF
    obtain ⟨t2, a1, b1⟩ := kk r u t T'.heap (locs ++ L) e1.symm (by rw [← e2]; exact X'.warmed.alike) hp hb k1 k2 k3 T' rfl X'
    exact ⟨t2, st t2 a1, b1⟩
  · obtain ⟨k1, k2, k3⟩ := vx_keep h0 e1 hS hAX hf hL hF
    obtain ⟨t2, a1, b1⟩ := kx E ce q u t T'.heap (locs ++ L) e1.symm (by rw [← e2]; exact X'.warmed.alike) hp hb k1 k2 k3 (by rw [e1]; exact hce) hcv hcl T' rfl X'
    exact ⟨t2, st.trans a1, b1⟩
theorem vx_callf {S SX : Type} {post : UInt32 → S → Prop} {px : SX → Prop} {B : S → State → Prop} {BX : String → SX → State → Prop} {AX : Nat → Prop} (hr : vx_Run p l e R s m args below meth c H locs cells slots mc ms (F0 m pc ls st0) rest (va_Qf post B A1 a) (vx_X px BX AX) free) (hS : va_S A0 H0 H locs) (hA : ∀ q, q < H.size → A1 q → A0 q) (hf : ∀ q, free q → A0 q) (hAX : ∀ q, q < H.size → AX q → A0 q)
    (kx : ∀ (E : String) (ce : Cell) (q9 : Addr) (u : SX) (t : State) (H1 : Heap) (locs1 : List Loc), t.heap = H1 → s.vm.Alike t.vm → px u → BX E u t → H.size ≤ H1.size → (∀ q : Nat, q < H.size → ¬ AX q → H1[q]? = H[q]?) → va_S A0 H0 H1 locs1 → H1[q9]? = some ce → ce.vm = .none → s.vm.findClass E = some ce.cls → vx_W p l e R s m args below meth c H1 locs1 (cells + mc) (slots + ms) Q (F0 m pc ls rest) q9)
    (kk : ∀ (r : UInt32) (u : S) (t : State) (H1 : Heap) (locs1 : List Loc), t.heap = H1 → s.vm.Alike t.vm → post r u → B u t → H.size ≤ H1.size → (∀ q : Nat, q < H.size → ¬ A1 q → H1[q]? = H[q]?) → va_S A0 H0 H1 locs1 → W p l e R s m args below meth c H1 locs1 (cells + mc) (slots + ms) Q (F0 m (pc + 3) ls (.float r :: rest))) : W p l e R s m args below meth c H locs cells slots Q (F0 m pc ls st0) := by
  intro T hT X
  rcases hr T hT X with ⟨v, st₀, t, T', L, h0, X', hL, e1, e2, ⟨⟨r, u, hv, hp, hb⟩, hF⟩, st⟩ | ⟨q, st₀, t, T', L, E, ce, h0, X', hL, e1, e2, ⟨u, hp, hb, hF⟩, hce, hcv, hcl, st⟩
  · cases hv
    obtain ⟨k1, k2, k3⟩ := vx_keep h0 e1 hS hA hf hL hF
    obtain ⟨t2, a1, b1⟩ := kk r u t T'.heap (locs ++ L) e1.symm (by rw [← e2]; exact X'.warmed.alike) hp hb k1 k2 k3 T' rfl X'
    exact ⟨t2, st t2 a1, b1⟩
  · obtain ⟨k1, k2, k3⟩ := vx_keep h0 e1 hS hAX hf hL hF
    obtain ⟨t2, a1, b1⟩ := kx E ce q u t T'.heap (locs ++ L) e1.symm (by rw [← e2]; exact X'.warmed.alike) hp hb k1 k2 k3 (by rw [e1]; exact hce) hcv hcl T' rfl X'
    exact ⟨t2, st.trans a1, b1⟩
theorem vx_calld {S SX : Type} {post : UInt64 → S → Prop} {px : SX → Prop} {B : S → State → Prop} {BX : String → SX → State → Prop} {AX : Nat → Prop} (hr : vx_Run p l e R s m args below meth c H locs cells slots mc ms (F0 m pc ls st0) rest (va_Qd post B A1 a) (vx_X px BX AX) free) (hS : va_S A0 H0 H locs) (hA : ∀ q, q < H.size → A1 q → A0 q) (hf : ∀ q, free q → A0 q) (hAX : ∀ q, q < H.size → AX q → A0 q)
    (kx : ∀ (E : String) (ce : Cell) (q9 : Addr) (u : SX) (t : State) (H1 : Heap) (locs1 : List Loc), t.heap = H1 → s.vm.Alike t.vm → px u → BX E u t → H.size ≤ H1.size → (∀ q : Nat, q < H.size → ¬ AX q → H1[q]? = H[q]?) → va_S A0 H0 H1 locs1 → H1[q9]? = some ce → ce.vm = .none → s.vm.findClass E = some ce.cls → vx_W p l e R s m args below meth c H1 locs1 (cells + mc) (slots + ms) Q (F0 m pc ls rest) q9)
    (kk : ∀ (r : UInt64) (u : S) (t : State) (H1 : Heap) (locs1 : List Loc), t.heap = H1 → s.vm.Alike t.vm → post r u → B u t → H.size ≤ H1.size → (∀ q : Nat, q < H.size → ¬ A1 q → H1[q]? = H[q]?) → va_S A0 H0 H1 locs1 → W p l e R s m args below meth c H1 locs1 (cells + mc) (slots + ms) Q (F0 m (pc + 3) ls (.double r :: rest))) : W p l e R s m args below meth c H locs cells slots Q (F0 m pc ls st0) := by
  intro T hT X
  rcases hr T hT X with ⟨v, st₀, t, T', L, h0, X', hL, e1, e2, ⟨⟨r, u, hv, hp, hb⟩, hF⟩, st⟩ | ⟨q, st₀, t, T', L, E, ce, h0, X', hL, e1, e2, ⟨u, hp, hb, hF⟩, hce, hcv, hcl, st⟩
  · cases hv
    obtain ⟨k1, k2, k3⟩ := vx_keep h0 e1 hS hA hf hL hF
    obtain ⟨t2, a1, b1⟩ := kk r u t T'.heap (locs ++ L) e1.symm (by rw [← e2]; exact X'.warmed.alike) hp hb k1 k2 k3 T' rfl X'
    exact ⟨t2, st t2 a1, b1⟩
  · obtain ⟨k1, k2, k3⟩ := vx_keep h0 e1 hS hAX hf hL hF
    obtain ⟨t2, a1, b1⟩ := kx E ce q u t T'.heap (locs ++ L) e1.symm (by rw [← e2]; exact X'.warmed.alike) hp hb k1 k2 k3 (by rw [e1]; exact hce) hcv hcl T' rfl X'
    exact ⟨t2, st.trans a1, b1⟩
theorem vx_callv {S SX : Type} {post : S → Prop} {px : SX → Prop} {B : S → State → Prop} {BX : String → SX → State → Prop} {AX : Nat → Prop} (hr : vx_Run p l e R s m args below meth c H locs cells slots mc ms (F0 m pc ls st0) rest (va_Qv post B A1 a) (vx_X px BX AX) free) (hS : va_S A0 H0 H locs) (hA : ∀ q, q < H.size → A1 q → A0 q) (hf : ∀ q, free q → A0 q) (hAX : ∀ q, q < H.size → AX q → A0 q)
    (kx : ∀ (E : String) (ce : Cell) (q9 : Addr) (u : SX) (t : State) (H1 : Heap) (locs1 : List Loc), t.heap = H1 → s.vm.Alike t.vm → px u → BX E u t → H.size ≤ H1.size → (∀ q : Nat, q < H.size → ¬ AX q → H1[q]? = H[q]?) → va_S A0 H0 H1 locs1 → H1[q9]? = some ce → ce.vm = .none → s.vm.findClass E = some ce.cls → vx_W p l e R s m args below meth c H1 locs1 (cells + mc) (slots + ms) Q (F0 m pc ls rest) q9)
    (kk : ∀ (u : S) (t : State) (H1 : Heap) (locs1 : List Loc), t.heap = H1 → s.vm.Alike t.vm → post u → B u t → H.size ≤ H1.size → (∀ q : Nat, q < H.size → ¬ A1 q → H1[q]? = H[q]?) → va_S A0 H0 H1 locs1 → W p l e R s m args below meth c H1 locs1 (cells + mc) (slots + ms) Q (F0 m (pc + 3) ls (rest))) : W p l e R s m args below meth c H locs cells slots Q (F0 m pc ls st0) := by
  intro T hT X
  rcases hr T hT X with ⟨v, st₀, t, T', L, h0, X', hL, e1, e2, ⟨⟨u, hv, hp, hb⟩, hF⟩, st⟩ | ⟨q, st₀, t, T', L, E, ce, h0, X', hL, e1, e2, ⟨u, hp, hb, hF⟩, hce, hcv, hcl, st⟩
  · cases hv
    obtain ⟨k1, k2, k3⟩ := vx_keep h0 e1 hS hA hf hL hF
    obtain ⟨t2, a1, b1⟩ := kk u t T'.heap (locs ++ L) e1.symm (by rw [← e2]; exact X'.warmed.alike) hp hb k1 k2 k3 T' rfl X'
    exact ⟨t2, st t2 a1, b1⟩
  · obtain ⟨k1, k2, k3⟩ := vx_keep h0 e1 hS hAX hf hL hF
    obtain ⟨t2, a1, b1⟩ := kx E ce q u t T'.heap (locs ++ L) e1.symm (by rw [← e2]; exact X'.warmed.alike) hp hb k1 k2 k3 (by rw [e1]; exact hce) hcv hcl T' rfl X'
    exact ⟨t2, st.trans a1, b1⟩
/-- caught by the row x of this method's table; the rows ahead don't take it -/
theorem vx_catch {own name : String} {E : String} {ce : Cell} {q : Addr} (hown : s.vm.findClass own = some m.cls) (pre : List ExceptionTableEntry) (x : ExceptionTableEntry) (suf : List ExceptionTableEntry) (hsplit : c.exceptionTable.toList = pre ++ x :: suf)
    (hpass : ∀ z ∈ pre, covers z pc = false ∨ (z.catchType ≠ 0 ∧ ∃ nm : String, (Cond.classLink own z.catchType nm).before args s = true ∧ va_Nc E nm s)) (hx : covers x pc = true) (h0 : x.catchType ≠ 0)
    (hlink : (Cond.classLink own x.catchType name).before args s = true) (hcast : (Cond.castable E name).before args s = true) (hcell : H[q]? = some ce) (hv : ce.vm = .none) (hcl : s.vm.findClass E = some ce.cls)
    (kk : W p l e R s m args below meth c H locs cells slots Q (F0 m x.handlerPc ls [.ref q])) : vx_W p l e R s m args below meth c H locs cells slots Q (F0 m pc ls rest) q := by
  intro T hT X
  have hpl : e.platform.magicAccessors = ({} : Platform).magicAccessors := by rw [X.admits.platform]
  obtain ⟨c3, c4, hc3, hc4, hasg⟩ := Cond.castable_spec hcast
  cases Option.some.inj (hc3.symm.trans hcl)
  obtain ⟨c5, hc5, hcl5⟩ := Cond.classLink_spec hown hlink e.platform hpl
  cases Option.some.inj (hc4.symm.trans hc5)
  obtain ⟨vm', X', st⟩ := X.thenCaughtThrough q (g := F0 m pc ls rest) rfl (Steps.refl _) (by rw [hT]; exact hcell) (by rw [hv]; rfl) (by obtain ⟨k9, h9, -⟩ := Vm.findClass_spec hcl; exact ⟨k9, h9⟩) pre x suf hsplit
    (fun z hz => by
      rcases hpass z hz with h | ⟨hz0, nm, hl1, hn1⟩
      · exact Or.inl h
      · obtain ⟨c6, hc6, hcl6⟩ := Cond.classLink_spec hown hl1 e.platform hpl
        obtain ⟨a8, b8, h1, h2, h3⟩ := hn1
        cases Option.some.inj (h1.symm.trans hcl)
        cases Option.some.inj (h2.symm.trans hc6)
        exact Or.inr ⟨hz0, _, hcl6, h3⟩) hx (Or.inr ⟨h0, c4, hcl5, hasg⟩)
  obtain ⟨t, a1, b1⟩ := kk (T.setVm vm') hT X'
  exact ⟨t, st.trans a1, b1⟩
end Rows
section Ends
variable {p : Program} {l : Launch} {e : Env} {R : Room} {s : State} {m : MethodId} {args : Array Value} {below : List Frame} {meth : Method} {c : Code} {H : Heap} {locs : List Loc} {cells slots : Nat} {Q : State → Prop}
variable {mc ms : Nat} {free : Addr → Prop} {A0 A1 : Nat → Prop} {H0 : Heap} {a : Array Value} {ls : Array Slot} {st0 rest : List Value}
variable {Qc : Array Value → State → Outcome → State → Prop} {XC : String → State → State → Prop}
/-- what a body that may throw owes at its end -/
def vx_MQ (below : List Frame) (Qc : Array Value → State → Outcome → State → Prop) (XC : String → State → State → Prop) (a : Array Value) (s : State) (mc ms : Nat) (free : Addr → Prop) : State → Prop := fun t =>
  ∃ o, t.status = .running ∧ Ended t below o ∧ vx_Q Qc XC mc ms free a s o t
theorem vx_ret {g : JFrame} {mc ms : Nat} (k : W p l e R s m args below meth c H locs cells slots (MQ below Qc args s mc ms free) g) : W p l e R s m args below meth c H locs cells slots (vx_MQ below Qc XC args s mc ms free) g := by
  intro T hT X
  obtain ⟨t, a1, o, b1, b2, b3, b4⟩ := k T hT X
  exact ⟨t, a1, o, b1, b2, Or.inl ⟨b3, b4⟩⟩
/-- not caught here: it goes on to the caller -/
theorem vx_widen {g : JFrame} {q : Addr} {k n : Nat} (h1 : cells ≤ k) (h2 : slots ≤ n) (kk : vx_W p l e R s m args below meth c H locs k n Q g q) : vx_W p l e R s m args below meth c H locs cells slots Q g q := fun T hT X => kk T hT (stand_widen X h1 h2)
theorem vx_out {pc : Nat} {E : String} {ce : Cell} {q : Addr} {mc ms : Nat} (hout : ∀ x ∈ c.exceptionTable.toList, covers x pc = false) (hlocks : meth.locks = false) (hcell : H[q]? = some ce) (hv : ce.vm = .none) (hcl : s.vm.findClass E = some ce.cls)
    (hx : ∀ t : State, t.heap = H → s.vm.Alike t.vm → XC E s t) (hf : ∀ z ∈ locs, free z.base) (hc : cells ≤ mc) (hs : slots ≤ ms) :
    vx_W p l e R s m args below meth c H locs cells slots (vx_MQ below Qc XC args s mc ms free) (F0 m pc ls rest) q := by
  intro T hT X
  obtain ⟨st1, hrun, hend, hW, hsm⟩ := X.leaveThrown q (g := F0 m pc ls rest) rfl rfl rfl hout hlocks
  have hcell9 : (T.setFrames (.throwing q :: below)).heap[q]? = some ce := by
    show T.heap[q]? = some ce
    rw [hT]; exact hcell
  exact ⟨_, st1, .threw q, hrun, hend, Or.inr ⟨q, rfl, E, ce, locs, hx _ hT hW.alike, hcell9, hv, hcl, hW, hsm.mono hc hs, hf⟩⟩
theorem vx_frame {U : State} {k n : Nat} (h : s.sameButNew ({ U with vm := s.vm } : State) locs k n) : s.heap.size ≤ U.heap.size ∧ ∀ q : Nat, q < s.heap.size → (∀ z ∈ locs, z.base ≠ q) → U.heap[q]? = s.heap[q]? := by
  obtain ⟨-, h2, -, -, -, h6⟩ := h
  refine ⟨h2, fun q hq hz => ?_⟩
  obtain ⟨c9, e1, e2, e3, e4⟩ := h6 q _ (Array.getElem?_eq_getElem hq)
  have hs : c9.slots = (s.heap[q]).slots := Array.ext_getElem? fun i => e4 i fun hm => hz _ hm rfl
  have h9 : c9 = s.heap[q] := by
    rw [hs] at e2
    exact e2
  have e5 : U.heap[q]? = some c9 := e1
  rw [e5, h9, Array.getElem?_eq_getElem hq]
/-- the words of a throw but the four that speak of the heap -/
def vx_no (w : Cond) : Bool := decide (w ≠ .isRef (.static Bundle.tN "UNASSIGNED_STACK" Bundle.steD)) && decide (w ≠ .isRef (.static Bundle.tN "SUPPRESSED_SENTINEL" Bundle.listD)) && decide (w ≠ .laysStatic Bundle.tN "UNASSIGNED_STACK" Bundle.steD) && decide (w ≠ .laysStatic Bundle.tN "SUPPRESSED_SENTINEL" Bundle.listD)
def vx_at0 (own : String) (ic : Nat) (X : String) (names : List String) : List Cond := (Bundle.ownAtoms0 own ic X names).filter vx_no
def vx_atS (own : String) (ic : Nat) (X : String) (names : List String) : List Cond := (Bundle.ownAtoms own ic X names).filter vx_no
/-- a word that the tables alone decide, or a good one -/
def vx_ot (w : Cond) : Bool := w.onTables || goodWord w
theorem vx_ot_at {args a' : Array Value} {s U : State} {w : Cond} (hW : s.WarmedH U.vm) (hvm : s.vm = U.vm) (hg : vx_ot w = true) (h : w.before args s = true) : w.before a' U = true := by
  simp only [vx_ot, Bool.or_eq_true] at hg
  rcases hg with hg | hg
  · exact va_tabs hg hvm h
  · exact word_at hW (good_of_word hg) h
/-- a list's words: the good ones out of the method's own list, the others by premises of their own -/
theorem vx_hat {args : Array Value} {s : State} {L B : List Cond} (h1 : ∀ w ∈ L.filter goodWord, w.before args s = true) (h2 : ∀ w ∈ L.filter (fun w => !goodWord w), w ∈ B) (h3 : ∀ w ∈ B, w.before args s = true) : ∀ w ∈ L, w.before args s = true := by
  intro w hw
  by_cases g : goodWord w = true
  · exact h1 w (List.mem_filter.mpr ⟨hw, g⟩)
  · refine h3 w (h2 w (List.mem_filter.mpr ⟨hw, ?_⟩))
    show (!goodWord w) = true
    cases hgw : goodWord w
    · rfl
    · exact absurd hgw g
theorem vx_c {args : Array Value} {s : State} {w : Cond} {B : List Cond} (h : w.before args s = true) (t : ∀ w ∈ B, w.before args s = true) : ∀ w' ∈ w :: B, w'.before args s = true := fun w' h' => (List.mem_cons.mp h').elim (fun e => by rw [e]; exact h) (t w')
theorem vx_n {args : Array Value} {s : State} : ∀ w ∈ ([] : List Cond), w.before args s = true := fun _ h => nomatch h
theorem vx_own {args : Array Value} {s : State} {L : List Cond} (h1 : ∀ w ∈ L.filter vx_no, w.before args s = true)
    (hU : (Cond.isRef (.static Bundle.tN "UNASSIGNED_STACK" Bundle.steD)).before args s = true) (hN : (Cond.isRef (.static Bundle.tN "SUPPRESSED_SENTINEL" Bundle.listD)).before args s = true)
    (lU : (Cond.laysStatic Bundle.tN "UNASSIGNED_STACK" Bundle.steD).before args s = true) (lN : (Cond.laysStatic Bundle.tN "SUPPRESSED_SENTINEL" Bundle.listD).before args s = true) : ∀ w ∈ L, w.before args s = true := by
  intro w hw
  by_cases e1 : w = .isRef (.static Bundle.tN "UNASSIGNED_STACK" Bundle.steD)
  · rw [e1]; exact hU
  · by_cases e2 : w = .isRef (.static Bundle.tN "SUPPRESSED_SENTINEL" Bundle.listD)
    · rw [e2]; exact hN
    · by_cases e3 : w = .laysStatic Bundle.tN "UNASSIGNED_STACK" Bundle.steD
      · rw [e3]; exact lU
      · by_cases e4 : w = .laysStatic Bundle.tN "SUPPRESSED_SENTINEL" Bundle.listD
        · rw [e4]; exact lN
        · exact h1 w (List.mem_filter.mpr ⟨hw, by unfold vx_no; rw [decide_eq_true e1, decide_eq_true e2, decide_eq_true e3, decide_eq_true e4]; rfl⟩)
/-- where a static field lies, its class's statics cell in H -/
def vx_L (C n d : String) (A : Nat → Prop) (U : State) (H : Heap) : Prop := ∃ (c : ClassId) (k : Class) (i : Nat) (f : Field) (a : Nat) (cell : Cell), U.vm.findClass C = some c ∧ U.fieldFound? C n d = some (c, k, i, f) ∧ f.isStatic = true ∧ k.statics = some a ∧ H[a]? = some cell ∧ cell.vm.isStatics = true ∧ cell.cls = c ∧ f.slot < cell.slots.size ∧ k.staticTypes[f.slot]? = some f.type ∧ ¬ A a
theorem vx_L.moved {C n d : String} {A : Nat → Prop} {u U : State} {H : Heap} (hvm : u.vm.Alike U.vm) (h : vx_L C n d A u H) : vx_L C n d A U H := by
  obtain ⟨c, k, i, f, a, cell, h1, h2, h3, h4, h5, h6, h7, h8, h9, h10⟩ := h
  obtain ⟨k', hi', he⟩ := State.fieldFound?_setVm hvm h2
  exact ⟨c, k', i, f, a, cell, by rw [hvm.findClass]; exact h1, hi', h3, by rw [he]; exact h4, h5, h6, h7, h8, by rw [he]; exact h9, h10⟩
theorem vx_L.kept {C n d : String} {A : Nat → Prop} {U : State} {H H1 : Heap} (h : vx_L C n d A U H) (hq : ∀ a : Nat, a < H.size → ¬ A a → H1[a]? = H[a]?) : vx_L C n d A U H1 := by
  obtain ⟨c, k, i, f, a, cell, h1, h2, h3, h4, h5, h6, h7, h8, h9, h10⟩ := h
  exact ⟨c, k, i, f, a, cell, h1, h2, h3, h4, by rw [hq a (Array.getElem?_eq_some_iff.mp h5).1 h10]; exact h5, h6, h7, h8, h9, h10⟩
theorem vx_L.narrow {C n d : String} {A B : Nat → Prop} {U : State} {H : Heap} (h : vx_L C n d A U H) (hAB : ∀ q, B q → A q) : vx_L C n d B U H := by
  obtain ⟨c, k, i, f, a, cell, h1, h2, h3, h4, h5, h6, h7, h8, h9, h10⟩ := h
  exact ⟨c, k, i, f, a, cell, h1, h2, h3, h4, h5, h6, h7, h8, h9, fun z => h10 (hAB _ z)⟩
theorem vx_L.word {C n d : String} {A : Nat → Prop} {s : State} {args : Array Value} (h : vx_L C n d A s s.heap) : (Cond.laysStatic C n d).before args s = true := by
  obtain ⟨c, k, i, f, a, cell, h1, h2, h3, h4, h5, h6, h7, h8, h9, -⟩ := h
  show (Cond.laysStatic C n d).holds args s none s [] = true
  exact Cond.laysStatic_of h1 h2 h3 h4 h5 h6 h7 h8 h9
/-- .. and what it holds: null or some reference -/
def vx_Zq (C n d : String) (A : Nat → Prop) (U : State) (H : Heap) : Prop := va_Zq C n d A U H ∧ vx_L C n d A U H
theorem vx_Zq.moved {C n d : String} {A : Nat → Prop} {u U : State} {H : Heap} (hvm : u.vm.Alike U.vm) (h : vx_Zq C n d A u H) : vx_Zq C n d A U H := ⟨va_Zq.moved hvm h.1, vx_L.moved hvm h.2⟩
theorem vx_Zq.kept {C n d : String} {A : Nat → Prop} {U : State} {H H1 : Heap} (h : vx_Zq C n d A U H) (hq : ∀ a : Nat, a < H.size → ¬ A a → H1[a]? = H[a]?) : vx_Zq C n d A U H1 := ⟨va_Zq.kept h.1 hq, vx_L.kept h.2 hq⟩
theorem vx_Zq.narrow {C n d : String} {A B : Nat → Prop} {U : State} {H : Heap} (h : vx_Zq C n d A U H) (hAB : ∀ q, B q → A q) : vx_Zq C n d B U H := ⟨va_Zq.narrow h.1 hAB, vx_L.narrow h.2 hAB⟩
theorem vx_Zqof {args : Array Value} {s : State} {C n d : String} {A : Nat → Prop} (hl : (Cond.laysStatic C n d).before args s = true) (hini : (Cond.initialized C).before args s = true) (h : (Cond.isRef (.static C n d)).before args s = true) (hA : ∀ a : Nat, a < s.heap.size → ¬ A a) : vx_Zq C n d A s s.heap := by
  refine ⟨va_Zqof hl hini h hA, ?_⟩
  obtain ⟨c, k, i, f, a, cell, h1, h2, h3, h4, h5, h6, h7, h8, h9⟩ := Cond.laysStatic_spec hl
  exact ⟨c, k, i, f, a, cell, h1, h2, h3, h4, h5, h6, h7, h8, h9, hA a (Array.getElem?_eq_some_iff.mp h5).1⟩
theorem vx_isRef {C n d : String} {v : Value} {A : Nat → Prop} {s : State} {args : Array Value} (h : va_Z C n d v A s s.heap) (hv : v.isRef = true) : (Cond.isRef (.static C n d)).before args s = true := by
  obtain ⟨cf, kf, fi, f, a, cell, h1, h2, h3, h4, h5, h6, h7, -⟩ := h
  have he : (Term.static C n d).eval args s none [] s = some v := by
    simp [Term.eval, State.fieldNamed?, h1, h2, h4, h5, h6, h7]
  simp only [Cond.before, Cond.holds, Cond.value, he]
  cases v <;> simp_all [Value.isRef]
theorem vx_isRefq {C n d : String} {A : Nat → Prop} {s : State} {args : Array Value} (h : va_Zq C n d A s s.heap) : (Cond.isRef (.static C n d)).before args s = true := by
  rcases h with h | ⟨t, h⟩
  · exact vx_isRef h rfl
  · exact vx_isRef h rfl
/-- the same frame, seen from here: as if the method were called anew in this heap -/
theorem vx_rebase {T : State} (X : Stand p l e R s m args below meth c T locs cells slots) {R' : Room} (hf : R'.frames ≤ R.frames) (hl : R'.locals ≤ R.locals) (hc : cells + R'.cells ≤ R.cells) (hs : slots + R'.slots ≤ R.slots) :
    Stand p l e R' ((T.setVm s.vm).setFrames (.invoking m args :: below)) m args below meth c T [] 0 0 := by
  have htop : (T.setVm s.vm).topJava?.isSome := X.here.top
  have hF : ((T.setVm s.vm).setFrames (.invoking m args :: below)).frames = .invoking m args :: below := State.frames_setFrames _ (State.cur_lt_of_top htop)
  obtain ⟨g₀, hg0⟩ := Option.isSome_iff_exists.mp htop
  obtain ⟨r, hr⟩ := State.topJava?_eq_some.mp hg0
  have hl9 : e.platform.stackLimits (T.setVm s.vm).me = e.platform.stackLimits s.me := X.limits
  have hb9 : (T.setVm s.vm).me.stackBytes = s.me.stackBytes := X.bytes
  refine ⟨X.admits, X.cas, X.clock, hF, ?_, X.hears, X.method, X.code, X.here, X.tail, X.warmed, ?_, ?_, ?_⟩
  · have h := X.room
    have hU : ((T.setVm s.vm).setFrames (.invoking m args :: below)).localsInUse = s.localsInUse := by
      rw [State.localsInUse_invoking hF (meth := meth) (c := c) X.method X.code, State.localsInUse_invoking X.frames X.method X.code]
    simp only [State.hasRoom, Bool.and_eq_true, decide_eq_true_eq] at h ⊢
    obtain ⟨⟨⟨⟨h1, h2, h3, h4, h5, h6⟩, h7⟩, h8⟩, h9⟩ := h
    rw [X.frames, List.length_cons] at h2 h3
    have q1 := X.heapSize
    have q2 := X.used
    simp only [hF, hU, List.length_cons, State.stackLimits_setFrames, State.stackBytes_setFrames, hl9, hb9]
    refine ⟨⟨⟨⟨by omega, by omega, by omega, by omega, by omega, h6⟩, ?_⟩, ?_⟩, X.book⟩
    · show T.heap.size + R'.cells ≤ e.platform.maxCells
      omega
    · show T.slotsUsed + R'.slots ≤ e.platform.maxSlots
      omega
  · rw [State.stackLimits_setFrames]; rfl
  · rw [State.stackBytes_setFrames]; rfl
  · refine ⟨?_, Nat.le_refl _, Nat.le_refl _, ?_, ?_, fun a c9 h9 => ⟨c9, h9, rfl, rfl, fun _ _ => rfl⟩⟩
    · obtain ⟨t, ht, -⟩ := State.frames_cons hr
      show T.setVm s.vm = { ((T.setVm s.vm).setFrames (.invoking m args :: below)).setFrames (T.setVm s.vm).frames with heap := T.heap, slotsUsed := T.slotsUsed }
      rw [State.setFrames_setFrames, State.setFrames_self ht]
      rfl
    · show T.slotsUsed = T.slotsUsed + ((T.heap.toList.drop T.heap.size).map (·.slots.size)).sum
      rw [List.drop_eq_nil_of_le (Nat.le_of_eq Array.length_toList)]
      rfl
    · show ((T.heap.toList.drop T.heap.size).map (·.slots.size)).sum ≤ 0
      rw [List.drop_eq_nil_of_le (Nat.le_of_eq Array.length_toList)]
      exact Nat.le_refl _
/-- 'throw new E()': new; dup; invokespecial; athrow -/
theorem vx_throw0 {cc : ByteArray} {pc : Nat} (hexec : p.tables.exec = Jvm.exec) (hb : c.code = cc) (hl : l.stackTraces = false) {own cls : String} {names : List String} {ik ic mc ms : Nat} {A : Nat → Prop}
    (hown : s.vm.findClass own = some m.cls) (hcls : Bundle.fit cls = true) (hnames : ∀ n ∈ names, Bundle.fit n = true)
    (hk : (Cond.classLink own ik cls).before args s = true) (hini : (Cond.initialized cls).before args s = true) (hat : ∀ w ∈ vx_at0 own ic cls names, w.before args s = true)
    (hgood : ∀ w ∈ Cond.classLink own ik cls :: Cond.initialized cls :: vx_at0 own ic cls names, vx_ot w = true)
    (hU : vx_Zq Bundle.tN "UNASSIGNED_STACK" Bundle.steD A s s.heap) (hN : vx_Zq Bundle.tN "SUPPRESSED_SENTINEL" Bundle.listD A s s.heap) (hS : va_S A s.heap H locs) (hsize : ls.size = c.maxLocals)
    (d0 : decode cc pc = .ok (.new ik, 3)) (d3 : decode cc (pc + 3) = .ok (.dup, 1)) (d4 : decode cc (pc + 4) = .ok (.invokespecial ic, 3)) (d7 : decode cc (pc + 7) = .ok (.athrow, 1))
    (hout : ∀ x ∈ c.exceptionTable.toList, covers x (pc + 7) = false)
    (hRframes : names.length + 3 < R.frames) (hRlocals : (rest.map fun v => v.category).sum + (13 * (names.length + 1) + 42) ≤ R.locals) (hRcells : cells + 1 ≤ R.cells) (hRslots : slots + 6 ≤ R.slots) (hlocks : meth.locks = false)
    (hx : ∀ t : State, s.vm.Alike t.vm → H.size ≤ t.heap.size → (∀ q : Nat, q < H.size → t.heap[q]? = H[q]?) → XC cls s t)
    (hf : ∀ z ∈ locs, free z.base) (hc : cells + 1 ≤ mc) (hs : slots + 6 ≤ ms) :
    W p l e R s m args below meth c H locs cells slots (vx_MQ below Qc XC args s mc ms free) (F0 m pc ls rest) := by
  intro T hT X
  have htr : e.platform.stackTraces = false := (show e.platform.stackTraces = l.stackTraces by rw [X.admits.platform]).trans hl
  have Y := vx_rebase X (R' := { frames := R.frames, locals := R.locals, cells := 1, slots := 6 }) (Nat.le_refl _) (Nat.le_refl _) hRcells hRslots
  obtain ⟨s', hA⟩ : ∃ z, z = (T.setVm s.vm).setFrames (.invoking m args :: below) := ⟨_, rfl⟩
  rw [← hA] at Y
  have hvm : s'.vm = s.vm := by rw [hA]; rfl
  have hhp : s'.heap = H := by rw [hA]; exact hT
  have hW0 : s.WarmedH s'.vm := by rw [hvm]; exact State.WarmedH.refl s
  have hat' : ∀ w ∈ vx_at0 own ic cls names, w.before args s' = true := fun w hw => vx_ot_at hW0 hvm.symm (hgood w (List.mem_cons_of_mem _ (List.mem_cons_of_mem _ hw))) (hat w hw)
  have hk' : (Cond.classLink own ik cls).before args s' = true := vx_ot_at hW0 hvm.symm (hgood _ List.mem_cons_self) hk
  have hini' : (Cond.initialized cls).before args s' = true := vx_ot_at hW0 hvm.symm (hgood _ (List.mem_cons_of_mem _ List.mem_cons_self)) hini
  have hU' : vx_Zq Bundle.tN "UNASSIGNED_STACK" Bundle.steD A s' s'.heap := by rw [hhp]; exact vx_Zq.moved hW0.alike (hU.kept hS.2.1)
  have hN' : vx_Zq Bundle.tN "SUPPRESSED_SENTINEL" Bundle.listD A s' s'.heap := by rw [hhp]; exact vx_Zq.moved hW0.alike (hN.kept hS.2.1)
  have h : ∀ w ∈ Bundle.ownAtoms0 own ic cls names, w.before args s' = true := vx_own hat' (vx_isRefq hU'.1) (vx_isRefq hN'.1) hU'.2.word hN'.2.word
  have hown' : s'.vm.findClass own = some m.cls := by rw [hvm]; exact hown
  have hins : (Cond.instantiable cls 6).before args s' = true := h _ (by simp [Bundle.ownAtoms0])
  obtain ⟨vm₁, cX, kX, hfX, hkX, -, -, X₁, st1⟩ := Y.newCold hexec (own := own) (C := cls) (index := ik) (n := 6) hown' hk' hins hini'
    (g := F0 m pc ls rest) rfl (by rw [hb]; exact d0) (Nat.le_refl _) (Nat.le_refl _)
  generalize hT1 : (T.setVm vm₁).pushCell { cls := cX, slots := kX.instanceTypes.map defaultValue, vm := .none } = T1 at X₁ st1
  have hcat : (Value.ref T.heap.size).category = 1 := rfl
  have hcellA : T1.heap[T.heap.size]? = some (freshCell cX kX) := by rw [← hT1]; exact State.heap_pushCell_size _ _
  have d3' : decode c.code (pc + 3) = .ok (.dup, 1) := by rw [hb]; exact d3
  obtain ⟨U, hsteps, hrun, hend, hW, hsame, ce, hce, hO⟩ := X₁.ctorThrow0 hexec htr (own := own) (cls := cls) (names := names) (ic := ic) hown' hcls hnames h (fun x hx => nomatch hx) hfX hkX hcellA (by rw [hhp, hT]; exact Nat.le_refl _)
    (g := { method := m, pc := pc + 4, locals := ls, stack := .ref T.heap.size :: .ref T.heap.size :: rest, locked := none }) rfl hsize rfl rfl (rest := rest) rfl
    (by rw [hb]; exact d4) (by rw [hb]; exact d7) hout hRframes (by simp only [List.map_cons, List.sum_cons, hcat]; omega) hlocks
  obtain ⟨f1, f2⟩ := vx_frame hsame
  rw [hhp] at f1 f2
  have hWs : s.WarmedH U.vm := State.WarmedH.trans hW0 hW
  have hcl : s.vm.findClass cls = some ce.cls := by
    have h9 := hO.cls
    rw [hvm] at h9
    exact h9
  have hall : s.sameButNew ({ U with vm := s.vm } : State) locs mc ms := by
    subst hA
    obtain ⟨e1, e2⟩ := hsame
    rw [State.setFrames_setFrames] at e1
    have h2 : (T.setVm s.vm).sameButNew ({ U with vm := s.vm } : State) [] (0 + 1) (0 + 6) := ⟨e1, e2⟩
    have h3 := X.same.trans h2
    rw [List.append_nil] at h3
    exact h3.mono hc hs
  refine ⟨U, ?_, .threw T.heap.size, hrun, hend, Or.inr ⟨T.heap.size, rfl, cls, ce, locs, hx U hWs.alike f1 (fun q hq => f2 q hq (fun z hz => nomatch hz)), hce, hO.vm, hcl, hWs, hall, hf⟩⟩
  refine st1 _ ?_
  show Steps p.tables e below (T1.setTop { method := m, pc := pc + 3, locals := ls, stack := .ref T.heap.size :: rest, locked := none }) _
  jvm_step X₁.here [X₁.here.top, hexec, d3', Value.category]
  exact hsteps
/-- 'throw new E("text")': new; dup; ldc; invokespecial; athrow -/
theorem vx_throwS {cc : ByteArray} {pc : Nat} (hexec : p.tables.exec = Jvm.exec) (hb : c.code = cc) (hl : l.stackTraces = false) {own cls text : String} {names : List String} {ik is ic mc ms sa : Nat} {A : Nat → Prop}
    (hown : s.vm.findClass own = some m.cls) (hcls : Bundle.fit cls = true) (hnames : ∀ n ∈ names, Bundle.fit n = true)
    (hk : (Cond.classLink own ik cls).before args s = true) (hini : (Cond.initialized cls).before args s = true) (hstr : vk_R own is text sa s) (hat : ∀ w ∈ vx_atS own ic cls names, w.before args s = true)
    (hgood : ∀ w ∈ Cond.classLink own ik cls :: Cond.initialized cls :: vx_atS own ic cls names, vx_ot w = true)
    (hU : vx_Zq Bundle.tN "UNASSIGNED_STACK" Bundle.steD A s s.heap) (hN : vx_Zq Bundle.tN "SUPPRESSED_SENTINEL" Bundle.listD A s s.heap) (hS : va_S A s.heap H locs) (hsize : ls.size = c.maxLocals)
    (d0 : decode cc pc = .ok (.new ik, 3)) (d3 : decode cc (pc + 3) = .ok (.dup, 1)) (d4 : decode cc (pc + 4) = .ok (.ldc is, 2)) (d6 : decode cc (pc + 6) = .ok (.invokespecial ic, 3)) (d9 : decode cc (pc + 9) = .ok (.athrow, 1))
    (hout : ∀ x ∈ c.exceptionTable.toList, covers x (pc + 9) = false)
    (hRframes : names.length + 3 < R.frames) (hRlocals : (rest.map fun v => v.category).sum + (13 * (names.length + 1) + 43) ≤ R.locals) (hRcells : cells + 1 ≤ R.cells) (hRslots : slots + 6 ≤ R.slots) (hlocks : meth.locks = false)
    (hx : ∀ t : State, s.vm.Alike t.vm → H.size ≤ t.heap.size → (∀ q : Nat, q < H.size → t.heap[q]? = H[q]?) → XC cls s t)
    (hf : ∀ z ∈ locs, free z.base) (hc : cells + 1 ≤ mc) (hs : slots + 6 ≤ ms) :
    W p l e R s m args below meth c H locs cells slots (vx_MQ below Qc XC args s mc ms free) (F0 m pc ls rest) := by
  intro T hT X
  have htr : e.platform.stackTraces = false := (show e.platform.stackTraces = l.stackTraces by rw [X.admits.platform]).trans hl
  have Y := vx_rebase X (R' := { frames := R.frames, locals := R.locals, cells := 1, slots := 6 }) (Nat.le_refl _) (Nat.le_refl _) hRcells hRslots
  obtain ⟨s', hA⟩ : ∃ z, z = (T.setVm s.vm).setFrames (.invoking m args :: below) := ⟨_, rfl⟩
  rw [← hA] at Y
  have hvm : s'.vm = s.vm := by rw [hA]; rfl
  have hhp : s'.heap = H := by rw [hA]; exact hT
  have hW0 : s.WarmedH s'.vm := by rw [hvm]; exact State.WarmedH.refl s
  have hat' : ∀ w ∈ vx_atS own ic cls names, w.before args s' = true := fun w hw => vx_ot_at hW0 hvm.symm (hgood w (List.mem_cons_of_mem _ (List.mem_cons_of_mem _ hw))) (hat w hw)
  have hk' : (Cond.classLink own ik cls).before args s' = true := vx_ot_at hW0 hvm.symm (hgood _ List.mem_cons_self) hk
  have hini' : (Cond.initialized cls).before args s' = true := vx_ot_at hW0 hvm.symm (hgood _ (List.mem_cons_of_mem _ List.mem_cons_self)) hini
  have hU' : vx_Zq Bundle.tN "UNASSIGNED_STACK" Bundle.steD A s' s'.heap := by rw [hhp]; exact vx_Zq.moved hW0.alike (hU.kept hS.2.1)
  have hN' : vx_Zq Bundle.tN "SUPPRESSED_SENTINEL" Bundle.listD A s' s'.heap := by rw [hhp]; exact vx_Zq.moved hW0.alike (hN.kept hS.2.1)
  have h : ∀ w ∈ Bundle.ownAtoms own ic cls names, w.before args s' = true := vx_own hat' (vx_isRefq hU'.1) (vx_isRefq hN'.1) hU'.2.word hN'.2.word
  have hown' : s'.vm.findClass own = some m.cls := by rw [hvm]; exact hown
  have hins : (Cond.instantiable cls 6).before args s' = true := h _ (by simp [Bundle.ownAtoms])
  obtain ⟨vm₁, cX, kX, hfX, hkX, -, -, X₁, st1⟩ := Y.newCold hexec (own := own) (C := cls) (index := ik) (n := 6) hown' hk' hins hini'
    (g := F0 m pc ls rest) rfl (by rw [hb]; exact d0) (Nat.le_refl _) (Nat.le_refl _)
  generalize hT1 : (T.setVm vm₁).pushCell { cls := cX, slots := kX.instanceTypes.map defaultValue, vm := .none } = T1 at X₁ st1
  have hcat : (Value.ref T.heap.size).category = 1 := rfl
  have hcellA : T1.heap[T.heap.size]? = some (freshCell cX kX) := by rw [← hT1]; exact State.heap_pushCell_size _ _
  have d3' : decode c.code (pc + 3) = .ok (.dup, 1) := by rw [hb]; exact d3
  have d4' : decode c.code (pc + 4) = .ok (.ldc is, 2) := by rw [hb]; exact d4
  have hstr' : vk_R own is text sa s' := vk_R.warm hW0 hstr
  obtain ⟨U, hsteps, hrun, hend, hW, hsame, ce, hce, hO⟩ := X₁.ctorThrowS hexec htr (own := own) (cls := cls) (names := names) (ic := ic) hown' hcls hnames h (fun x hx => nomatch hx) hfX hkX hcellA (by rw [hhp, hT]; exact Nat.le_refl _) (msg := .ref sa) rfl
    (g := { method := m, pc := pc + 6, locals := ls, stack := .ref sa :: .ref T.heap.size :: .ref T.heap.size :: rest, locked := none }) rfl hsize rfl rfl (rest := rest) rfl
    (by rw [hb]; exact d6) (by rw [hb]; exact d9) hout hRframes (by simp only [List.map_cons, List.sum_cons, hcat]; omega) hlocks
  obtain ⟨f1, f2⟩ := vx_frame hsame
  rw [hhp] at f1 f2
  have hWs : s.WarmedH U.vm := State.WarmedH.trans hW0 hW
  have hcl : s.vm.findClass cls = some ce.cls := by
    have h9 := hO.cls
    rw [hvm] at h9
    exact h9
  have hall : s.sameButNew ({ U with vm := s.vm } : State) locs mc ms := by
    subst hA
    obtain ⟨e1, e2⟩ := hsame
    rw [State.setFrames_setFrames] at e1
    have h2 : (T.setVm s.vm).sameButNew ({ U with vm := s.vm } : State) [] (0 + 1) (0 + 6) := ⟨e1, e2⟩
    have h3 := X.same.trans h2
    rw [List.append_nil] at h3
    exact h3.mono hc hs
  refine ⟨U, ?_, .threw T.heap.size, hrun, hend, Or.inr ⟨T.heap.size, rfl, cls, ce, locs, hx U hWs.alike f1 (fun q hq => f2 q hq (fun z hz => nomatch hz)), hce, hO.vm, hcl, hWs, hall, hf⟩⟩
  refine st1 _ ?_
  show Steps p.tables e below (T1.setTop { method := m, pc := pc + 3, locals := ls, stack := .ref T.heap.size :: rest, locked := none }) _
  jvm_step X₁.here [X₁.here.top, hexec, d3', Value.category]
  exact X₁.ldcString hexec (own := own) (text := text) (index := is) (a := sa) hown' hstr'.1 hstr'.2
    (g := { method := m, pc := pc + 4, locals := ls, stack := .ref T.heap.size :: .ref T.heap.size :: rest, locked := none }) rfl d4' _ hsteps
/-- 'throw new E("text")', the text by a wide index -/
theorem vx_throwSW {cc : ByteArray} {pc : Nat} (hexec : p.tables.exec = Jvm.exec) (hb : c.code = cc) (hl : l.stackTraces = false) {own cls text : String} {names : List String} {ik is ic mc ms sa : Nat} {A : Nat → Prop}
    (hown : s.vm.findClass own = some m.cls) (hcls : Bundle.fit cls = true) (hnames : ∀ n ∈ names, Bundle.fit n = true)
    (hk : (Cond.classLink own ik cls).before args s = true) (hini : (Cond.initialized cls).before args s = true) (hstr : vk_R own is text sa s) (hat : ∀ w ∈ vx_atS own ic cls names, w.before args s = true)
    (hgood : ∀ w ∈ Cond.classLink own ik cls :: Cond.initialized cls :: vx_atS own ic cls names, vx_ot w = true)
    (hU : vx_Zq Bundle.tN "UNASSIGNED_STACK" Bundle.steD A s s.heap) (hN : vx_Zq Bundle.tN "SUPPRESSED_SENTINEL" Bundle.listD A s s.heap) (hS : va_S A s.heap H locs) (hsize : ls.size = c.maxLocals)
    (d0 : decode cc pc = .ok (.new ik, 3)) (d3 : decode cc (pc + 3) = .ok (.dup, 1)) (d4 : decode cc (pc + 4) = .ok (.ldc_w is, 3)) (d7 : decode cc (pc + 7) = .ok (.invokespecial ic, 3)) (d10 : decode cc (pc + 10) = .ok (.athrow, 1))
    (hout : ∀ x ∈ c.exceptionTable.toList, covers x (pc + 10) = false)
    (hRframes : names.length + 3 < R.frames) (hRlocals : (rest.map fun v => v.category).sum + (13 * (names.length + 1) + 43) ≤ R.locals) (hRcells : cells + 1 ≤ R.cells) (hRslots : slots + 6 ≤ R.slots) (hlocks : meth.locks = false)
    (hx : ∀ t : State, s.vm.Alike t.vm → H.size ≤ t.heap.size → (∀ q : Nat, q < H.size → t.heap[q]? = H[q]?) → XC cls s t)
    (hf : ∀ z ∈ locs, free z.base) (hc : cells + 1 ≤ mc) (hs : slots + 6 ≤ ms) :
    W p l e R s m args below meth c H locs cells slots (vx_MQ below Qc XC args s mc ms free) (F0 m pc ls rest) := by
  intro T hT X
  have htr : e.platform.stackTraces = false := (show e.platform.stackTraces = l.stackTraces by rw [X.admits.platform]).trans hl
  have Y := vx_rebase X (R' := { frames := R.frames, locals := R.locals, cells := 1, slots := 6 }) (Nat.le_refl _) (Nat.le_refl _) hRcells hRslots
  obtain ⟨s', hA⟩ : ∃ z, z = (T.setVm s.vm).setFrames (.invoking m args :: below) := ⟨_, rfl⟩
  rw [← hA] at Y
  have hvm : s'.vm = s.vm := by rw [hA]; rfl
  have hhp : s'.heap = H := by rw [hA]; exact hT
  have hW0 : s.WarmedH s'.vm := by rw [hvm]; exact State.WarmedH.refl s
  have hat' : ∀ w ∈ vx_atS own ic cls names, w.before args s' = true := fun w hw => vx_ot_at hW0 hvm.symm (hgood w (List.mem_cons_of_mem _ (List.mem_cons_of_mem _ hw))) (hat w hw)
  have hk' : (Cond.classLink own ik cls).before args s' = true := vx_ot_at hW0 hvm.symm (hgood _ List.mem_cons_self) hk
  have hini' : (Cond.initialized cls).before args s' = true := vx_ot_at hW0 hvm.symm (hgood _ (List.mem_cons_of_mem _ List.mem_cons_self)) hini
  have hU' : vx_Zq Bundle.tN "UNASSIGNED_STACK" Bundle.steD A s' s'.heap := by rw [hhp]; exact vx_Zq.moved hW0.alike (hU.kept hS.2.1)
  have hN' : vx_Zq Bundle.tN "SUPPRESSED_SENTINEL" Bundle.listD A s' s'.heap := by rw [hhp]; exact vx_Zq.moved hW0.alike (hN.kept hS.2.1)
  have h : ∀ w ∈ Bundle.ownAtoms own ic cls names, w.before args s' = true := vx_own hat' (vx_isRefq hU'.1) (vx_isRefq hN'.1) hU'.2.word hN'.2.word
  have hown' : s'.vm.findClass own = some m.cls := by rw [hvm]; exact hown
  have hins : (Cond.instantiable cls 6).before args s' = true := h _ (by simp [Bundle.ownAtoms])
  obtain ⟨vm₁, cX, kX, hfX, hkX, -, -, X₁, st1⟩ := Y.newCold hexec (own := own) (C := cls) (index := ik) (n := 6) hown' hk' hins hini'
    (g := F0 m pc ls rest) rfl (by rw [hb]; exact d0) (Nat.le_refl _) (Nat.le_refl _)
  generalize hT1 : (T.setVm vm₁).pushCell { cls := cX, slots := kX.instanceTypes.map defaultValue, vm := .none } = T1 at X₁ st1
  have hcat : (Value.ref T.heap.size).category = 1 := rfl
  have hcellA : T1.heap[T.heap.size]? = some (freshCell cX kX) := by rw [← hT1]; exact State.heap_pushCell_size _ _
  have d3' : decode c.code (pc + 3) = .ok (.dup, 1) := by rw [hb]; exact d3
  have d4' : decode c.code (pc + 4) = .ok (.ldc_w is, 3) := by rw [hb]; exact d4
  have hstr' : vk_R own is text sa s' := vk_R.warm hW0 hstr
  obtain ⟨U, hsteps, hrun, hend, hW, hsame, ce, hce, hO⟩ := X₁.ctorThrowS hexec htr (own := own) (cls := cls) (names := names) (ic := ic) hown' hcls hnames h (fun x hx => nomatch hx) hfX hkX hcellA (by rw [hhp, hT]; exact Nat.le_refl _) (msg := .ref sa) rfl
    (g := { method := m, pc := pc + 7, locals := ls, stack := .ref sa :: .ref T.heap.size :: .ref T.heap.size :: rest, locked := none }) rfl hsize rfl rfl (rest := rest) rfl
    (by rw [hb]; exact d7) (by rw [hb]; exact d10) hout hRframes (by simp only [List.map_cons, List.sum_cons, hcat]; omega) hlocks
  obtain ⟨f1, f2⟩ := vx_frame hsame
  rw [hhp] at f1 f2
  have hWs : s.WarmedH U.vm := State.WarmedH.trans hW0 hW
  have hcl : s.vm.findClass cls = some ce.cls := by
    have h9 := hO.cls
    rw [hvm] at h9
    exact h9
  have hall : s.sameButNew ({ U with vm := s.vm } : State) locs mc ms := by
    subst hA
    obtain ⟨e1, e2⟩ := hsame
    rw [State.setFrames_setFrames] at e1
    have h2 : (T.setVm s.vm).sameButNew ({ U with vm := s.vm } : State) [] (0 + 1) (0 + 6) := ⟨e1, e2⟩
    have h3 := X.same.trans h2
    rw [List.append_nil] at h3
    exact h3.mono hc hs
  refine ⟨U, ?_, .threw T.heap.size, hrun, hend, Or.inr ⟨T.heap.size, rfl, cls, ce, locs, hx U hWs.alike f1 (fun q hq => f2 q hq (fun z hz => nomatch hz)), hce, hO.vm, hcl, hWs, hall, hf⟩⟩
  refine st1 _ ?_
  show Steps p.tables e below (T1.setTop { method := m, pc := pc + 3, locals := ls, stack := .ref T.heap.size :: rest, locked := none }) _
  jvm_step X₁.here [X₁.here.top, hexec, d3', Value.category]
  exact X₁.ldcStringW hexec (own := own) (text := text) (index := is) (a := sa) hown' hstr'.1 hstr'.2
    (g := { method := m, pc := pc + 4, locals := ls, stack := .ref T.heap.size :: .ref T.heap.size :: rest, locked := none }) rfl d4' _ hsteps
end Ends
section Bodies
variable {l : Launch}
theorem vx_ofW {y : MethodName} {ws ws' : List Cond} {rm : Room} {Pc : Array Value → State → Prop} {Qc : Array Value → State → Outcome → State → Prop} {XC : String → State → State → Prop} {mc ms : Nat} {free : Addr → Prop} {cc : ByteArray} {maxL : Nat} {ret : Option FieldType}
    (hy : plainName y.cls = true) (hw : ws = Cond.code y cc maxL ret :: ws')
    (body : ∀ p e s m args below meth c s₁, BodyLoose p l y (headSpec ws rm) cc maxL ret e s m args below meth c s₁ → c.maxLocals = maxL → (∀ x ∈ c.exceptionTable.toList, False) → Pc args s →
      W p l e (headSpec ws rm).room s m args below meth c s.heap [] 0 0 (vx_MQ below Qc XC args s mc ms free) (entryFrame m args maxL)) : vx_Met l y ws rm Pc Qc XC mc ms free := by
  refine MetFree.of_bodyS (code := cc) (maxLocals := maxL) (ret := ret) hy ?_ ?_
  · intro args s m h hn
    obtain ⟨meth, c, h1, h2, h3, h4, h5, h6, -, -⟩ := Cond.code_spec hn (atoms_spec (ws := ws) h _ (by rw [hw]; exact List.mem_cons_self))
    exact ⟨meth, c, h1, h2, h3, h4, h5, h6⟩
  · intro p e s m args below meth c s₁ B hml hP _
    have hh0 : s₁.heap = s.heap := by rw [B.state]; rfl
    have ht : ∀ x ∈ c.exceptionTable.toList, False := by
      obtain ⟨meth9, c9, h1, h2, -, -, -, -, h7, -⟩ := Cond.code_spec B.named (atoms_spec (ws := ws) B.pre _ (by rw [hw]; exact List.mem_cons_self))
      cases Option.some.inj (h1.symm.trans B.method)
      cases Option.some.inj (h2.symm.trans (Stand.of_body B).code)
      intro x hx
      rw [Array.isEmpty_iff.mp h7] at hx
      cases hx
    obtain ⟨t, a1, o, b1, b2, b3⟩ := body p e s m args below meth c s₁ B hml ht hP s₁ hh0 (Stand.of_body B)
    exact ⟨t, o, a1, b1, b2, b3⟩
/-- the table of a body with handlers -/
theorem vx_table {p : Program} {x y : MethodName} {S : Spec} {cc bytes : ByteArray} {maxL maxL' : Nat} {ret ret' : Option FieldType} {e : Env} {s s₁ : State} {m : MethodId} {args : Array Value} {below : List Frame} {meth : Method} {c : Code} {hh : List (Nat × Nat × Nat × Nat)}
    (B : BodyLoose p l y S cc maxL ret e s m args below meth c s₁) (h : (Cond.codeWith y bytes maxL' ret' hh).before args s = true) : c.exceptionTable.toList = tableOf hh := by
  obtain ⟨m9, meth9, c9, hn9, h1, h2, -, -, h6, -⟩ := Cond.codeWith_spec h
  cases Option.some.inj (hn9.symm.trans B.named)
  cases Option.some.inj (h1.symm.trans B.method)
  cases Option.some.inj (h2.symm.trans (Stand.of_body B).code)
  rw [← h6, table_eq]
end Bodies
end VXA
/-! ===== END ===== -/
/-! ===== BEGIN a static call of a method with an exception table ===== -/
section VXS
variable {p : Program} {l : Launch} {e : Env} {R : Room} {s : State} {m : MethodId} {args : Array Value} {below : List Frame} {meth : Method} {c : Code} {T : State} {H : Heap} {locs : List Loc} {cells slots : Nat}
abbrev vx_CSW (R : Room) (s : State) (args : Array Value) (own : String) (index : Nat) (y : MethodName) (bytes : ByteArray) (maxL : Nat) (ret : Option FieldType) (hh : List (Nat × Nat × Nat × Nat)) (ws : List Cond) (rm : Room) (mc ms n : Nat) : Prop :=
  (rm.cells = mc ∧ rm.slots = ms ∧ rm.frames + 1 ≤ R.frames ∧ 8 + (maxL + 11) + rm.locals ≤ R.locals ∧ (∀ w ∈ ws, ∀ (a' : Array Value) (U : State), s.WarmedH U.vm → w.before a' U = true) ∧ Cond.codeWith y bytes maxL ret hh ∈ ws) ∧
  (Cond.codeWith y bytes maxL ret hh).before args s = true ∧ (Cond.initialized y.cls).before args s = true ∧ (y.cls ≠ "java/lang/invoke/MethodHandle" ∧ y.cls ≠ "java/lang/invoke/VarHandle") ∧
  (∀ sig, parseMethodDescriptor y.desc = some sig → n = sig.parameters.length) ∧ (Cond.methodLink own index y).before args s = true ∧ (Cond.static y).before args s = true
theorem vx_cwSW {own : String} {index maxL mc ms : Nat} {y : MethodName} {bytes : ByteArray} {ret : Option FieldType} {hh : List (Nat × Nat × Nat × Nat)} {Ts ws ws' : List Cond} {rm : Room} (n : Nat) (ht : ∀ w ∈ Ts, w.before args s = true) (hT : GoodIn Ts (va_wsS own index y ws)) (hw : ws = Cond.codeWith y bytes maxL ret hh :: ws') (hrc : rm.cells = mc) (hrs : rm.slots = ms)
    (hd : y.cls ≠ "java/lang/invoke/MethodHandle" ∧ y.cls ≠ "java/lang/invoke/VarHandle" ∧ (parseMethodDescriptor y.desc).map (fun d => d.parameters.length) = some n) (hR : rm.frames + 1 ≤ R.frames ∧ 8 + (maxL + 11) + rm.locals ≤ R.locals) :
    vx_CSW R s args own index y bytes maxL ret hh ws rm mc ms n := by
  have ok : ∀ w ∈ va_wsS own index y ws, w.before args s = true := fun w h => ht w (hT w h).1
  have hG : GoodIn Ts ws := fun w h => hT w (by unfold va_wsS; exact List.mem_append_right _ h)
  have hc : Cond.codeWith y bytes maxL ret hh ∈ ws := by rw [hw]; exact List.mem_cons_self
  refine ⟨⟨hrc, hrs, hR.1, hR.2, pay_in ht hG, hc⟩, ht _ (hG _ hc).1, ok _ (by simp [va_wsS]), ⟨hd.1, hd.2.1⟩, fun sig h => ?_, ok _ (by simp [va_wsS]), ok _ (by simp [va_wsS])⟩
  have h2 := hd.2.2
  rw [h] at h2
  exact (Option.some.inj h2).symm
theorem vx_callSW (X : Stand p l e R s m args below meth c T locs cells slots) (hexec : p.tables.exec = Jvm.exec) {own : String} {index : Nat} {y : MethodName} {bytes : ByteArray} {maxL : Nat} {ret : Option FieldType} {hh : List (Nat × Nat × Nat × Nat)}
    (hown : s.vm.findClass own = some m.cls) (hlink : (Cond.methodLink own index y).before args s = true) (hstat : (Cond.static y).before args s = true) (hinit : (Cond.initialized y.cls).before args s = true)
    (hcode : (Cond.codeWith y bytes maxL ret hh).before args s = true) (hy : y.cls ≠ "java/lang/invoke/MethodHandle" ∧ y.cls ≠ "java/lang/invoke/VarHandle")
    {W9 : Nat} {Pre : Pt → Array Value → Prop} {Post : Pt → Array Value → Option Value → Pt → Prop} (hK : Back l R p e below s args y 3 W9 Pre Post)
    {g : JFrame} (hg : g.method = m) (hsize : g.locals.size = c.maxLocals) {argsL rest : List Value} (hlen : ∀ sig, parseMethodDescriptor y.desc = some sig → argsL.length = sig.parameters.length)
    (hstack : g.stack = argsL.reverse ++ rest) (hW : 2 * g.monitorRoom + (rest.map fun v => v.category).sum ≤ W9) (hdg : decode c.code g.pc = .ok (.invokestatic index, 3))
    (hpre : ∀ vm₁, s.WarmedH vm₁ → Pre ⟨T.setVm vm₁, locs, cells, slots⟩ argsL.toArray) :
    ∃ (v : Option Value) (vm₁ : Vm) (B : Pt), s.WarmedH vm₁ ∧ Stand p l e R s m args below meth c B.U B.locs B.cells B.slots ∧ Post ⟨T.setVm vm₁, locs, cells, slots⟩ argsL.toArray v B ∧
      ∀ target, Steps p.tables e below (B.U.setTop { g with pc := g.pc + 3, stack := v.toList ++ rest }) target → Steps p.tables e below (T.setTop g) target := by
  obtain ⟨mk, methM, cM, hnamed, hmethM, -, -, -, -, -, -, hsigM⟩ := Cond.codeWith_spec hcode
  have hstatic : methM.isStatic = true := Cond.static_spec hnamed hmethM hstat
  obtain ⟨kP, hkP, -⟩ := className_of_methodNamed hnamed
  have hinitP : kP.init = .initialized := Cond.initialized_spec (findClass_of_methodNamed hnamed) hkP hinit
  obtain ⟨vm₁, X₁, hstep₁⟩ := X.invokestatic hexec hown hlink hnamed hmethM hstatic hkP hinitP hy (g := g) hg (argsL := argsL) (rest := rest) (hlen _ hsigM) hstack hdg
  obtain ⟨v, B, X', hpost, hsteps⟩ := hK m meth c ⟨T.setVm vm₁, locs, cells, slots⟩ { g with stack := rest } (.invokestatic index) mk argsL.toArray X₁ hg hsize hdg hW (X₁.named hnamed) (hpre vm₁ X₁.warmed)
  exact ⟨v, vm₁, B, X₁.warmed, X', hpost, fun target h => hstep₁ _ fun acts => by rw [doInvoke_state]; exact hsteps.trans h⟩
theorem vx_runSW {y : MethodName} {bytes cc : ByteArray} {maxL nL mc ms n index : Nat} {ret : Option FieldType} {hh : List (Nat × Nat × Nat × Nat)} {ws : List Cond} {rm : Room} {Pc : Array Value → State → Prop} {Qc : Array Value → State → Outcome → State → Prop} {free : Addr → Prop} {Ts : List Cond} {own : String} {As rest : List Value} {g : JFrame}
    (S : CallFix p m c cc nL s args Ts own) (hM : Met l y ws rm Pc Qc mc ms free) (cw : vx_CSW R s args own index y bytes maxL ret hh ws rm mc ms n) (hp : PreS s H Pc As)
    (hg : g.method = m) (hn : As.length = n) (hsize : g.locals.size = nL) (hstack : g.stack = As.reverse ++ rest) (hW : 2 * g.monitorRoom + (rest.map fun v => v.category).sum ≤ 8) (hdg : decode cc g.pc = .ok (.invokestatic index, 3)) (hf : cells + mc ≤ R.cells ∧ slots + ms ≤ R.slots) :
    va_Run p l e R s m args below meth c H locs cells slots mc ms g rest (Qc As.toArray) (free) := by
  obtain ⟨⟨hrc, hrs, hfr, hlo, hws, hcw⟩, hcode, hini, hy, hlen, hl, hstt⟩ := cw
  have hK : Back l R p e below s args y 3 8 (PreOf R mc ms Pc) (PostOf Qc mc ms free) := va_backW (hh := hh) (bytes := bytes) (maxL := maxL) (ret := ret) hM hp.1 hrc hrs hfr hlo hws hcw (fun a' U hW => word_at hW (Or.inl (by first | rfl | simp [Cond.onTables, Cond.keeps, Cond.steady])) hini)
  obtain ⟨hx, hb, hml, ho, -⟩ := S
  intro T hT X
  obtain ⟨v, vm₁, ⟨U', l2, c2, s2⟩, hW₁, X', ⟨g', mk, t, L, e1, e2, hq, h1, hL, h2, h3⟩, st⟩ := vx_callSW X hx (hh := hh) (bytes := bytes) (maxL := maxL) (ret := ret) ho hl hstt hini hcode hy hK hg (hsize.trans hml.symm) (argsL := As) (rest := rest) (fun sig h => hn.trans (hlen sig h)) hstack hW (by rw [hb]; exact hdg)
    (fun vm₁ hW₁ => ⟨hf.1, hf.2, hp.2 (T.setVm vm₁) hT hW₁⟩)
  dsimp only [Pt.U, Pt.locs, Pt.cells, Pt.slots] at X' e1 e2 h1 h2 h3 st
  subst h1; subst h2; subst h3
  exact ⟨v, (T.setVm vm₁).calling g' mk As.toArray, t, U', L, hT, X', hL, e1, e2, hq, st⟩
/-- not caught here, past rows that name other classes: it goes on to the caller -/
theorem vx_outP {p : Program} {l : Launch} {e : Env} {R : Room} {s : State} {m : MethodId} {args : Array Value} {below : List Frame} {meth : Method} {c : Code} {H : Heap} {locs : List Loc} {cells slots : Nat} {free : Addr → Prop} {ls : Array Slot} {rest : List Value} {Qc : Array Value → State → Outcome → State → Prop} {XC : String → State → State → Prop}
    {pc : Nat} {own E : String} {ce : Cell} {q : Addr} {mc ms : Nat} (hown : s.vm.findClass own = some m.cls) (hlocks : meth.locks = false)
    (hpass : ∀ z ∈ c.exceptionTable.toList, covers z pc = false ∨ (z.catchType ≠ 0 ∧ ∃ nm : String, (Cond.classLink own z.catchType nm).before args s = true ∧ va_Nc E nm s)) (hcell : H[q]? = some ce) (hv : ce.vm = .none) (hcl : s.vm.findClass E = some ce.cls)
    (hx : ∀ t : State, t.heap = H → s.vm.Alike t.vm → XC E s t) (hf : ∀ z ∈ locs, free z.base) (hc : cells ≤ mc) (hs : slots ≤ ms) :
    vx_W p l e R s m args below meth c H locs cells slots (vx_MQ below Qc XC args s mc ms free) (F0 m pc ls rest) q := by
  intro T hT X
  have hpl : e.platform.magicAccessors = ({} : Platform).magicAccessors := by rw [X.admits.platform]
  obtain ⟨vm', hW', X', st⟩ := X.outThrough hlocks q (g := F0 m pc ls rest) rfl rfl rfl (cell := ce) (by rw [hT]; exact hcell) (by rw [hv]; rfl)
    (by obtain ⟨k9, h9, -⟩ := Vm.findClass_spec hcl; exact ⟨k9, h9⟩) (fun z hz => by
      rcases hpass z hz with h | ⟨hz0, nm, hl1, hn1⟩
      · exact Or.inl h
      · obtain ⟨c6, hc6, hcl6⟩ := Cond.classLink_spec hown hl1 e.platform hpl
        obtain ⟨a8, b8, h1, h2, h3⟩ := hn1
        cases Option.some.inj (h1.symm.trans hcl)
        cases Option.some.inj (h2.symm.trans hc6)
        exact Or.inr ⟨hz0, _, hcl6, h3⟩)
  obtain ⟨g₀, hfr⟩ := X'.frames_eq
  have hcell9 : ((T.setVm vm').setFrames (.throwing q :: below)).heap[q]? = some ce := by
    show T.heap[q]? = some ce
    rw [hT]; exact hcell
  have hend : Ended ((T.setVm vm').setFrames (.throwing q :: below)) below (.threw q) := State.frames_setFrames _ (State.cur_lt_of_frames hfr)
  refine ⟨(T.setVm vm').setFrames (.throwing q :: below), ?_, .threw q, X'.here.running, hend, Or.inr ⟨q, rfl, E, ce, locs, hx _ hT (X'.ends _).1.alike, hcell9, hv, hcl, (X'.ends _).1, (X'.ends _).2.mono hc hs, hf⟩⟩
  rw [X.pushThrowing_eq]
  exact st
/-- a thing of a world lies in the heap -/
theorem vx_lt {D : va_G} {cl : List vw_C} {ws : va_W} {H1 : Heap} (h : va_P D cl ws H1) {k : Nat} {q : Nat × va_E} (hk : ws[k]? = some q) : q.1 < H1.size := (h k q hk).lt
end VXS
/-! ===== END ===== -/
/-! ===== BEGIN methods with a table of their own: called by a name, returning or throwing ===== -/
section VXH
/-! vx_backW, vx_callVX, vx_callSX, vx_callVW, vx_runVW, vx_runVX, vx_runSX, vx_ofWH follow the same proofs as their sisters above (Free/Laws.lean, Shelf42/LK1.lean); vx_outP calls Shelf42/NT130.lean (outThrough). -/
section
variable {l : Launch} {R : Room} {p : Program} {e : Env} {below : List Frame} {s : State} {sargs : Array Value} {y : MethodName} {len W9 : Nat}
theorem vx_backW {ws : List Cond} {rm : Room} {Pc : Array Value → State → Prop} {Qc : Array Value → State → Outcome → State → Prop} {XC : String → State → State → Prop} {mc ms : Nat} {free : Addr → Prop} {bytes : ByteArray} {maxL : Nat} {ret : Option FieldType} {hh : List (Nat × Nat × Nat × Nat)}
    (hM : vx_Met l y ws rm Pc Qc XC mc ms free) (hblind : FrameBlind Pc) (hrc : rm.cells = mc) (hrs : rm.slots = ms)
    (hframes : rm.frames + 1 ≤ R.frames) (hlocals : W9 + (maxL + 11) + rm.locals ≤ R.locals)
    (hws : ∀ w ∈ ws, ∀ a' U, s.WarmedH U.vm → w.before a' U = true) (hcode : Cond.codeWith y bytes maxL ret hh ∈ ws) (hinit : ∀ a' U, s.WarmedH U.vm → (Cond.initialized y.cls).before a' U = true) :
    vx_Back l R p e below s sargs y len W9 (PreOf R mc ms Pc) (PostOf Qc mc ms free) (vx_Post XC mc ms free) := by
  intro m meth c A g ig mk a X hg hsize hdg hW hn hp
  have h1 : (headSpec ws rm).pre.before a A.U = true := atoms_intro fun w hw => hws w hw _ _ X.warmed
  have h2 : (Cond.codeWith y bytes maxL ret hh).before a A.U = true := hws _ hcode _ _ X.warmed
  have h3 : (Cond.initialized y.cls).before a A.U = true := hinit _ _ X.warmed
  have h4 : A.cells + (headSpec ws rm).room.cells ≤ R.cells := by rw [show (headSpec ws rm).room.cells = mc from hrc]; exact hp.1
  have h5 : A.slots + (headSpec ws rm).room.slots ≤ R.slots := by rw [show (headSpec ws rm).room.slots = ms from hrs]; exact hp.2.1
  have hPc : Pc a (A.U.calling g mk a) := hblind _ _ _ _ hp.2.2
  obtain ⟨U, Ls, c0, s0⟩ := A
  dsimp only [Pt.U, Pt.locs, Pt.cells, Pt.slots] at h1 h2 h3 h4 h5 X hn hPc ⊢
  obtain ⟨m9, methY, cY, hn9, hmY, hcY, -, hlY, -⟩ := Cond.codeWith_spec h2
  cases Option.some.inj (hn9.symm.trans hn)
  obtain ⟨kY, hkY, -⟩ := className_of_methodNamed hn
  have hinitY : kY.init = .initialized := Cond.initialized_spec (findClass_of_methodNamed hn) hkY h3
  have h : At U g.method c below := by rw [hg]; exact X.here
  have hlocals9 : W9 + (maxL + 11) + (headSpec ws rm).room.locals ≤ R.locals := hlocals
  have happ : (headSpec ws rm).appliesLoose y e.platform (U.calling g mk a) = true :=
    Spec.appliesLoose_calling (g := g) h hdg hn hkY hinitY
      (X.room_calling (g := g) (R' := (headSpec ws rm).room) hsize hmY hcY hframes (by rw [hlY]; omega) h4 h5) h1
  obtain ⟨mid, hmid⟩ := h.above
  have hfr : (U.setTop g).frames = (.java g :: mid) ++ below := by rw [State.frames_setTop' g h.top, hmid]; rfl
  obtain ⟨o, s₂, hsteps, -, hend, hq⟩ := Steps.callFree hM p X.admits X.cas X.clock (acts := []) hfr happ hPc trivial
  have hq' : vx_Q Qc XC mc ms free a (U.calling g mk a) o s₂ := hq
  rw [State.frames_setTop' g h.top] at hend
  obtain ⟨g₀, hg0⟩ := Option.isSome_iff_exists.mp h.top
  obtain ⟨r, hr⟩ := State.topJava?_eq_some.mp hg0
  have hr' : (({ U with heap := s₂.heap, slotsUsed := s₂.slotsUsed } : State).setVm s₂.vm).frames = .java g₀ :: r := hr
  rcases hq' with ⟨hqc, L, hfe, hL⟩ | ⟨q, rfl, E, ce, L, hx, hce, hcv, hcl, hW₂, hsm, hL⟩
  · obtain ⟨⟨v, rfl⟩, hW₂, e2, q2, q3, q4, q5, q6⟩ := id hfe
    have e3 : s₂ = ({ (U.calling g mk a).setFrames s₂.frames with heap := s₂.heap, slotsUsed := s₂.slotsUsed } : State).setVm s₂.vm := by
      have : s₂ = ({ s₂ with vm := (U.calling g mk a).vm } : State).setVm s₂.vm := rfl
      rw [e2] at this
      exact this
    obtain ⟨c₂, i₂, len₂, hc₂, hd₂, hf₂⟩ := hend
    have hW' : U.WarmedH s₂.vm := hW₂
    have hcc : c₂ = c := by
      have h1 : s₂.code? g.method = U.code? g.method := by
        rw [State.code?_eq, State.code?_eq, hW'.alike.method?]
      exact Option.some.inj (hc₂.symm.trans (h1.trans h.code))
    subst hcc
    have hlen : len₂ = len := by rw [hdg] at hd₂; cases hd₂; rfl
    subst hlen
    have hs₂ : s₂ = (({ U with heap := s₂.heap, slotsUsed := s₂.slotsUsed } : State).setVm s₂.vm).setTop { g with pc := g.pc + len₂, stack := v.toList ++ g.stack } := by
      refine e3.trans ?_
      rw [hf₂, State.calling_eq h.top, State.setFrames_setFrames, State.setTop_of_frames _ hr', hr]
      rfl
    have hsame : U.sameButNew ({ U with heap := s₂.heap, slotsUsed := s₂.slotsUsed } : State) L mc ms := by
      refine ⟨?_, q2, q3, q4, q5, q6⟩
      obtain ⟨t, ht, -⟩ := State.frames_cons hr
      show ({ U with heap := s₂.heap, slotsUsed := s₂.slotsUsed } : State) = { U.setFrames U.frames with heap := s₂.heap, slotsUsed := s₂.slotsUsed }
      rw [State.setFrames_self ht]
    subst hg
    refine Or.inl ⟨v, ⟨(({ U with heap := s₂.heap, slotsUsed := s₂.slotsUsed } : State).setVm s₂.vm), Ls ++ L, c0 + mc, s0 + ms⟩,
      ⟨X.admits, X.cas, X.clock, X.frames, X.room, X.hears, X.method, X.code, (X.here.setHeapUsed s₂.heap s₂.slotsUsed).setVm hW'.alike, X.tail, State.WarmedH.trans X.warmed hW', X.limits, X.bytes, X.same.trans (hsame.setVm s.vm)⟩,
      ⟨g, mk, s₂, L, rfl, rfl, hqc, rfl, hL, rfl, rfl⟩, ?_⟩
    show Steps p.tables e below _ ((({ U with heap := s₂.heap, slotsUsed := s₂.slotsUsed } : State).setVm s₂.vm).setTop { g with pc := g.pc + len₂, stack := v.toList ++ g.stack })
    rw [← hs₂]
    exact hsteps
  · obtain ⟨e2, q2, q3, q4, q5, q6⟩ := id hsm
    have e3 : s₂ = ({ (U.calling g mk a).setFrames s₂.frames with heap := s₂.heap, slotsUsed := s₂.slotsUsed } : State).setVm s₂.vm := by
      have : s₂ = ({ s₂ with vm := (U.calling g mk a).vm } : State).setVm s₂.vm := rfl
      rw [e2] at this
      exact this
    have hf₂ : s₂.frames = .throwing q :: .java g :: U.frames.tail := hend
    have hW' : U.WarmedH s₂.vm := hW₂
    have hs₂ : s₂ = ((({ U with heap := s₂.heap, slotsUsed := s₂.slotsUsed } : State).setVm s₂.vm).setTop g).pushFrame (.throwing q) := by
      refine e3.trans ?_
      rw [hf₂, State.calling_eq h.top, State.setFrames_setFrames, State.pushFrame, State.frames_setTop _ hr', State.setTop_of_frames _ hr', State.setFrames_setFrames, hr]
      rfl
    have hsame : U.sameButNew ({ U with heap := s₂.heap, slotsUsed := s₂.slotsUsed } : State) L mc ms := by
      refine ⟨?_, q2, q3, q4, q5, q6⟩
      obtain ⟨t, ht, -⟩ := State.frames_cons hr
      show ({ U with heap := s₂.heap, slotsUsed := s₂.slotsUsed } : State) = { U.setFrames U.frames with heap := s₂.heap, slotsUsed := s₂.slotsUsed }
      rw [State.setFrames_self ht]
    subst hg
    refine Or.inr ⟨q, ⟨(({ U with heap := s₂.heap, slotsUsed := s₂.slotsUsed } : State).setVm s₂.vm), Ls ++ L, c0 + mc, s0 + ms⟩,
      ⟨X.admits, X.cas, X.clock, X.frames, X.room, X.hears, X.method, X.code, (X.here.setHeapUsed s₂.heap s₂.slotsUsed).setVm hW'.alike, X.tail, State.WarmedH.trans X.warmed hW', X.limits, X.bytes, X.same.trans (hsame.setVm s.vm)⟩,
      ⟨g, mk, s₂, L, E, ce, rfl, rfl, hx, hce, hcv, hcl, rfl, hL, rfl, rfl⟩, ?_⟩
    show Steps p.tables e below _ (((({ U with heap := s₂.heap, slotsUsed := s₂.slotsUsed } : State).setVm s₂.vm).setTop g).pushFrame (.throwing q))
    rw [← hs₂]
    exact hsteps
end
variable {p : Program} {l : Launch} {e : Env} {R : Room} {s : State} {m : MethodId} {args : Array Value} {below : List Frame} {meth : Method} {c : Code} {T : State} {H : Heap} {locs : List Loc} {cells slots : Nat}
theorem vx_callVX (X : Stand p l e R s m args below meth c T locs cells slots) (hexec : p.tables.exec = Jvm.exec) {own C : String} {index : Nat} {y : MethodName} {bytes : ByteArray} {maxL : Nat} {ret : Option FieldType} {hh : List (Nat × Nat × Nat × Nat)}
    (hown : s.vm.findClass own = some m.cls) (hlink : (Cond.methodLink own index y).before args s = true) (hinst : (Cond.instanceMethod y).before args s = true) (hsel : (Cond.selects C y y).before args s = true)
    (hcode : (Cond.codeWith y bytes maxL ret hh).before args s = true) (hy : y.cls ≠ "java/lang/invoke/MethodHandle" ∧ y.cls ≠ "java/lang/invoke/VarHandle")
    {W9 : Nat} {Pre : Pt → Array Value → Prop} {Post : Pt → Array Value → Option Value → Pt → Prop} {PostX : Pt → Array Value → Addr → Pt → Prop} (hK : vx_Back l R p e below s args y 3 W9 Pre Post PostX)
    {b : Addr} {cellB : Cell} (hcell : T.heap[b]? = some cellB) (hobj : cellB.vm.isStatics = false) (hcls : s.vm.findClass C = some cellB.cls)
    {g : JFrame} (hg : g.method = m) (hsize : g.locals.size = c.maxLocals) {argsL rest : List Value} (hlen : ∀ sig, parseMethodDescriptor y.desc = some sig → argsL.length = sig.parameters.length)
    (hstack : g.stack = argsL.reverse ++ .ref b :: rest) (hW : 2 * g.monitorRoom + (rest.map fun v => v.category).sum ≤ W9) (hdg : decode c.code g.pc = .ok (.invokevirtual index, 3))
    (hpre : ∀ vm₁, s.WarmedH vm₁ → Pre ⟨T.setVm vm₁, locs, cells, slots⟩ (Value.ref b :: argsL).toArray) :
    (∃ (v : Option Value) (vm₁ : Vm) (B : Pt), s.WarmedH vm₁ ∧ Stand p l e R s m args below meth c B.U B.locs B.cells B.slots ∧ Post ⟨T.setVm vm₁, locs, cells, slots⟩ (Value.ref b :: argsL).toArray v B ∧
      ∀ target, Steps p.tables e below (B.U.setTop { g with pc := g.pc + 3, stack := v.toList ++ rest }) target → Steps p.tables e below (T.setTop g) target) ∨
    (∃ (q : Addr) (vm₁ : Vm) (B : Pt), s.WarmedH vm₁ ∧ Stand p l e R s m args below meth c B.U B.locs B.cells B.slots ∧ PostX ⟨T.setVm vm₁, locs, cells, slots⟩ (Value.ref b :: argsL).toArray q B ∧
      Steps p.tables e below (T.setTop g) ((B.U.setTop { g with stack := rest }).pushFrame (.throwing q))) := by
  obtain ⟨mk, methM, hnamed, hmethM, hstM, habM⟩ := Cond.instanceMethod_spec hinst
  obtain ⟨m8, methM', cM, hn8, hmethM', -, -, -, -, -, -, hsigM⟩ := Cond.codeWith_spec hcode
  cases Option.some.inj (hn8.symm.trans hnamed)
  cases hmethM.symm.trans hmethM'
  obtain ⟨c2, r2, m2, q1, q2, q3, q4, kP, hkP, hkPi⟩ := Cond.selects_spec hsel
  cases hcls.symm.trans q1
  cases (State.methodFound?_of_named hnamed hy).symm.trans q2
  cases hnamed.symm.trans q3
  have hselP : selectMethod e.platform s.vm cellB.cls mk = .method mk := by rw [Launch.admits_selectMethod X.admits]; exact q4
  obtain ⟨vm₁, X₁, hstep₁⟩ := X.invokevirtual hexec hown hlink hnamed hmethM hstM hkP hkPi hy (a := b) (cell := cellB) hcell
    (fun z h => by rw [h] at hobj; cases hobj) hselP hmethM habM hkP hkPi (g := g) hg (argsL := argsL) (rest := rest) (hlen _ hsigM) hstack hdg
  rcases hK m meth c ⟨T.setVm vm₁, locs, cells, slots⟩ { g with stack := rest } (.invokevirtual index) mk (Value.ref b :: argsL).toArray X₁ hg hsize hdg hW (X₁.named hnamed) (hpre vm₁ X₁.warmed) with ⟨v, B, X', hpost, hsteps⟩ | ⟨q, B, X', hpost, hsteps⟩
  · exact Or.inl ⟨v, vm₁, B, X₁.warmed, X', hpost, fun target h => hstep₁ _ fun acts => by rw [doInvoke_state]; exact hsteps.trans h⟩
  · exact Or.inr ⟨q, vm₁, B, X₁.warmed, X', hpost, hstep₁ _ fun acts => by rw [doInvoke_state]; exact hsteps⟩
theorem vx_callSX (X : Stand p l e R s m args below meth c T locs cells slots) (hexec : p.tables.exec = Jvm.exec) {own : String} {index : Nat} {y : MethodName} {bytes : ByteArray} {maxL : Nat} {ret : Option FieldType} {hh : List (Nat × Nat × Nat × Nat)}
    (hown : s.vm.findClass own = some m.cls) (hlink : (Cond.methodLink own index y).before args s = true) (hstat : (Cond.static y).before args s = true) (hinit : (Cond.initialized y.cls).before args s = true)
    (hcode : (Cond.codeWith y bytes maxL ret hh).before args s = true) (hy : y.cls ≠ "java/lang/invoke/MethodHandle" ∧ y.cls ≠ "java/lang/invoke/VarHandle")
    {W9 : Nat} {Pre : Pt → Array Value → Prop} {Post : Pt → Array Value → Option Value → Pt → Prop} {PostX : Pt → Array Value → Addr → Pt → Prop} (hK : vx_Back l R p e below s args y 3 W9 Pre Post PostX)
    {g : JFrame} (hg : g.method = m) (hsize : g.locals.size = c.maxLocals) {argsL rest : List Value} (hlen : ∀ sig, parseMethodDescriptor y.desc = some sig → argsL.length = sig.parameters.length)
    (hstack : g.stack = argsL.reverse ++ rest) (hW : 2 * g.monitorRoom + (rest.map fun v => v.category).sum ≤ W9) (hdg : decode c.code g.pc = .ok (.invokestatic index, 3))
    (hpre : ∀ vm₁, s.WarmedH vm₁ → Pre ⟨T.setVm vm₁, locs, cells, slots⟩ argsL.toArray) :
    (∃ (v : Option Value) (vm₁ : Vm) (B : Pt), s.WarmedH vm₁ ∧ Stand p l e R s m args below meth c B.U B.locs B.cells B.slots ∧ Post ⟨T.setVm vm₁, locs, cells, slots⟩ argsL.toArray v B ∧
      ∀ target, Steps p.tables e below (B.U.setTop { g with pc := g.pc + 3, stack := v.toList ++ rest }) target → Steps p.tables e below (T.setTop g) target) ∨
    (∃ (q : Addr) (vm₁ : Vm) (B : Pt), s.WarmedH vm₁ ∧ Stand p l e R s m args below meth c B.U B.locs B.cells B.slots ∧ PostX ⟨T.setVm vm₁, locs, cells, slots⟩ argsL.toArray q B ∧
      Steps p.tables e below (T.setTop g) ((B.U.setTop { g with stack := rest }).pushFrame (.throwing q))) := by
  obtain ⟨mk, methM, cM, hnamed, hmethM, -, -, -, -, -, -, hsigM⟩ := Cond.codeWith_spec hcode
  have hstatic : methM.isStatic = true := Cond.static_spec hnamed hmethM hstat
  obtain ⟨kP, hkP, -⟩ := className_of_methodNamed hnamed
  have hinitP : kP.init = .initialized := Cond.initialized_spec (findClass_of_methodNamed hnamed) hkP hinit
  obtain ⟨vm₁, X₁, hstep₁⟩ := X.invokestatic hexec hown hlink hnamed hmethM hstatic hkP hinitP hy (g := g) hg (argsL := argsL) (rest := rest) (hlen _ hsigM) hstack hdg
  rcases hK m meth c ⟨T.setVm vm₁, locs, cells, slots⟩ { g with stack := rest } (.invokestatic index) mk argsL.toArray X₁ hg hsize hdg hW (X₁.named hnamed) (hpre vm₁ X₁.warmed) with ⟨v, B, X', hpost, hsteps⟩ | ⟨q, B, X', hpost, hsteps⟩
  · exact Or.inl ⟨v, vm₁, B, X₁.warmed, X', hpost, fun target h => hstep₁ _ fun acts => by rw [doInvoke_state]; exact hsteps.trans h⟩
  · exact Or.inr ⟨q, vm₁, B, X₁.warmed, X', hpost, hstep₁ _ fun acts => by rw [doInvoke_state]; exact hsteps⟩
theorem vx_callVW (X : Stand p l e R s m args below meth c T locs cells slots) (hexec : p.tables.exec = Jvm.exec) {own C : String} {index : Nat} {y : MethodName} {bytes : ByteArray} {maxL : Nat} {ret : Option FieldType} {hh : List (Nat × Nat × Nat × Nat)}
    (hown : s.vm.findClass own = some m.cls) (hlink : (Cond.methodLink own index y).before args s = true) (hinst : (Cond.instanceMethod y).before args s = true) (hsel : (Cond.selects C y y).before args s = true)
    (hcode : (Cond.codeWith y bytes maxL ret hh).before args s = true) (hy : y.cls ≠ "java/lang/invoke/MethodHandle" ∧ y.cls ≠ "java/lang/invoke/VarHandle")
    {W9 : Nat} {Pre : Pt → Array Value → Prop} {Post : Pt → Array Value → Option Value → Pt → Prop} (hK : Back l R p e below s args y 3 W9 Pre Post)
    {b : Addr} {cellB : Cell} (hcell : T.heap[b]? = some cellB) (hobj : cellB.vm.isStatics = false) (hcls : s.vm.findClass C = some cellB.cls)
    {g : JFrame} (hg : g.method = m) (hsize : g.locals.size = c.maxLocals) {argsL rest : List Value} (hlen : ∀ sig, parseMethodDescriptor y.desc = some sig → argsL.length = sig.parameters.length)
    (hstack : g.stack = argsL.reverse ++ .ref b :: rest) (hW : 2 * g.monitorRoom + (rest.map fun v => v.category).sum ≤ W9) (hdg : decode c.code g.pc = .ok (.invokevirtual index, 3))
    (hpre : ∀ vm₁, s.WarmedH vm₁ → Pre ⟨T.setVm vm₁, locs, cells, slots⟩ (Value.ref b :: argsL).toArray) :
    ∃ (v : Option Value) (vm₁ : Vm) (B : Pt), s.WarmedH vm₁ ∧ Stand p l e R s m args below meth c B.U B.locs B.cells B.slots ∧ Post ⟨T.setVm vm₁, locs, cells, slots⟩ (Value.ref b :: argsL).toArray v B ∧
      ∀ target, Steps p.tables e below (B.U.setTop { g with pc := g.pc + 3, stack := v.toList ++ rest }) target → Steps p.tables e below (T.setTop g) target := by
  obtain ⟨mk, methM, hnamed, hmethM, hstM, habM⟩ := Cond.instanceMethod_spec hinst
  obtain ⟨m8, methM', cM, hn8, hmethM', -, -, -, -, -, -, hsigM⟩ := Cond.codeWith_spec hcode
  cases Option.some.inj (hn8.symm.trans hnamed)
  cases hmethM.symm.trans hmethM'
  obtain ⟨c2, r2, m2, q1, q2, q3, q4, kP, hkP, hkPi⟩ := Cond.selects_spec hsel
  cases hcls.symm.trans q1
  cases (State.methodFound?_of_named hnamed hy).symm.trans q2
  cases hnamed.symm.trans q3
  have hselP : selectMethod e.platform s.vm cellB.cls mk = .method mk := by rw [Launch.admits_selectMethod X.admits]; exact q4
  obtain ⟨vm₁, X₁, hstep₁⟩ := X.invokevirtual hexec hown hlink hnamed hmethM hstM hkP hkPi hy (a := b) (cell := cellB) hcell
    (fun z h => by rw [h] at hobj; cases hobj) hselP hmethM habM hkP hkPi (g := g) hg (argsL := argsL) (rest := rest) (hlen _ hsigM) hstack hdg
  obtain ⟨v, B, X', hpost, hsteps⟩ := hK m meth c ⟨T.setVm vm₁, locs, cells, slots⟩ { g with stack := rest } (.invokevirtual index) mk (Value.ref b :: argsL).toArray X₁ hg hsize hdg hW (X₁.named hnamed) (hpre vm₁ X₁.warmed)
  exact ⟨v, vm₁, B, X₁.warmed, X', hpost, fun target h => hstep₁ _ fun acts => by rw [doInvoke_state]; exact hsteps.trans h⟩
abbrev vx_CVW (R : Room) (s : State) (args : Array Value) (own C : String) (index : Nat) (y : MethodName) (bytes : ByteArray) (maxL : Nat) (ret : Option FieldType) (hh : List (Nat × Nat × Nat × Nat)) (ws : List Cond) (rm : Room) (mc ms n : Nat) : Prop :=
  (rm.cells = mc ∧ rm.slots = ms ∧ rm.frames + 1 ≤ R.frames ∧ 8 + (maxL + 11) + rm.locals ≤ R.locals ∧ (∀ w ∈ ws, ∀ (a' : Array Value) (U : State), s.WarmedH U.vm → w.before a' U = true) ∧ Cond.codeWith y bytes maxL ret hh ∈ ws) ∧
  (Cond.codeWith y bytes maxL ret hh).before args s = true ∧ (Cond.initialized y.cls).before args s = true ∧ (y.cls ≠ "java/lang/invoke/MethodHandle" ∧ y.cls ≠ "java/lang/invoke/VarHandle") ∧
  (∀ sig, parseMethodDescriptor y.desc = some sig → n = sig.parameters.length) ∧ (Cond.methodLink own index y).before args s = true ∧ (Cond.instanceMethod y).before args s = true ∧ (Cond.selects C y y).before args s = true
theorem vx_cwVW {own C : String} {index maxL mc ms : Nat} {y : MethodName} {bytes : ByteArray} {ret : Option FieldType} {hh : List (Nat × Nat × Nat × Nat)} {Ts ws ws' : List Cond} {rm : Room} (n : Nat) (ht : ∀ w ∈ Ts, w.before args s = true) (hT : GoodIn Ts (wsV own index C y ws)) (hw : ws = Cond.codeWith y bytes maxL ret hh :: ws') (hrc : rm.cells = mc) (hrs : rm.slots = ms)
    (hd : y.cls = C ∧ y.cls ≠ "java/lang/invoke/MethodHandle" ∧ y.cls ≠ "java/lang/invoke/VarHandle" ∧ (parseMethodDescriptor y.desc).map (fun d => d.parameters.length) = some n) (hR : rm.frames + 1 ≤ R.frames ∧ 8 + (maxL + 11) + rm.locals ≤ R.locals) :
    vx_CVW R s args own C index y bytes maxL ret hh ws rm mc ms n := by
  obtain ⟨hC, hd⟩ := hd
  subst hC
  have ok : ∀ w ∈ wsV own index y.cls y ws, w.before args s = true := fun w h => ht w (hT w h).1
  have hG : GoodIn Ts ws := fun w h => hT w (by unfold wsV; exact List.mem_append_right _ h)
  have hc : Cond.codeWith y bytes maxL ret hh ∈ ws := by rw [hw]; exact List.mem_cons_self
  refine ⟨⟨hrc, hrs, hR.1, hR.2, pay_in ht hG, hc⟩, ht _ (hG _ hc).1, ok _ (by simp [wsV]), ⟨hd.1, hd.2.1⟩, fun sig h => ?_, ok _ (by simp [wsV]), ok _ (by simp [wsV]), ok _ (by simp [wsV])⟩
  have h2 := hd.2.2
  rw [h] at h2
  exact (Option.some.inj h2).symm
theorem vx_runVW {y : MethodName} {bytes cc : ByteArray} {maxL nL mc ms n index : Nat} {ret : Option FieldType} {hh : List (Nat × Nat × Nat × Nat)} {ws : List Cond} {rm : Room} {Pc : Array Value → State → Prop} {Qc : Array Value → State → Outcome → State → Prop} {free : Addr → Prop} {Ts : List Cond} {own C : String} {b : Addr} {As rest : List Value} {g : JFrame}
    (S : CallFix p m c cc nL s args Ts own) (hM : Met l y ws rm Pc Qc mc ms free) (cw : vx_CVW R s args own C index y bytes maxL ret hh ws rm mc ms n) (hp : PreV s H C b Pc As)
    (hg : g.method = m) (hn : As.length = n) (hsize : g.locals.size = nL) (hstack : g.stack = As.reverse ++ .ref b :: rest) (hW : 2 * g.monitorRoom + (rest.map fun v => v.category).sum ≤ 8) (hdg : decode cc g.pc = .ok (.invokevirtual index, 3)) (hf : cells + mc ≤ R.cells ∧ slots + ms ≤ R.slots) :
    va_Run p l e R s m args below meth c H locs cells slots mc ms g rest (Qc (Value.ref b :: As).toArray) free := by
  obtain ⟨⟨hrc, hrs, hfr, hlo, hws, hcw⟩, hcode, hini, hy, hlen, hl, hin, hse⟩ := cw
  have hK : Back l R p e below s args y 3 8 (PreOf R mc ms Pc) (PostOf Qc mc ms free) := va_backW (hh := hh) (bytes := bytes) (maxL := maxL) (ret := ret) hM hp.1 hrc hrs hfr hlo hws hcw (fun a' U hW => word_at hW (Or.inl (by first | rfl | simp [Cond.onTables, Cond.keeps, Cond.steady])) hini)
  obtain ⟨hx, hb, hml, ho, -⟩ := S
  obtain ⟨-, ⟨cellB, hcB, hoB, hclB⟩, hPc⟩ := hp
  intro T hT X
  obtain ⟨v, vm₁, ⟨U', l2, c2, s2⟩, hW₁, X', ⟨g', mk, t, L, e1, e2, hq, h1, hL, h2, h3⟩, st⟩ := vx_callVW X hx (C := C) (hh := hh) (bytes := bytes) (maxL := maxL) (ret := ret) ho hl hin hse hcode hy hK (by rw [hT]; exact hcB) hoB hclB hg (hsize.trans hml.symm) (argsL := As) (rest := rest) (fun sig h => hn.trans (hlen sig h)) hstack hW (by rw [hb]; exact hdg)
    (fun vm₁ hW₁ => ⟨hf.1, hf.2, hPc (T.setVm vm₁) hT hW₁⟩)
  dsimp only [Pt.U, Pt.locs, Pt.cells, Pt.slots] at X' e1 e2 h1 h2 h3 st
  subst h1; subst h2; subst h3
  exact ⟨v, (T.setVm vm₁).calling g' mk (Value.ref b :: As).toArray, t, U', L, hT, X', hL, e1, e2, hq, st⟩
section
variable {y : MethodName} {bytes cc : ByteArray} {maxL nL mc ms n index : Nat} {ret : Option FieldType} {ws : List Cond} {rm : Room} {Pc : Array Value → State → Prop} {Qc : Array Value → State → Outcome → State → Prop} {XC : String → State → State → Prop} {free : Addr → Prop} {Ts : List Cond} {own C : String} {b : Addr} {As rest : List Value} {g : JFrame}
theorem vx_runVX {hh : List (Nat × Nat × Nat × Nat)} (S : CallFix p m c cc nL s args Ts own) (hM : vx_Met l y ws rm Pc Qc XC mc ms free) (cw : vx_CVW R s args own C index y bytes maxL ret hh ws rm mc ms n) (hp : PreV s H C b Pc As)
    (hg : g.method = m) (hn : As.length = n) (hsize : g.locals.size = nL) (hstack : g.stack = As.reverse ++ .ref b :: rest) (hW : 2 * g.monitorRoom + (rest.map fun v => v.category).sum ≤ 8) (hdg : decode cc g.pc = .ok (.invokevirtual index, 3)) (hf : cells + mc ≤ R.cells ∧ slots + ms ≤ R.slots) :
    vx_Run p l e R s m args below meth c H locs cells slots mc ms g rest (Qc (Value.ref b :: As).toArray) XC free := by
  obtain ⟨⟨hrc, hrs, hfr, hlo, hws, hcw⟩, hcode, hini, hy, hlen, hl, hin, hse⟩ := cw
  have hK : vx_Back l R p e below s args y 3 8 (PreOf R mc ms Pc) (PostOf Qc mc ms free) (vx_Post XC mc ms free) := vx_backW (hh := hh) (bytes := bytes) (maxL := maxL) (ret := ret) hM hp.1 hrc hrs hfr hlo hws hcw (fun a' U hW => word_at hW (Or.inl (by first | rfl | simp [Cond.onTables, Cond.keeps, Cond.steady])) hini)
  obtain ⟨hx, hb, hml, ho, -⟩ := S
  obtain ⟨-, ⟨cellB, hcB, hoB, hclB⟩, hPc⟩ := hp
  intro T hT X
  rcases vx_callVX X hx (C := C) (hh := hh) (bytes := bytes) (maxL := maxL) (ret := ret) ho hl hin hse hcode hy hK (by rw [hT]; exact hcB) hoB hclB hg (hsize.trans hml.symm) (argsL := As) (rest := rest) (fun sig h => hn.trans (hlen sig h)) hstack hW (by rw [hb]; exact hdg)
    (fun vm₁ hW₁ => ⟨hf.1, hf.2, hPc (T.setVm vm₁) hT hW₁⟩) with ⟨v, vm₁, ⟨U', l2, c2, s2⟩, hW₁, X', ⟨g', mk, t, L, e1, e2, hq, h1, hL, h2, h3⟩, st⟩ | ⟨q, vm₁, ⟨U', l2, c2, s2⟩, hW₁, X', ⟨g', mk, t, L, E, ce, e1, e2, hq, hce, hcv, hcl, h1, hL, h2, h3⟩, st⟩
  · dsimp only [Pt.U, Pt.locs, Pt.cells, Pt.slots] at X' e1 e2 h1 h2 h3 st
    subst h1; subst h2; subst h3
    exact Or.inl ⟨v, (T.setVm vm₁).calling g' mk (Value.ref b :: As).toArray, t, U', L, hT, X', hL, e1, e2, hq, st⟩
  · dsimp only [Pt.U, Pt.locs, Pt.cells, Pt.slots] at X' e1 e2 h1 h2 h3 st hcl
    subst h1; subst h2; subst h3
    exact Or.inr ⟨q, (T.setVm vm₁).calling g' mk (Value.ref b :: As).toArray, t, U', L, E, ce, hT, X', hL, e1, e2, hq, hce, hcv, vx_cls hW₁ hcl, st⟩
theorem vx_runSX {hh : List (Nat × Nat × Nat × Nat)} (S : CallFix p m c cc nL s args Ts own) (hM : vx_Met l y ws rm Pc Qc XC mc ms free) (cw : vx_CSW R s args own index y bytes maxL ret hh ws rm mc ms n) (hp : PreS s H Pc As)
    (hg : g.method = m) (hn : As.length = n) (hsize : g.locals.size = nL) (hstack : g.stack = As.reverse ++ rest) (hW : 2 * g.monitorRoom + (rest.map fun v => v.category).sum ≤ 8) (hdg : decode cc g.pc = .ok (.invokestatic index, 3)) (hf : cells + mc ≤ R.cells ∧ slots + ms ≤ R.slots) :
    vx_Run p l e R s m args below meth c H locs cells slots mc ms g rest (Qc As.toArray) XC free := by
  obtain ⟨⟨hrc, hrs, hfr, hlo, hws, hcw⟩, hcode, hini, hy, hlen, hl, hstt⟩ := cw
  have hK : vx_Back l R p e below s args y 3 8 (PreOf R mc ms Pc) (PostOf Qc mc ms free) (vx_Post XC mc ms free) := vx_backW (hh := hh) (bytes := bytes) (maxL := maxL) (ret := ret) hM hp.1 hrc hrs hfr hlo hws hcw (fun a' U hW => word_at hW (Or.inl (by first | rfl | simp [Cond.onTables, Cond.keeps, Cond.steady])) hini)
  obtain ⟨hx, hb, hml, ho, -⟩ := S
  intro T hT X
  rcases vx_callSX X hx (hh := hh) (bytes := bytes) (maxL := maxL) (ret := ret) ho hl hstt hini hcode hy hK hg (hsize.trans hml.symm) (argsL := As) (rest := rest) (fun sig h => hn.trans (hlen sig h)) hstack hW (by rw [hb]; exact hdg)
    (fun vm₁ hW₁ => ⟨hf.1, hf.2, hp.2 (T.setVm vm₁) hT hW₁⟩) with ⟨v, vm₁, ⟨U', l2, c2, s2⟩, hW₁, X', ⟨g', mk, t, L, e1, e2, hq, h1, hL, h2, h3⟩, st⟩ | ⟨q, vm₁, ⟨U', l2, c2, s2⟩, hW₁, X', ⟨g', mk, t, L, E, ce, e1, e2, hq, hce, hcv, hcl, h1, hL, h2, h3⟩, st⟩
  · dsimp only [Pt.U, Pt.locs, Pt.cells, Pt.slots] at X' e1 e2 h1 h2 h3 st
    subst h1; subst h2; subst h3
    exact Or.inl ⟨v, (T.setVm vm₁).calling g' mk As.toArray, t, U', L, hT, X', hL, e1, e2, hq, st⟩
  · dsimp only [Pt.U, Pt.locs, Pt.cells, Pt.slots] at X' e1 e2 h1 h2 h3 st hcl
    subst h1; subst h2; subst h3
    exact Or.inr ⟨q, (T.setVm vm₁).calling g' mk As.toArray, t, U', L, E, ce, hT, X', hL, e1, e2, hq, hce, hcv, vx_cls hW₁ hcl, st⟩
end
end VXH
theorem vx_ofWH {l : Launch} {y : MethodName} {ws ws' : List Cond} {rm : Room} {Pc : Array Value → State → Prop} {Qc : Array Value → State → Outcome → State → Prop} {XC : String → State → State → Prop} {mc ms : Nat} {free : Addr → Prop} {cc : ByteArray} {maxL : Nat} {ret : Option FieldType} {hh : List (Nat × Nat × Nat × Nat)}
    (hy : plainName y.cls = true) (hw : ws = Cond.codeWith y cc maxL ret hh :: ws')
    (body : ∀ p e s m args below meth c s₁, BodyLoose p l y (headSpec ws rm) cc maxL ret e s m args below meth c s₁ → c.maxLocals = maxL → Pc args s →
      W p l e (headSpec ws rm).room s m args below meth c s.heap [] 0 0 (vx_MQ below Qc XC args s mc ms free) (entryFrame m args maxL)) : vx_Met l y ws rm Pc Qc XC mc ms free := by
  refine MetFree.of_bodyS (code := cc) (maxLocals := maxL) (ret := ret) hy ?_ ?_
  · intro args s m h hn
    obtain ⟨m9, meth, c, hn9, h1, h2, h3, h4, -, h5, h6, -⟩ := Cond.codeWith_spec (atoms_spec (ws := ws) h _ (by rw [hw]; exact List.mem_cons_self))
    cases hn.symm.trans hn9
    exact ⟨meth, c, h1, h2, h3, h4, h5, h6⟩
  · intro p e s m args below meth c s₁ B hml hP _
    have hh0 : s₁.heap = s.heap := by rw [B.state]; rfl
    obtain ⟨t, a1, o, b1, b2, b3⟩ := body p e s m args below meth c s₁ B hml hP s₁ hh0 (Stand.of_body B)
    exact ⟨t, o, a1, b1, b2, b3⟩
/-! ===== END ===== -/


def RL : String := "SheetMakerLaw"
def RX0 : String := "SheetMaker$Name"
def TX0 : u_T := fun k => match k with
  | 0 => ("SheetMaker$Name", "length", "I", true)
  | 1 => ("SheetMaker$Name", "rank", "I", true)
  | 2 => ("SheetMaker$Name", "x", "I", false)
  | _ => ("SheetMaker$Name", "y", "I", false)
def tyX0 : Nat → FieldType := fun k => match k with
  | 0 => .int
  | 1 => .int
  | 2 => .int
  | _ => .int
abbrev wsX00 : List Cond := u_ws RX0 TX0 4
theorem nmX0 : ∀ a, a < 4 → ∀ b, b < 4 → a ≠ b → (TX0 a).2.1 ≠ (TX0 b).2.1 := by decide +kernel
theorem tyX0_ok : ∀ k, k < 4 → parseFieldDescriptor (TX0 k).2.2.1 = some (tyX0 k) := by decide +kernel
abbrev cX0_init : ByteArray := prog_2_method_1_code
def yX0_init : MethodName := ⟨RX0, "<init>", "(IIII)V"⟩
abbrev cX0_length : ByteArray := prog_2_method_2_code
def yX0_length : MethodName := ⟨RX0, "length", "()I"⟩
abbrev cX0_rank : ByteArray := prog_2_method_3_code
def yX0_rank : MethodName := ⟨RX0, "rank", "()I"⟩
abbrev cX0_place : ByteArray := prog_2_method_4_code
def yX0_place : MethodName := ⟨RX0, "place", "()I"⟩
abbrev cX0_put : ByteArray := prog_2_method_5_code
def yX0_put : MethodName := ⟨RX0, "put", "(II)V"⟩
abbrev cX0_labelX : ByteArray := prog_2_method_6_code
def yX0_labelX : MethodName := ⟨RX0, "labelX", "(I)I"⟩
abbrev cX0_labelY : ByteArray := prog_2_method_7_code
def yX0_labelY : MethodName := ⟨RX0, "labelY", "(I)I"⟩
def RX1 : String := "SheetMaker$Names"
def TX1 : u_T := fun k => match k with
  | _ => ("SheetMaker$Names", "list", "Ljava/util/ArrayList;", true)
def tyX1 : Nat → FieldType := fun k => match k with
  | _ => .object "java/util/ArrayList"
abbrev wsX10 : List Cond := u_ws RX1 TX1 1
theorem nmX1 : ∀ a, a < 1 → ∀ b, b < 1 → a ≠ b → (TX1 a).2.1 ≠ (TX1 b).2.1 := by decide +kernel
theorem tyX1_ok : ∀ k, k < 1 → parseFieldDescriptor (TX1 k).2.2.1 = some (tyX1 k) := by decide +kernel
abbrev cX1_init : ByteArray := prog_3_method_1_code
def yX1_init : MethodName := ⟨RX1, "<init>", "()V"⟩
abbrev cX1_size : ByteArray := prog_3_method_2_code
def yX1_size : MethodName := ⟨RX1, "size", "()I"⟩
abbrev cX1_get : ByteArray := prog_3_method_3_code
def yX1_get : MethodName := ⟨RX1, "get", "(I)LSheetMaker$Name;"⟩
abbrev cX1_add : ByteArray := prog_3_method_4_code
def yX1_add : MethodName := ⟨RX1, "add", "(LSheetMaker$Name;)V"⟩
abbrev cX1_drawLabels : ByteArray := prog_3_method_5_code
def yX1_drawLabels : MethodName := ⟨RX1, "drawLabels", "(LSheetMaker$Sheet;LSheetMaker$Picture;)V"⟩
abbrev cX1_drawLabel : ByteArray := prog_3_method_6_code
def yX1_drawLabel : MethodName := ⟨RX1, "drawLabel", "(ILSheetMaker$Name;LSheetMaker$Sheet;LSheetMaker$Picture;)V"⟩
abbrev cX1_labelTaking : ByteArray := prog_3_method_7_code
def yX1_labelTaking : MethodName := ⟨RX1, "labelTaking", "(IILSheetMaker$Picture;)I"⟩
def RX2 : String := "SheetMaker$Picture"
def TX2 : u_T := fun k => match k with
  | 0 => ("SheetMaker$Picture", "starts", "[I", true)
  | 1 => ("SheetMaker$Picture", "sides", "[I", true)
  | _ => ("SheetMaker$Picture", "lines", "[I", true)
def tyX2 : Nat → FieldType := fun k => match k with
  | 0 => .array .int
  | 1 => .array .int
  | _ => .array .int
abbrev wsX20 : List Cond := u_ws RX2 TX2 3
theorem nmX2 : ∀ a, a < 3 → ∀ b, b < 3 → a ≠ b → (TX2 a).2.1 ≠ (TX2 b).2.1 := by decide +kernel
theorem tyX2_ok : ∀ k, k < 3 → parseFieldDescriptor (TX2 k).2.2.1 = some (tyX2 k) := by decide +kernel
abbrev cX2_init : ByteArray := prog_4_method_1_code
def yX2_init : MethodName := ⟨RX2, "<init>", "()V"⟩
abbrev cX2_clearLabels : ByteArray := prog_4_method_2_code
def yX2_clearLabels : MethodName := ⟨RX2, "clearLabels", "()V"⟩
abbrev cX2_clearRoads : ByteArray := prog_4_method_3_code
def yX2_clearRoads : MethodName := ⟨RX2, "clearRoads", "()V"⟩
abbrev cX2_putLabel : ByteArray := prog_4_method_4_code
def yX2_putLabel : MethodName := ⟨RX2, "putLabel", "(III)V"⟩
abbrev cX2_putPoint : ByteArray := prog_4_method_5_code
def yX2_putPoint : MethodName := ⟨RX2, "putPoint", "(III)V"⟩
abbrev cX2_sideOf : ByteArray := prog_4_method_6_code
def yX2_sideOf : MethodName := ⟨RX2, "sideOf", "(I)I"⟩
abbrev cX2_startOf : ByteArray := prog_4_method_7_code
def yX2_startOf : MethodName := ⟨RX2, "startOf", "(I)I"⟩
abbrev cX2_pointOf : ByteArray := prog_4_method_8_code
def yX2_pointOf : MethodName := ⟨RX2, "pointOf", "(II)I"⟩
abbrev cX2_differencesFrom : ByteArray := prog_4_method_9_code
def yX2_differencesFrom : MethodName := ⟨RX2, "differencesFrom", "(LSheetMaker$Picture;)I"⟩
abbrev cX2_hasSameRoad : ByteArray := prog_4_method_10_code
def yX2_hasSameRoad : MethodName := ⟨RX2, "hasSameRoad", "(ILSheetMaker$Picture;)Z"⟩
abbrev cX2_copyFrom : ByteArray := prog_4_method_11_code
def yX2_copyFrom : MethodName := ⟨RX2, "copyFrom", "(LSheetMaker$Picture;)V"⟩
def RX3 : String := "SheetMaker$Road"
def TX3 : u_T := fun k => match k with
  | 0 => ("SheetMaker$Road", "places", "[I", true)
  | 1 => ("SheetMaker$Road", "leftSets", "[I", true)
  | 2 => ("SheetMaker$Road", "size", "I", false)
  | _ => ("SheetMaker$Road", "rank", "I", false)
def tyX3 : Nat → FieldType := fun k => match k with
  | 0 => .array .int
  | 1 => .array .int
  | 2 => .int
  | _ => .int
abbrev wsX30 : List Cond := u_ws RX3 TX3 4
theorem nmX3 : ∀ a, a < 4 → ∀ b, b < 4 → a ≠ b → (TX3 a).2.1 ≠ (TX3 b).2.1 := by decide +kernel
theorem tyX3_ok : ∀ k, k < 4 → parseFieldDescriptor (TX3 k).2.2.1 = some (tyX3 k) := by decide +kernel
abbrev cX3_init : ByteArray := prog_5_method_1_code
def yX3_init : MethodName := ⟨RX3, "<init>", "()V"⟩
abbrev cX3_size : ByteArray := prog_5_method_2_code
def yX3_size : MethodName := ⟨RX3, "size", "()I"⟩
abbrev cX3_placeAt : ByteArray := prog_5_method_3_code
def yX3_placeAt : MethodName := ⟨RX3, "placeAt", "(I)I"⟩
abbrev cX3_append : ByteArray := prog_5_method_4_code
def yX3_append : MethodName := ⟨RX3, "append", "(I)V"⟩
abbrev cX3_put : ByteArray := prog_5_method_5_code
def yX3_put : MethodName := ⟨RX3, "put", "(II)V"⟩
abbrev cX3_giveRank : ByteArray := prog_5_method_6_code
def yX3_giveRank : MethodName := ⟨RX3, "giveRank", "(I)V"⟩
abbrev cX3_isShownOn : ByteArray := prog_5_method_7_code
def yX3_isShownOn : MethodName := ⟨RX3, "isShownOn", "(I)Z"⟩
abbrev cX3_allPoints : ByteArray := prog_5_method_8_code
def yX3_allPoints : MethodName := ⟨RX3, "allPoints", "()I"⟩
abbrev cX3_leftOn : ByteArray := prog_5_method_9_code
def yX3_leftOn : MethodName := ⟨RX3, "leftOn", "(I)I"⟩
abbrev cX3_keepLeft : ByteArray := prog_5_method_10_code
def yX3_keepLeft : MethodName := ⟨RX3, "keepLeft", "(II)V"⟩
abbrev cX3_hasPointAt : ByteArray := prog_5_method_11_code
def yX3_hasPointAt : MethodName := ⟨RX3, "hasPointAt", "(II)Z"⟩
abbrev cX3_hasPointOn : ByteArray := prog_5_method_12_code
def yX3_hasPointOn : MethodName := ⟨RX3, "hasPointOn", "(LSheetMaker$Sheet;I)Z"⟩
abbrev cX3_triangleOf : ByteArray := prog_5_method_13_code
def yX3_triangleOf : MethodName := ⟨RX3, "triangleOf", "(II)I"⟩
def RX4 : String := "SheetMaker$Roads"
def TX4 : u_T := fun k => match k with
  | _ => ("SheetMaker$Roads", "list", "Ljava/util/ArrayList;", true)
def tyX4 : Nat → FieldType := fun k => match k with
  | _ => .object "java/util/ArrayList"
abbrev wsX40 : List Cond := u_ws RX4 TX4 1
theorem nmX4 : ∀ a, a < 1 → ∀ b, b < 1 → a ≠ b → (TX4 a).2.1 ≠ (TX4 b).2.1 := by decide +kernel
theorem tyX4_ok : ∀ k, k < 1 → parseFieldDescriptor (TX4 k).2.2.1 = some (tyX4 k) := by decide +kernel
abbrev cX4_init : ByteArray := prog_6_method_1_code
def yX4_init : MethodName := ⟨RX4, "<init>", "()V"⟩
abbrev cX4_size : ByteArray := prog_6_method_2_code
def yX4_size : MethodName := ⟨RX4, "size", "()I"⟩
abbrev cX4_get : ByteArray := prog_6_method_3_code
def yX4_get : MethodName := ⟨RX4, "get", "(I)LSheetMaker$Road;"⟩
abbrev cX4_add : ByteArray := prog_6_method_4_code
def yX4_add : MethodName := ⟨RX4, "add", "(LSheetMaker$Road;)V"⟩
abbrev cX4_generalise : ByteArray := prog_6_method_5_code
def yX4_generalise : MethodName := ⟨RX4, "generalise", "()V"⟩
abbrev cX4_findLeft : ByteArray := prog_6_method_6_code
def yX4_findLeft : MethodName := ⟨RX4, "findLeft", "(LSheetMaker$Road;I)I"⟩
abbrev cX4_pointThatGoes : ByteArray := prog_6_method_7_code
def yX4_pointThatGoes : MethodName := ⟨RX4, "pointThatGoes", "(LSheetMaker$Road;II)I"⟩
abbrev cX4_isMet : ByteArray := prog_6_method_8_code
def yX4_isMet : MethodName := ⟨RX4, "isMet", "(LSheetMaker$Road;II)Z"⟩
abbrev cX4_pairsMeetingByLeft : ByteArray := prog_6_method_9_code
def yX4_pairsMeetingByLeft : MethodName := ⟨RX4, "pairsMeetingByLeft", "(I)I"⟩
abbrev cX4_pairsMeetingByAll : ByteArray := prog_6_method_10_code
def yX4_pairsMeetingByAll : MethodName := ⟨RX4, "pairsMeetingByAll", "(I)I"⟩
abbrev cX4_share : ByteArray := prog_6_method_11_code
def yX4_share : MethodName := ⟨RX4, "share", "(LSheetMaker$Road;ILSheetMaker$Road;I)Z"⟩
abbrev cX4_drawRoads : ByteArray := prog_6_method_12_code
def yX4_drawRoads : MethodName := ⟨RX4, "drawRoads", "(LSheetMaker$Sheet;LSheetMaker$Picture;)V"⟩
abbrev cX4_drawRoad : ByteArray := prog_6_method_13_code
def yX4_drawRoad : MethodName := ⟨RX4, "drawRoad", "(ILSheetMaker$Road;ILSheetMaker$Picture;)V"⟩
def RX5 : String := "SheetMaker$Sheet"
def TX5 : u_T := fun k => match k with
  | 0 => ("SheetMaker$Sheet", "scale", "I", true)
  | 1 => ("SheetMaker$Sheet", "leftX", "I", true)
  | 2 => ("SheetMaker$Sheet", "lowY", "I", true)
  | 3 => ("SheetMaker$Sheet", "rightX", "I", true)
  | 4 => ("SheetMaker$Sheet", "highY", "I", true)
  | 5 => ("SheetMaker$Sheet", "foldX", "I", true)
  | 6 => ("SheetMaker$Sheet", "printed", "LSheetMaker$Picture;", true)
  | 7 => ("SheetMaker$Sheet", "wasPrinted", "Z", false)
  | _ => ("SheetMaker$Sheet", "copies", "I", false)
def tyX5 : Nat → FieldType := fun k => match k with
  | 0 => .int
  | 1 => .int
  | 2 => .int
  | 3 => .int
  | 4 => .int
  | 5 => .int
  | 6 => .object "SheetMaker$Picture"
  | 7 => .boolean
  | _ => .int
abbrev wsX50 : List Cond := u_ws RX5 TX5 9
theorem nmX5 : ∀ a, a < 9 → ∀ b, b < 9 → a ≠ b → (TX5 a).2.1 ≠ (TX5 b).2.1 := by decide +kernel
theorem tyX5_ok : ∀ k, k < 9 → parseFieldDescriptor (TX5 k).2.2.1 = some (tyX5 k) := by decide +kernel
abbrev cX5_init : ByteArray := prog_7_method_1_code
def yX5_init : MethodName := ⟨RX5, "<init>", "(IIIIII)V"⟩
abbrev cX5_scale : ByteArray := prog_7_method_2_code
def yX5_scale : MethodName := ⟨RX5, "scale", "()I"⟩
abbrev cX5_copies : ByteArray := prog_7_method_3_code
def yX5_copies : MethodName := ⟨RX5, "copies", "()I"⟩
abbrev cX5_holds : ByteArray := prog_7_method_4_code
def yX5_holds : MethodName := ⟨RX5, "holds", "(I)Z"⟩
abbrev cX5_hasRoomFor : ByteArray := prog_7_method_5_code
def yX5_hasRoomFor : MethodName := ⟨RX5, "hasRoomFor", "(III)Z"⟩
abbrev cX5_errataAgainst : ByteArray := prog_7_method_6_code
def yX5_errataAgainst : MethodName := ⟨RX5, "errataAgainst", "(LSheetMaker$Picture;)I"⟩
abbrev cX5_keepPrinted : ByteArray := prog_7_method_7_code
def yX5_keepPrinted : MethodName := ⟨RX5, "keepPrinted", "(LSheetMaker$Picture;I)V"⟩
abbrev cX5_takeCopies : ByteArray := prog_7_method_8_code
def yX5_takeCopies : MethodName := ⟨RX5, "takeCopies", "(I)V"⟩
def RX6 : String := "SheetMaker"
def TX6 : u_T := fun k => match k with
  | 0 => ("SheetMaker", "roads", "LSheetMaker$Roads;", true)
  | 1 => ("SheetMaker", "names", "LSheetMaker$Names;", true)
  | 2 => ("SheetMaker", "sheets", "Ljava/util/ArrayList;", true)
  | 3 => ("SheetMaker", "present", "LSheetMaker$Picture;", true)
  | _ => ("SheetMaker", "drafted", "LSheetMaker$Road;", false)
def tyX6 : Nat → FieldType := fun k => match k with
  | 0 => .object "SheetMaker$Roads"
  | 1 => .object "SheetMaker$Names"
  | 2 => .object "java/util/ArrayList"
  | 3 => .object "SheetMaker$Picture"
  | _ => .object "SheetMaker$Road"
abbrev wsX60 : List Cond := u_ws RX6 TX6 5
theorem nmX6 : ∀ a, a < 5 → ∀ b, b < 5 → a ≠ b → (TX6 a).2.1 ≠ (TX6 b).2.1 := by decide +kernel
theorem tyX6_ok : ∀ k, k < 5 → parseFieldDescriptor (TX6 k).2.2.1 = some (tyX6 k) := by decide +kernel
abbrev cX6_init : ByteArray := prog_1_method_1_code
def yX6_init : MethodName := ⟨RX6, "<init>", "()V"⟩
abbrev cX6_draft : ByteArray := prog_1_method_2_code
def yX6_draft : MethodName := ⟨RX6, "draft", "(II)I"⟩
abbrev cX6_road : ByteArray := prog_1_method_3_code
def yX6_road : MethodName := ⟨RX6, "road", "(I)I"⟩
abbrev cX6_move : ByteArray := prog_1_method_4_code
def yX6_move : MethodName := ⟨RX6, "move", "(IIII)I"⟩
abbrev cX6_name : ByteArray := prog_1_method_5_code
def yX6_name : MethodName := ⟨RX6, "name", "(IIII)I"⟩
abbrev cX6_shift : ByteArray := prog_1_method_6_code
def yX6_shift : MethodName := ⟨RX6, "shift", "(III)I"⟩
abbrev cX6_points : ByteArray := prog_1_method_7_code
def yX6_points : MethodName := ⟨RX6, "points", "(II)I"⟩
abbrev cX6_left : ByteArray := prog_1_method_8_code
def yX6_left : MethodName := ⟨RX6, "left", "(II)I"⟩
abbrev cX6_meetings : ByteArray := prog_1_method_9_code
def yX6_meetings : MethodName := ⟨RX6, "meetings", "(I)I"⟩
abbrev cX6_meetingsByPairs : ByteArray := prog_1_method_10_code
def yX6_meetingsByPairs : MethodName := ⟨RX6, "meetingsByPairs", "(I)I"⟩
abbrev cX6_sheet : ByteArray := prog_1_method_11_code
def yX6_sheet : MethodName := ⟨RX6, "sheet", "(IIIIII)I"⟩
abbrev cX6_label : ByteArray := prog_1_method_12_code
def yX6_label : MethodName := ⟨RX6, "label", "(II)I"⟩
abbrev cX6_at : ByteArray := prog_1_method_13_code
def yX6_at : MethodName := ⟨RX6, "at", "(III)I"⟩
abbrev cX6_print : ByteArray := prog_1_method_14_code
def yX6_print : MethodName := ⟨RX6, "print", "(II)I"⟩
abbrev cX6_sell : ByteArray := prog_1_method_15_code
def yX6_sell : MethodName := ⟨RX6, "sell", "(II)I"⟩
abbrev cX6_stock : ByteArray := prog_1_method_16_code
def yX6_stock : MethodName := ⟨RX6, "stock", "(I)I"⟩
abbrev cX6_errata : ByteArray := prog_1_method_17_code
def yX6_errata : MethodName := ⟨RX6, "errata", "(I)I"⟩
abbrev cX6_sheetsWithErrata : ByteArray := prog_1_method_18_code
def yX6_sheetsWithErrata : MethodName := ⟨RX6, "sheetsWithErrata", "()I"⟩
abbrev cX6_errataOf : ByteArray := prog_1_method_19_code
def yX6_errataOf : MethodName := ⟨RX6, "errataOf", "(LSheetMaker$Sheet;)I"⟩
abbrev cX6_draw : ByteArray := prog_1_method_20_code
def yX6_draw : MethodName := ⟨RX6, "draw", "(LSheetMaker$Sheet;)V"⟩
abbrev cX6_requireRoad : ByteArray := prog_1_method_21_code
def yX6_requireRoad : MethodName := ⟨RX6, "requireRoad", "(I)LSheetMaker$Road;"⟩
abbrev cX6_requireName : ByteArray := prog_1_method_22_code
def yX6_requireName : MethodName := ⟨RX6, "requireName", "(I)LSheetMaker$Name;"⟩
abbrev cX6_requireSheet : ByteArray := prog_1_method_23_code
def yX6_requireSheet : MethodName := ⟨RX6, "requireSheet", "(I)LSheetMaker$Sheet;"⟩
abbrev cX6_requireScale : ByteArray := prog_1_method_24_code
def yX6_requireScale : MethodName := ⟨RX6, "requireScale", "(I)V"⟩
abbrev cX6_requirePlace : ByteArray := prog_1_method_25_code
def yX6_requirePlace : MethodName := ⟨RX6, "requirePlace", "(II)V"⟩
abbrev cX6_requireRank : ByteArray := prog_1_method_26_code
def yX6_requireRank : MethodName := ⟨RX6, "requireRank", "(I)V"⟩
abbrev cX6_requireFrom : ByteArray := prog_1_method_27_code
def yX6_requireFrom : MethodName := ⟨RX6, "requireFrom", "(III)V"⟩
abbrev cX6_placeOf : ByteArray := prog_1_method_28_code
def yX6_placeOf : MethodName := ⟨RX6, "placeOf", "(II)I"⟩
abbrev cX6_xOf : ByteArray := prog_1_method_29_code
def yX6_xOf : MethodName := ⟨RX6, "xOf", "(I)I"⟩
abbrev cX6_yOf : ByteArray := prog_1_method_30_code
def yX6_yOf : MethodName := ⟨RX6, "yOf", "(I)I"⟩
abbrev cX6_has : ByteArray := prog_1_method_31_code
def yX6_has : MethodName := ⟨RX6, "has", "(II)Z"⟩
def RX7 : String := "SheetMakerModel"
def TX7 : u_T := fun k => match k with
  | 0 => ("SheetMakerModel", "thrown", "I", false)
  | 1 => ("SheetMakerModel", "draftX", "[I", true)
  | 2 => ("SheetMakerModel", "draftY", "[I", true)
  | 3 => ("SheetMakerModel", "drafted", "I", false)
  | 4 => ("SheetMakerModel", "x", "[I", true)
  | 5 => ("SheetMakerModel", "y", "[I", true)
  | 6 => ("SheetMakerModel", "size", "[I", true)
  | 7 => ("SheetMakerModel", "rank", "[I", true)
  | 8 => ("SheetMakerModel", "roads", "I", false)
  | 9 => ("SheetMakerModel", "nameX", "[I", true)
  | 10 => ("SheetMakerModel", "nameY", "[I", true)
  | 11 => ("SheetMakerModel", "length", "[I", true)
  | 12 => ("SheetMakerModel", "nameRank", "[I", true)
  | 13 => ("SheetMakerModel", "names", "I", false)
  | 14 => ("SheetMakerModel", "scale", "[I", true)
  | 15 => ("SheetMakerModel", "west", "[I", true)
  | 16 => ("SheetMakerModel", "south", "[I", true)
  | 17 => ("SheetMakerModel", "east", "[I", true)
  | 18 => ("SheetMakerModel", "north", "[I", true)
  | 19 => ("SheetMakerModel", "fold", "[I", true)
  | 20 => ("SheetMakerModel", "stock", "[I", true)
  | 21 => ("SheetMakerModel", "isPrinted", "[Z", true)
  | 22 => ("SheetMakerModel", "sheets", "I", false)
  | 23 => ("SheetMakerModel", "oldLabel", "[I", true)
  | 24 => ("SheetMakerModel", "oldSize", "[I", true)
  | 25 => ("SheetMakerModel", "oldPoint", "[I", true)
  | 26 => ("SheetMakerModel", "side", "[I", true)
  | _ => ("SheetMakerModel", "first", "[I", true)
def tyX7 : Nat → FieldType := fun k => match k with
  | 0 => .int
  | 1 => .array .int
  | 2 => .array .int
  | 3 => .int
  | 4 => .array .int
  | 5 => .array .int
  | 6 => .array .int
  | 7 => .array .int
  | 8 => .int
  | 9 => .array .int
  | 10 => .array .int
  | 11 => .array .int
  | 12 => .array .int
  | 13 => .int
  | 14 => .array .int
  | 15 => .array .int
  | 16 => .array .int
  | 17 => .array .int
  | 18 => .array .int
  | 19 => .array .int
  | 20 => .array .int
  | 21 => .array .boolean
  | 22 => .int
  | 23 => .array .int
  | 24 => .array .int
  | 25 => .array .int
  | 26 => .array .int
  | _ => .array .int
abbrev wsX70 : List Cond := u_ws RX7 TX7 28
theorem nmX7 : ∀ a, a < 28 → ∀ b, b < 28 → a ≠ b → (TX7 a).2.1 ≠ (TX7 b).2.1 := by decide +kernel
theorem tyX7_ok : ∀ k, k < 28 → parseFieldDescriptor (TX7 k).2.2.1 = some (tyX7 k) := by decide +kernel
abbrev cX7_init : ByteArray := prog_9_method_1_code
def yX7_init : MethodName := ⟨RX7, "<init>", "()V"⟩
abbrev cX7_thrown : ByteArray := prog_9_method_2_code
def yX7_thrown : MethodName := ⟨RX7, "thrown", "()I"⟩
abbrev cX7_isFine : ByteArray := prog_9_method_3_code
def yX7_isFine : MethodName := ⟨RX7, "isFine", "(I)Z"⟩
abbrev cX7_isIn : ByteArray := prog_9_method_4_code
def yX7_isIn : MethodName := ⟨RX7, "isIn", "(III)Z"⟩
abbrev cX7_isPlace : ByteArray := prog_9_method_5_code
def yX7_isPlace : MethodName := ⟨RX7, "isPlace", "(II)Z"⟩
abbrev cX7_isRank : ByteArray := prog_9_method_6_code
def yX7_isRank : MethodName := ⟨RX7, "isRank", "(I)Z"⟩
abbrev cX7_isScale : ByteArray := prog_9_method_7_code
def yX7_isScale : MethodName := ⟨RX7, "isScale", "(I)Z"⟩
abbrev cX7_isRoad : ByteArray := prog_9_method_8_code
def yX7_isRoad : MethodName := ⟨RX7, "isRoad", "(I)Z"⟩
abbrev cX7_isName : ByteArray := prog_9_method_9_code
def yX7_isName : MethodName := ⟨RX7, "isName", "(I)Z"⟩
abbrev cX7_isSheet : ByteArray := prog_9_method_10_code
def yX7_isSheet : MethodName := ⟨RX7, "isSheet", "(I)Z"⟩
abbrev cX7_has : ByteArray := prog_9_method_11_code
def yX7_has : MethodName := ⟨RX7, "has", "(II)Z"⟩
abbrev cX7_draft : ByteArray := prog_9_method_12_code
def yX7_draft : MethodName := ⟨RX7, "draft", "(II)I"⟩
abbrev cX7_road : ByteArray := prog_9_method_13_code
def yX7_road : MethodName := ⟨RX7, "road", "(I)I"⟩
abbrev cX7_isAt : ByteArray := prog_9_method_14_code
def yX7_isAt : MethodName := ⟨RX7, "isAt", "(III)Z"⟩
abbrev cX7_move : ByteArray := prog_9_method_15_code
def yX7_move : MethodName := ⟨RX7, "move", "(IIII)I"⟩
abbrev cX7_name : ByteArray := prog_9_method_16_code
def yX7_name : MethodName := ⟨RX7, "name", "(IIII)I"⟩
abbrev cX7_shift : ByteArray := prog_9_method_17_code
def yX7_shift : MethodName := ⟨RX7, "shift", "(III)I"⟩
abbrev cX7_isShown : ByteArray := prog_9_method_18_code
def yX7_isShown : MethodName := ⟨RX7, "isShown", "(II)Z"⟩
abbrev cX7_isShared : ByteArray := prog_9_method_19_code
def yX7_isShared : MethodName := ⟨RX7, "isShared", "(III)Z"⟩
abbrev cX7_triangle : ByteArray := prog_9_method_20_code
def yX7_triangle : MethodName := ⟨RX7, "triangle", "(III)I"⟩
abbrev cX7_goes : ByteArray := prog_9_method_21_code
def yX7_goes : MethodName := ⟨RX7, "goes", "(III)I"⟩
abbrev cX7_leftOf : ByteArray := prog_9_method_22_code
def yX7_leftOf : MethodName := ⟨RX7, "leftOf", "(II)I"⟩
abbrev cX7_count : ByteArray := prog_9_method_23_code
def yX7_count : MethodName := ⟨RX7, "count", "(I)I"⟩
abbrev cX7_points : ByteArray := prog_9_method_24_code
def yX7_points : MethodName := ⟨RX7, "points", "(II)I"⟩
abbrev cX7_left : ByteArray := prog_9_method_25_code
def yX7_left : MethodName := ⟨RX7, "left", "(II)I"⟩
abbrev cX7_meet : ByteArray := prog_9_method_26_code
def yX7_meet : MethodName := ⟨RX7, "meet", "(III)Z"⟩
abbrev cX7_meetingsNow : ByteArray := prog_9_method_27_code
def yX7_meetingsNow : MethodName := ⟨RX7, "meetingsNow", "(I)I"⟩
abbrev cX7_meetings : ByteArray := prog_9_method_28_code
def yX7_meetings : MethodName := ⟨RX7, "meetings", "(I)I"⟩
abbrev cX7_meetingsByPairs : ByteArray := prog_9_method_29_code
def yX7_meetingsByPairs : MethodName := ⟨RX7, "meetingsByPairs", "(I)I"⟩
abbrev cX7_sheet : ByteArray := prog_9_method_30_code
def yX7_sheet : MethodName := ⟨RX7, "sheet", "(IIIIII)I"⟩
abbrev cX7_isOn : ByteArray := prog_9_method_31_code
def yX7_isOn : MethodName := ⟨RX7, "isOn", "(III)Z"⟩
abbrev cX7_startX : ByteArray := prog_9_method_32_code
def yX7_startX : MethodName := ⟨RX7, "startX", "(II)I"⟩
abbrev cX7_startY : ByteArray := prog_9_method_33_code
def yX7_startY : MethodName := ⟨RX7, "startY", "(II)I"⟩
abbrev cX7_takes : ByteArray := prog_9_method_34_code
def yX7_takes : MethodName := ⟨RX7, "takes", "(III)Z"⟩
abbrev cX7_isRoom : ByteArray := prog_9_method_35_code
def yX7_isRoom : MethodName := ⟨RX7, "isRoom", "(III)Z"⟩
abbrev cX7_gives : ByteArray := prog_9_method_36_code
def yX7_gives : MethodName := ⟨RX7, "gives", "(II)V"⟩
abbrev cX7_labels : ByteArray := prog_9_method_37_code
def yX7_labels : MethodName := ⟨RX7, "labels", "(I)V"⟩
abbrev cX7_label : ByteArray := prog_9_method_38_code
def yX7_label : MethodName := ⟨RX7, "label", "(II)I"⟩
abbrev cX7_at : ByteArray := prog_9_method_39_code
def yX7_at : MethodName := ⟨RX7, "at", "(III)I"⟩
abbrev cX7_drawn : ByteArray := prog_9_method_40_code
def yX7_drawn : MethodName := ⟨RX7, "drawn", "(II)I"⟩
abbrev cX7_isLike : ByteArray := prog_9_method_41_code
def yX7_isLike : MethodName := ⟨RX7, "isLike", "(II)Z"⟩
abbrev cX7_errataNow : ByteArray := prog_9_method_42_code
def yX7_errataNow : MethodName := ⟨RX7, "errataNow", "(I)I"⟩
abbrev cX7_wrong : ByteArray := prog_9_method_43_code
def yX7_wrong : MethodName := ⟨RX7, "wrong", "()I"⟩
abbrev cX7_keeps : ByteArray := prog_9_method_44_code
def yX7_keeps : MethodName := ⟨RX7, "keeps", "(I)V"⟩
abbrev cX7_print : ByteArray := prog_9_method_45_code
def yX7_print : MethodName := ⟨RX7, "print", "(II)I"⟩
abbrev cX7_sell : ByteArray := prog_9_method_46_code
def yX7_sell : MethodName := ⟨RX7, "sell", "(II)I"⟩
abbrev cX7_stock : ByteArray := prog_9_method_47_code
def yX7_stock : MethodName := ⟨RX7, "stock", "(I)I"⟩
abbrev cX7_errata : ByteArray := prog_9_method_48_code
def yX7_errata : MethodName := ⟨RX7, "errata", "(I)I"⟩
def RJx145de : String := "java/io/Serializable"
def TJx145de : u_T := fun k => match k with
  | _ => ("", "", "", false)
def tyJx145de : Nat → FieldType := fun k => match k with
  | _ => .int
abbrev wsJx145de0 : List Cond := u_ws RJx145de TJx145de 0
theorem nmJx145de : ∀ a, a < 0 → ∀ b, b < 0 → a ≠ b → (TJx145de a).2.1 ≠ (TJx145de b).2.1 := by decide +kernel
theorem tyJx145de_ok : ∀ k, k < 0 → parseFieldDescriptor (TJx145de k).2.2.1 = some (tyJx145de k) := by decide +kernel
def RJx8e188 : String := "java/lang/Cloneable"
def TJx8e188 : u_T := fun k => match k with
  | _ => ("", "", "", false)
def tyJx8e188 : Nat → FieldType := fun k => match k with
  | _ => .int
abbrev wsJx8e1880 : List Cond := u_ws RJx8e188 TJx8e188 0
theorem nmJx8e188 : ∀ a, a < 0 → ∀ b, b < 0 → a ≠ b → (TJx8e188 a).2.1 ≠ (TJx8e188 b).2.1 := by decide +kernel
theorem tyJx8e188_ok : ∀ k, k < 0 → parseFieldDescriptor (TJx8e188 k).2.2.1 = some (tyJx8e188 k) := by decide +kernel
def RJ6 : String := "java/lang/Integer"
def TJ6 : u_T := fun k => match k with
  | _ => ("", "", "", false)
def tyJ6 : Nat → FieldType := fun k => match k with
  | _ => .int
abbrev wsJ60 : List Cond := u_ws RJ6 TJ6 0
theorem nmJ6 : ∀ a, a < 0 → ∀ b, b < 0 → a ≠ b → (TJ6 a).2.1 ≠ (TJ6 b).2.1 := by decide +kernel
theorem tyJ6_ok : ∀ k, k < 0 → parseFieldDescriptor (TJ6 k).2.2.1 = some (tyJ6 k) := by decide +kernel
abbrev cJ6_bitCount_0f7a4 : ByteArray := prog_16_method_49_code
def yJ6_bitCount_0f7a4 : MethodName := ⟨RJ6, "bitCount", "(I)I"⟩
def RJxab1ab : String := "java/lang/Iterable"
def TJxab1ab : u_T := fun k => match k with
  | _ => ("", "", "", false)
def tyJxab1ab : Nat → FieldType := fun k => match k with
  | _ => .int
abbrev wsJxab1ab0 : List Cond := u_ws RJxab1ab TJxab1ab 0
theorem nmJxab1ab : ∀ a, a < 0 → ∀ b, b < 0 → a ≠ b → (TJxab1ab a).2.1 ≠ (TJxab1ab b).2.1 := by decide +kernel
theorem tyJxab1ab_ok : ∀ k, k < 0 → parseFieldDescriptor (TJxab1ab k).2.2.1 = some (tyJxab1ab k) := by decide +kernel
def RJ9 : String := "java/lang/Math"
def TJ9 : u_T := fun k => match k with
  | _ => ("", "", "", false)
def tyJ9 : Nat → FieldType := fun k => match k with
  | _ => .int
abbrev wsJ90 : List Cond := u_ws RJ9 TJ9 0
theorem nmJ9 : ∀ a, a < 0 → ∀ b, b < 0 → a ≠ b → (TJ9 a).2.1 ≠ (TJ9 b).2.1 := by decide +kernel
theorem tyJ9_ok : ∀ k, k < 0 → parseFieldDescriptor (TJ9 k).2.2.1 = some (tyJ9 k) := by decide +kernel
abbrev cJ9_abs_0f7a4 : ByteArray := prog_18_method_59_code
def yJ9_abs_0f7a4 : MethodName := ⟨RJ9, "abs", "(I)I"⟩
abbrev cJ9_max_7cf53 : ByteArray := prog_18_method_65_code
def yJ9_max_7cf53 : MethodName := ⟨RJ9, "max", "(II)I"⟩
abbrev cJ9_min_7cf53 : ByteArray := prog_18_method_69_code
def yJ9_min_7cf53 : MethodName := ⟨RJ9, "min", "(II)I"⟩
def RJ0 : String := "java/lang/String"
def TJ0 : u_T := fun k => match k with
  | _ => ("", "", "", false)
def tyJ0 : Nat → FieldType := fun k => match k with
  | _ => .int
abbrev wsJ00 : List Cond := u_ws RJ0 TJ0 0
theorem nmJ0 : ∀ a, a < 0 → ∀ b, b < 0 → a ≠ b → (TJ0 a).2.1 ≠ (TJ0 b).2.1 := by decide +kernel
theorem tyJ0_ok : ∀ k, k < 0 → parseFieldDescriptor (TJ0 k).2.2.1 = some (tyJ0 k) := by decide +kernel
def RJ10 : String := "java/lang/System"
def TJ10 : u_T := fun k => match k with
  | _ => ("", "", "", false)
def tyJ10 : Nat → FieldType := fun k => match k with
  | _ => .int
abbrev wsJ100 : List Cond := u_ws RJ10 TJ10 0
theorem nmJ10 : ∀ a, a < 0 → ∀ b, b < 0 → a ≠ b → (TJ10 a).2.1 ≠ (TJ10 b).2.1 := by decide +kernel
theorem tyJ10_ok : ∀ k, k < 0 → parseFieldDescriptor (TJ10 k).2.2.1 = some (tyJ10 k) := by decide +kernel
def RJxa1e45 : String := "java/util/AbstractCollection"
def TJxa1e45 : u_T := fun k => match k with
  | _ => ("", "", "", false)
def tyJxa1e45 : Nat → FieldType := fun k => match k with
  | _ => .int
abbrev wsJxa1e450 : List Cond := u_ws RJxa1e45 TJxa1e45 0
theorem nmJxa1e45 : ∀ a, a < 0 → ∀ b, b < 0 → a ≠ b → (TJxa1e45 a).2.1 ≠ (TJxa1e45 b).2.1 := by decide +kernel
theorem tyJxa1e45_ok : ∀ k, k < 0 → parseFieldDescriptor (TJxa1e45 k).2.2.1 = some (tyJxa1e45 k) := by decide +kernel
abbrev cJxa1e45_init_da8c8 : ByteArray := prog_23_method_1_code
def yJxa1e45_init_da8c8 : MethodName := ⟨RJxa1e45, "<init>", "()V"⟩
def RJxc12de : String := "java/util/AbstractList"
def TJxc12de : u_T := fun k => match k with
  | _ => ("", "", "", false)
def tyJxc12de : Nat → FieldType := fun k => match k with
  | _ => .int
abbrev wsJxc12de0 : List Cond := u_ws RJxc12de TJxc12de 0
theorem nmJxc12de : ∀ a, a < 0 → ∀ b, b < 0 → a ≠ b → (TJxc12de a).2.1 ≠ (TJxc12de b).2.1 := by decide +kernel
theorem tyJxc12de_ok : ∀ k, k < 0 → parseFieldDescriptor (TJxc12de k).2.2.1 = some (tyJxc12de k) := by decide +kernel
abbrev cJxc12de_init_da8c8 : ByteArray := prog_24_method_1_code
def yJxc12de_init_da8c8 : MethodName := ⟨RJxc12de, "<init>", "()V"⟩
def RJx4a65c : String := "java/util/ArrayList"
def TJx4a65c : u_T := fun k => match k with
  | 0 => ("java/util/AbstractList", "modCount", "I", false)
  | 1 => ("java/util/ArrayList", "elementData", "[Ljava/lang/Object;", false)
  | _ => ("java/util/ArrayList", "size", "I", false)
def tyJx4a65c : Nat → FieldType := fun k => match k with
  | 0 => .int
  | 1 => .array (.object "java/lang/Object")
  | _ => .int
abbrev wsJx4a65c0 : List Cond := u_ws RJx4a65c TJx4a65c 3
theorem nmJx4a65c : ∀ a, a < 3 → ∀ b, b < 3 → a ≠ b → (TJx4a65c a).2.1 ≠ (TJx4a65c b).2.1 := by decide +kernel
theorem tyJx4a65c_ok : ∀ k, k < 3 → parseFieldDescriptor (TJx4a65c k).2.2.1 = some (tyJx4a65c k) := by decide +kernel
abbrev cJx4a65c_init_da8c8 : ByteArray := prog_25_method_2_code
def yJx4a65c_init_da8c8 : MethodName := ⟨RJx4a65c, "<init>", "()V"⟩
abbrev cJx4a65c_grow_92f84 : ByteArray := prog_25_method_6_code
def yJx4a65c_grow_92f84 : MethodName := ⟨RJx4a65c, "grow", "(I)[Ljava/lang/Object;"⟩
abbrev cJx4a65c_grow_d5877 : ByteArray := prog_25_method_7_code
def yJx4a65c_grow_d5877 : MethodName := ⟨RJx4a65c, "grow", "()[Ljava/lang/Object;"⟩
abbrev cJx4a65c_size_8abf5 : ByteArray := prog_25_method_8_code
def yJx4a65c_size_8abf5 : MethodName := ⟨RJx4a65c, "size", "()I"⟩
abbrev cJx4a65c_elementData_915e3 : ByteArray := prog_25_method_18_code
def yJx4a65c_elementData_915e3 : MethodName := ⟨RJx4a65c, "elementData", "(I)Ljava/lang/Object;"⟩
abbrev cJx4a65c_get_915e3 : ByteArray := prog_25_method_20_code
def yJx4a65c_get_915e3 : MethodName := ⟨RJx4a65c, "get", "(I)Ljava/lang/Object;"⟩
abbrev cJx4a65c_add_72be8 : ByteArray := prog_25_method_24_code
def yJx4a65c_add_72be8 : MethodName := ⟨RJx4a65c, "add", "(Ljava/lang/Object;[Ljava/lang/Object;I)V"⟩
abbrev cJx4a65c_add_9ea2d : ByteArray := prog_25_method_25_code
def yJx4a65c_add_9ea2d : MethodName := ⟨RJx4a65c, "add", "(Ljava/lang/Object;)Z"⟩
def RJ7 : String := "java/util/Arrays"
def TJ7 : u_T := fun k => match k with
  | _ => ("", "", "", false)
def tyJ7 : Nat → FieldType := fun k => match k with
  | _ => .int
abbrev wsJ70 : List Cond := u_ws RJ7 TJ7 0
theorem nmJ7 : ∀ a, a < 0 → ∀ b, b < 0 → a ≠ b → (TJ7 a).2.1 ≠ (TJ7 b).2.1 := by decide +kernel
theorem tyJ7_ok : ∀ k, k < 0 → parseFieldDescriptor (TJ7 k).2.2.1 = some (tyJ7 k) := by decide +kernel
abbrev cJ7_copyOf_1904c : ByteArray := prog_26_method_119_code
def yJ7_copyOf_1904c : MethodName := ⟨RJ7, "copyOf", "([Ljava/lang/Object;I)[Ljava/lang/Object;"⟩
abbrev cJ7_copyOf_6403c : ByteArray := prog_26_method_120_code
def yJ7_copyOf_6403c : MethodName := ⟨RJ7, "copyOf", "([Ljava/lang/Object;ILjava/lang/Class;)[Ljava/lang/Object;"⟩
def RJx5ef63 : String := "java/util/Collection"
def TJx5ef63 : u_T := fun k => match k with
  | _ => ("", "", "", false)
def tyJx5ef63 : Nat → FieldType := fun k => match k with
  | _ => .int
abbrev wsJx5ef630 : List Cond := u_ws RJx5ef63 TJx5ef63 0
theorem nmJx5ef63 : ∀ a, a < 0 → ∀ b, b < 0 → a ≠ b → (TJx5ef63 a).2.1 ≠ (TJx5ef63 b).2.1 := by decide +kernel
theorem tyJx5ef63_ok : ∀ k, k < 0 → parseFieldDescriptor (TJx5ef63 k).2.2.1 = some (tyJx5ef63 k) := by decide +kernel
def RJxbd725 : String := "java/util/List"
def TJxbd725 : u_T := fun k => match k with
  | _ => ("", "", "", false)
def tyJxbd725 : Nat → FieldType := fun k => match k with
  | _ => .int
abbrev wsJxbd7250 : List Cond := u_ws RJxbd725 TJxbd725 0
theorem nmJxbd725 : ∀ a, a < 0 → ∀ b, b < 0 → a ≠ b → (TJxbd725 a).2.1 ≠ (TJxbd725 b).2.1 := by decide +kernel
theorem tyJxbd725_ok : ∀ k, k < 0 → parseFieldDescriptor (TJxbd725 k).2.2.1 = some (tyJxbd725 k) := by decide +kernel
def RJ15 : String := "java/util/Objects"
def TJ15 : u_T := fun k => match k with
  | _ => ("", "", "", false)
def tyJ15 : Nat → FieldType := fun k => match k with
  | _ => .int
abbrev wsJ150 : List Cond := u_ws RJ15 TJ15 0
theorem nmJ15 : ∀ a, a < 0 → ∀ b, b < 0 → a ≠ b → (TJ15 a).2.1 ≠ (TJ15 b).2.1 := by decide +kernel
theorem tyJ15_ok : ∀ k, k < 0 → parseFieldDescriptor (TJ15 k).2.2.1 = some (tyJ15 k) := by decide +kernel
abbrev cJ15_checkIndex_7cf53 : ByteArray := prog_29_method_17_code
def yJ15_checkIndex_7cf53 : MethodName := ⟨RJ15, "checkIndex", "(II)I"⟩
def RJxf0a74 : String := "java/util/RandomAccess"
def TJxf0a74 : u_T := fun k => match k with
  | _ => ("", "", "", false)
def tyJxf0a74 : Nat → FieldType := fun k => match k with
  | _ => .int
abbrev wsJxf0a740 : List Cond := u_ws RJxf0a74 TJxf0a74 0
theorem nmJxf0a74 : ∀ a, a < 0 → ∀ b, b < 0 → a ≠ b → (TJxf0a74 a).2.1 ≠ (TJxf0a74 b).2.1 := by decide +kernel
theorem tyJxf0a74_ok : ∀ k, k < 0 → parseFieldDescriptor (TJxf0a74 k).2.2.1 = some (tyJxf0a74 k) := by decide +kernel
def RJxa66e6 : String := "java/util/SequencedCollection"
def TJxa66e6 : u_T := fun k => match k with
  | _ => ("", "", "", false)
def tyJxa66e6 : Nat → FieldType := fun k => match k with
  | _ => .int
abbrev wsJxa66e60 : List Cond := u_ws RJxa66e6 TJxa66e6 0
theorem nmJxa66e6 : ∀ a, a < 0 → ∀ b, b < 0 → a ≠ b → (TJxa66e6 a).2.1 ≠ (TJxa66e6 b).2.1 := by decide +kernel
theorem tyJxa66e6_ok : ∀ k, k < 0 → parseFieldDescriptor (TJxa66e6 k).2.2.1 = some (tyJxa66e6 k) := by decide +kernel
def RJ8 : String := "jdk/internal/util/ArraysSupport"
def TJ8 : u_T := fun k => match k with
  | _ => ("", "", "", false)
def tyJ8 : Nat → FieldType := fun k => match k with
  | _ => .int
abbrev wsJ80 : List Cond := u_ws RJ8 TJ8 0
theorem nmJ8 : ∀ a, a < 0 → ∀ b, b < 0 → a ≠ b → (TJ8 a).2.1 ≠ (TJ8 b).2.1 := by decide +kernel
theorem tyJ8_ok : ∀ k, k < 0 → parseFieldDescriptor (TJ8 k).2.2.1 = some (tyJ8 k) := by decide +kernel
abbrev cJ8_newLength_cabcc : ByteArray := prog_32_method_27_code
def yJ8_newLength_cabcc : MethodName := ⟨RJ8, "newLength", "(III)I"⟩
abbrev cJ8_hugeLength_7cf53 : ByteArray := prog_32_method_28_code
def yJ8_hugeLength_7cf53 : MethodName := ⟨RJ8, "hugeLength", "(II)I"⟩
def RJ3 : String := "jdk/internal/util/Preconditions"
def TJ3 : u_T := fun k => match k with
  | _ => ("", "", "", false)
def tyJ3 : Nat → FieldType := fun k => match k with
  | _ => .int
abbrev wsJ30 : List Cond := u_ws RJ3 TJ3 0
theorem nmJ3 : ∀ a, a < 0 → ∀ b, b < 0 → a ≠ b → (TJ3 a).2.1 ≠ (TJ3 b).2.1 := by decide +kernel
theorem tyJ3_ok : ∀ k, k < 0 → parseFieldDescriptor (TJ3 k).2.2.1 = some (tyJ3 k) := by decide +kernel
abbrev cJ3_checkIndex_8e157 : ByteArray := prog_33_method_11_code
def yJ3_checkIndex_8e157 : MethodName := ⟨RJ3, "checkIndex", "(IILjava/util/function/BiFunction;)I"⟩
abbrev cL_draft : ByteArray := method_3_code
def yL_draft : MethodName := ⟨RL, "draft", "(LSheetMaker;II[J)I"⟩
abbrev cL_road : ByteArray := method_4_code
def yL_road : MethodName := ⟨RL, "road", "(LSheetMaker;I[J)I"⟩
abbrev cL_move : ByteArray := method_5_code
def yL_move : MethodName := ⟨RL, "move", "(LSheetMaker;IIII[J)I"⟩
abbrev cL_name : ByteArray := method_6_code
def yL_name : MethodName := ⟨RL, "name", "(LSheetMaker;IIII[J)I"⟩
abbrev cL_shift : ByteArray := method_7_code
def yL_shift : MethodName := ⟨RL, "shift", "(LSheetMaker;III[J)I"⟩
abbrev cL_points : ByteArray := method_8_code
def yL_points : MethodName := ⟨RL, "points", "(LSheetMaker;II[J)I"⟩
abbrev cL_left : ByteArray := method_9_code
def yL_left : MethodName := ⟨RL, "left", "(LSheetMaker;II[J)I"⟩
abbrev cL_meetings : ByteArray := method_10_code
def yL_meetings : MethodName := ⟨RL, "meetings", "(LSheetMaker;I[J)I"⟩
abbrev cL_meetingsByPairs : ByteArray := method_11_code
def yL_meetingsByPairs : MethodName := ⟨RL, "meetingsByPairs", "(LSheetMaker;I[J)I"⟩
abbrev cL_sheet : ByteArray := method_12_code
def yL_sheet : MethodName := ⟨RL, "sheet", "(LSheetMaker;IIIIII[J)I"⟩
abbrev cL_label : ByteArray := method_13_code
def yL_label : MethodName := ⟨RL, "label", "(LSheetMaker;II[J)I"⟩
abbrev cL_at : ByteArray := method_14_code
def yL_at : MethodName := ⟨RL, "at", "(LSheetMaker;III[J)I"⟩
abbrev cL_print : ByteArray := method_15_code
def yL_print : MethodName := ⟨RL, "print", "(LSheetMaker;II[J)I"⟩
abbrev cL_sell : ByteArray := method_16_code
def yL_sell : MethodName := ⟨RL, "sell", "(LSheetMaker;II[J)I"⟩
abbrev cL_stock : ByteArray := method_17_code
def yL_stock : MethodName := ⟨RL, "stock", "(LSheetMaker;I[J)I"⟩
abbrev cL_errata : ByteArray := method_18_code
def yL_errata : MethodName := ⟨RL, "errata", "(LSheetMaker;I[J)I"⟩
abbrev cL_law : ByteArray := code
def yL_law : MethodName := ⟨RL, "law", "([I)Z"⟩
abbrev vwCl : List vw_C := [(RJx4a65c, TJx4a65c, 3), (RX0, TX0, 4), (RX1, TX1, 1), (RX2, TX2, 3), (RX3, TX3, 4), (RX4, TX4, 1), (RX5, TX5, 9), (RX6, TX6, 5), (RX7, TX7, 28)]
end
section
/-! The methods by numbers, and their code: an instruction, its length, and what its constant pool number means. -/
abbrev AI : Type := Instr × Nat × Nat × Nat × Nat × Nat
def mBL : List ByteArray := [cJ6_bitCount_0f7a4, cJxa1e45_init_da8c8, cJxc12de_init_da8c8, cJx4a65c_init_da8c8, cJx4a65c_grow_92f84, cJx4a65c_grow_d5877, cJx4a65c_size_8abf5, cJx4a65c_elementData_915e3, cJx4a65c_get_915e3, cJx4a65c_add_72be8, cJx4a65c_add_9ea2d, cJ15_checkIndex_7cf53, cJ3_checkIndex_8e157, cX0_init, cX0_length, cX0_rank, cX0_place, cX0_put, cX0_labelX, cX0_labelY, cX2_init, cX2_clearLabels, cX2_clearRoads, cX2_putLabel, cX2_putPoint, cX2_sideOf, cX2_startOf, cX2_pointOf, cX2_differencesFrom, cX2_hasSameRoad, cX2_copyFrom, cX5_init, cX5_scale, cX5_copies, cX5_holds, cX5_hasRoomFor, cX5_errataAgainst, cX5_keepPrinted, cX5_takeCopies, cX3_init, cX3_size, cX3_placeAt, cX3_append, cX3_put, cX3_giveRank, cX3_isShownOn, cX3_allPoints, cX3_leftOn, cX3_keepLeft, cX3_hasPointAt, cX3_hasPointOn, cX3_triangleOf, cX1_init, cX1_size, cX1_get, cX1_add, cX1_drawLabels, cX1_drawLabel, cX1_labelTaking, cX4_init, cX4_size, cX4_get, cX4_add, cX4_generalise, cX4_findLeft, cX4_pointThatGoes, cX4_isMet, cX4_pairsMeetingByLeft, cX4_pairsMeetingByAll, cX4_share, cX4_drawRoads, cX4_drawRoad, cX6_init, cX6_draft, cX6_road, cX6_move, cX6_name, cX6_shift, cX6_points, cX6_left, cX6_meetings, cX6_meetingsByPairs, cX6_sheet, cX6_label, cX6_at, cX6_print, cX6_sell, cX6_stock, cX6_errata, cX6_sheetsWithErrata, cX6_errataOf, cX6_draw, cX6_requireRoad, cX6_requireName, cX6_requireSheet, cX6_requireScale, cX6_requirePlace, cX6_requireRank, cX6_requireFrom, cX6_placeOf, cX6_xOf, cX6_yOf, cX6_has, cX7_init, cX7_thrown, cX7_isFine, cX7_isIn, cX7_isPlace, cX7_isRank, cX7_isScale, cX7_isRoad, cX7_isName, cX7_isSheet, cX7_has, cX7_draft, cX7_road, cX7_isAt, cX7_move, cX7_name, cX7_shift, cX7_isShown, cX7_isShared, cX7_triangle, cX7_goes, cX7_leftOf, cX7_count, cX7_points, cX7_left, cX7_meet, cX7_meetingsNow, cX7_meetings, cX7_meetingsByPairs, cX7_sheet, cX7_isOn, cX7_startX, cX7_startY, cX7_takes, cX7_isRoom, cX7_gives, cX7_labels, cX7_label, cX7_at, cX7_drawn, cX7_isLike, cX7_errataNow, cX7_wrong, cX7_keeps, cX7_print, cX7_sell, cX7_stock, cX7_errata, cL_draft, cL_road, cL_move, cL_name, cL_shift, cL_points, cL_left, cL_meetings, cL_meetingsByPairs, cL_sheet, cL_label, cL_at, cL_print, cL_sell, cL_stock, cL_errata, cL_law]
def mYL : List MethodName := [yJ6_bitCount_0f7a4, yJxa1e45_init_da8c8, yJxc12de_init_da8c8, yJx4a65c_init_da8c8, yJx4a65c_grow_92f84, yJx4a65c_grow_d5877, yJx4a65c_size_8abf5, yJx4a65c_elementData_915e3, yJx4a65c_get_915e3, yJx4a65c_add_72be8, yJx4a65c_add_9ea2d, yJ15_checkIndex_7cf53, yJ3_checkIndex_8e157, yX0_init, yX0_length, yX0_rank, yX0_place, yX0_put, yX0_labelX, yX0_labelY, yX2_init, yX2_clearLabels, yX2_clearRoads, yX2_putLabel, yX2_putPoint, yX2_sideOf, yX2_startOf, yX2_pointOf, yX2_differencesFrom, yX2_hasSameRoad, yX2_copyFrom, yX5_init, yX5_scale, yX5_copies, yX5_holds, yX5_hasRoomFor, yX5_errataAgainst, yX5_keepPrinted, yX5_takeCopies, yX3_init, yX3_size, yX3_placeAt, yX3_append, yX3_put, yX3_giveRank, yX3_isShownOn, yX3_allPoints, yX3_leftOn, yX3_keepLeft, yX3_hasPointAt, yX3_hasPointOn, yX3_triangleOf, yX1_init, yX1_size, yX1_get, yX1_add, yX1_drawLabels, yX1_drawLabel, yX1_labelTaking, yX4_init, yX4_size, yX4_get, yX4_add, yX4_generalise, yX4_findLeft, yX4_pointThatGoes, yX4_isMet, yX4_pairsMeetingByLeft, yX4_pairsMeetingByAll, yX4_share, yX4_drawRoads, yX4_drawRoad, yX6_init, yX6_draft, yX6_road, yX6_move, yX6_name, yX6_shift, yX6_points, yX6_left, yX6_meetings, yX6_meetingsByPairs, yX6_sheet, yX6_label, yX6_at, yX6_print, yX6_sell, yX6_stock, yX6_errata, yX6_sheetsWithErrata, yX6_errataOf, yX6_draw, yX6_requireRoad, yX6_requireName, yX6_requireSheet, yX6_requireScale, yX6_requirePlace, yX6_requireRank, yX6_requireFrom, yX6_placeOf, yX6_xOf, yX6_yOf, yX6_has, yX7_init, yX7_thrown, yX7_isFine, yX7_isIn, yX7_isPlace, yX7_isRank, yX7_isScale, yX7_isRoad, yX7_isName, yX7_isSheet, yX7_has, yX7_draft, yX7_road, yX7_isAt, yX7_move, yX7_name, yX7_shift, yX7_isShown, yX7_isShared, yX7_triangle, yX7_goes, yX7_leftOf, yX7_count, yX7_points, yX7_left, yX7_meet, yX7_meetingsNow, yX7_meetings, yX7_meetingsByPairs, yX7_sheet, yX7_isOn, yX7_startX, yX7_startY, yX7_takes, yX7_isRoom, yX7_gives, yX7_labels, yX7_label, yX7_at, yX7_drawn, yX7_isLike, yX7_errataNow, yX7_wrong, yX7_keeps, yX7_print, yX7_sell, yX7_stock, yX7_errata, yL_draft, yL_road, yL_move, yL_name, yL_shift, yL_points, yL_left, yL_meetings, yL_meetingsByPairs, yL_sheet, yL_label, yL_at, yL_print, yL_sell, yL_stock, yL_errata, yL_law]
def mRL : List (Option FieldType) := [(some Jvm.ClassFile.FieldType.int), none, none, none, (some (Jvm.ClassFile.FieldType.array (Jvm.ClassFile.FieldType.object "java/lang/Object"))), (some (Jvm.ClassFile.FieldType.array (Jvm.ClassFile.FieldType.object "java/lang/Object"))), (some Jvm.ClassFile.FieldType.int), (some (Jvm.ClassFile.FieldType.object "java/lang/Object")), (some (Jvm.ClassFile.FieldType.object "java/lang/Object")), none, (some Jvm.ClassFile.FieldType.boolean), (some Jvm.ClassFile.FieldType.int), (some Jvm.ClassFile.FieldType.int), none, (some Jvm.ClassFile.FieldType.int), (some Jvm.ClassFile.FieldType.int), (some Jvm.ClassFile.FieldType.int), none, (some Jvm.ClassFile.FieldType.int), (some Jvm.ClassFile.FieldType.int), none, none, none, none, none, (some Jvm.ClassFile.FieldType.int), (some Jvm.ClassFile.FieldType.int), (some Jvm.ClassFile.FieldType.int), (some Jvm.ClassFile.FieldType.int), (some Jvm.ClassFile.FieldType.boolean), none, none, (some Jvm.ClassFile.FieldType.int), (some Jvm.ClassFile.FieldType.int), (some Jvm.ClassFile.FieldType.boolean), (some Jvm.ClassFile.FieldType.boolean), (some Jvm.ClassFile.FieldType.int), none, none, none, (some Jvm.ClassFile.FieldType.int), (some Jvm.ClassFile.FieldType.int), none, none, none, (some Jvm.ClassFile.FieldType.boolean), (some Jvm.ClassFile.FieldType.int), (some Jvm.ClassFile.FieldType.int), none, (some Jvm.ClassFile.FieldType.boolean), (some Jvm.ClassFile.FieldType.boolean), (some Jvm.ClassFile.FieldType.int), none, (some Jvm.ClassFile.FieldType.int), (some (Jvm.ClassFile.FieldType.object "SheetMaker$Name")), none, none, none, (some Jvm.ClassFile.FieldType.int), none, (some Jvm.ClassFile.FieldType.int), (some (Jvm.ClassFile.FieldType.object "SheetMaker$Road")), none, none, (some Jvm.ClassFile.FieldType.int), (some Jvm.ClassFile.FieldType.int), (some Jvm.ClassFile.FieldType.boolean), (some Jvm.ClassFile.FieldType.int), (some Jvm.ClassFile.FieldType.int), (some Jvm.ClassFile.FieldType.boolean), none, none, none, (some Jvm.ClassFile.FieldType.int), (some Jvm.ClassFile.FieldType.int), (some Jvm.ClassFile.FieldType.int), (some Jvm.ClassFile.FieldType.int), (some Jvm.ClassFile.FieldType.int), (some Jvm.ClassFile.FieldType.int), (some Jvm.ClassFile.FieldType.int), (some Jvm.ClassFile.FieldType.int), (some Jvm.ClassFile.FieldType.int), (some Jvm.ClassFile.FieldType.int), (some Jvm.ClassFile.FieldType.int), (some Jvm.ClassFile.FieldType.int), (some Jvm.ClassFile.FieldType.int), (some Jvm.ClassFile.FieldType.int), (some Jvm.ClassFile.FieldType.int), (some Jvm.ClassFile.FieldType.int), (some Jvm.ClassFile.FieldType.int), (some Jvm.ClassFile.FieldType.int), none, (some (Jvm.ClassFile.FieldType.object "SheetMaker$Road")), (some (Jvm.ClassFile.FieldType.object "SheetMaker$Name")), (some (Jvm.ClassFile.FieldType.object "SheetMaker$Sheet")), none, none, none, none, (some Jvm.ClassFile.FieldType.int), (some Jvm.ClassFile.FieldType.int), (some Jvm.ClassFile.FieldType.int), (some Jvm.ClassFile.FieldType.boolean), none, (some Jvm.ClassFile.FieldType.int), (some Jvm.ClassFile.FieldType.boolean), (some Jvm.ClassFile.FieldType.boolean), (some Jvm.ClassFile.FieldType.boolean), (some Jvm.ClassFile.FieldType.boolean), (some Jvm.ClassFile.FieldType.boolean), (some Jvm.ClassFile.FieldType.boolean), (some Jvm.ClassFile.FieldType.boolean), (some Jvm.ClassFile.FieldType.boolean), (some Jvm.ClassFile.FieldType.boolean), (some Jvm.ClassFile.FieldType.int), (some Jvm.ClassFile.FieldType.int), (some Jvm.ClassFile.FieldType.boolean), (some Jvm.ClassFile.FieldType.int), (some Jvm.ClassFile.FieldType.int), (some Jvm.ClassFile.FieldType.int), (some Jvm.ClassFile.FieldType.boolean), (some Jvm.ClassFile.FieldType.boolean), (some Jvm.ClassFile.FieldType.int), (some Jvm.ClassFile.FieldType.int), (some Jvm.ClassFile.FieldType.int), (some Jvm.ClassFile.FieldType.int), (some Jvm.ClassFile.FieldType.int), (some Jvm.ClassFile.FieldType.int), (some Jvm.ClassFile.FieldType.boolean), (some Jvm.ClassFile.FieldType.int), (some Jvm.ClassFile.FieldType.int), (some Jvm.ClassFile.FieldType.int), (some Jvm.ClassFile.FieldType.int), (some Jvm.ClassFile.FieldType.boolean), (some Jvm.ClassFile.FieldType.int), (some Jvm.ClassFile.FieldType.int), (some Jvm.ClassFile.FieldType.boolean), (some Jvm.ClassFile.FieldType.boolean), none, none, (some Jvm.ClassFile.FieldType.int), (some Jvm.ClassFile.FieldType.int), (some Jvm.ClassFile.FieldType.int), (some Jvm.ClassFile.FieldType.boolean), (some Jvm.ClassFile.FieldType.int), (some Jvm.ClassFile.FieldType.int), none, (some Jvm.ClassFile.FieldType.int), (some Jvm.ClassFile.FieldType.int), (some Jvm.ClassFile.FieldType.int), (some Jvm.ClassFile.FieldType.int), (some Jvm.ClassFile.FieldType.int), (some Jvm.ClassFile.FieldType.int), (some Jvm.ClassFile.FieldType.int), (some Jvm.ClassFile.FieldType.int), (some Jvm.ClassFile.FieldType.int), (some Jvm.ClassFile.FieldType.int), (some Jvm.ClassFile.FieldType.int), (some Jvm.ClassFile.FieldType.int), (some Jvm.ClassFile.FieldType.int), (some Jvm.ClassFile.FieldType.int), (some Jvm.ClassFile.FieldType.int), (some Jvm.ClassFile.FieldType.int), (some Jvm.ClassFile.FieldType.int), (some Jvm.ClassFile.FieldType.int), (some Jvm.ClassFile.FieldType.int), (some Jvm.ClassFile.FieldType.int), (some .boolean)]
def mLL : List Nat := [1, 1, 1, 1, 4, 1, 1, 2, 2, 4, 2, 2, 3, 5, 1, 1, 1, 3, 2, 2, 1, 2, 2, 4, 5, 2, 2, 4, 4, 4, 4, 7, 1, 1, 4, 7, 2, 3, 2, 1, 1, 2, 2, 3, 2, 2, 1, 2, 3, 4, 4, 9, 1, 1, 2, 2, 6, 9, 6, 1, 1, 2, 2, 4, 6, 8, 7, 7, 8, 5, 6, 6, 1, 4, 2, 7, 5, 5, 4, 4, 2, 2, 7, 4, 5, 5, 4, 2, 2, 4, 2, 2, 2, 2, 2, 1, 2, 1, 3, 2, 1, 1, 2, 1, 1, 2, 3, 2, 1, 1, 2, 2, 2, 2, 4, 3, 4, 9, 6, 4, 3, 7, 5, 10, 5, 3, 3, 3, 9, 5, 2, 2, 8, 4, 3, 3, 4, 9, 4, 4, 3, 6, 6, 8, 4, 3, 6, 6, 4, 2, 2, 5, 4, 7, 7, 6, 5, 5, 4, 4, 9, 5, 6, 5, 5, 4, 4, 7]
def mHL : List (List (Nat × Nat × Nat × Nat)) := [[], [], [], [], [], [], [], [], [], [], [], [], [], [], [], [], [], [], [], [], [], [], [], [], [], [], [], [], [], [], [], [], [], [], [], [], [], [], [], [], [], [], [], [], [], [], [], [], [], [], [], [], [], [], [], [], [], [], [], [], [], [], [], [], [], [], [], [], [], [], [], [], [], [], [], [], [], [], [], [], [], [], [], [], [], [], [], [], [], [], [], [], [], [], [], [], [], [], [], [], [], [], [], [], [], [], [], [], [], [], [], [], [], [], [], [], [], [], [], [], [], [], [], [], [], [], [], [], [], [], [], [], [], [], [], [], [], [], [], [], [], [], [], [], [], [], [], [], [], [], [], [(0, 10, 13, 13), (0, 10, 17, 15)], [(0, 9, 12, 13), (0, 9, 15, 15)], [(0, 14, 17, 25), (0, 14, 21, 13), (0, 14, 25, 15)], [(0, 14, 17, 13), (0, 14, 21, 15)], [(0, 12, 15, 25), (0, 12, 19, 13)], [(0, 10, 13, 25)], [(0, 10, 13, 25)], [(0, 9, 12, 25)], [(0, 9, 12, 25)], [(0, 18, 21, 25), (0, 18, 25, 13), (0, 18, 29, 15)], [(0, 10, 13, 25)], [(0, 12, 15, 25), (0, 12, 19, 13)], [(0, 10, 13, 25), (0, 10, 17, 13), (0, 10, 21, 15)], [(0, 10, 13, 25), (0, 10, 17, 13), (0, 10, 21, 15)], [(0, 9, 12, 25)], [(0, 9, 12, 25)], []]
def mFL : List Nat := [0, 1, 2, 3, 1, 2, 0, 0, 2, 3, 4, 1, 0, 1, 0, 0, 1, 0, 0, 0, 1, 0, 0, 0, 0, 0, 0, 0, 2, 1, 1, 2, 0, 0, 1, 0, 3, 2, 0, 1, 0, 0, 0, 0, 0, 0, 0, 0, 0, 1, 2, 1, 4, 1, 3, 5, 5, 4, 3, 4, 1, 3, 5, 6, 5, 4, 3, 3, 3, 2, 3, 1, 5, 8, 8, 8, 8, 8, 7, 7, 7, 7, 8, 7, 8, 7, 8, 7, 8, 7, 7, 6, 6, 6, 6, 6, 7, 7, 6, 0, 0, 0, 0, 1, 0, 0, 0, 1, 1, 1, 1, 1, 1, 0, 2, 2, 0, 8, 2, 8, 0, 1, 0, 2, 3, 1, 4, 4, 4, 5, 6, 6, 2, 1, 0, 0, 1, 2, 3, 4, 5, 5, 4, 5, 6, 7, 5, 7, 7, 2, 7, 9, 9, 9, 9, 9, 8, 8, 8, 8, 9, 8, 9, 8, 9, 8, 9, 10]
def mOL : List Nat := [0, 20, 40, 60, 21, 44, 0, 0, 43, 64, 87, 22, 0, 20, 0, 0, 21, 0, 0, 0, 20, 0, 0, 0, 0, 0, 0, 0, 46, 23, 24, 40, 0, 0, 20, 0, 69, 47, 0, 20, 0, 0, 0, 0, 0, 0, 0, 0, 0, 21, 43, 21, 80, 20, 64, 108, 117, 89, 64, 80, 20, 64, 108, 142, 117, 90, 64, 68, 68, 44, 66, 24, 100, 133, 165, 186, 133, 186, 111, 111, 110, 110, 133, 142, 142, 163, 184, 111, 184, 163, 163, 142, 90, 90, 90, 90, 112, 112, 90, 0, 0, 0, 0, 20, 0, 0, 0, 22, 22, 22, 22, 22, 22, 0, 43, 42, 0, 199, 43, 199, 0, 23, 0, 49, 78, 21, 102, 102, 102, 130, 154, 154, 43, 22, 0, 0, 22, 45, 73, 96, 119, 119, 102, 127, 154, 177, 127, 177, 177, 43, 177, 156, 186, 212, 157, 210, 134, 134, 131, 131, 159, 165, 166, 187, 207, 132, 205, 238]
def mCL : List Nat := [0, 0, 0, 0, 1, 1, 0, 0, 0, 1, 1, 0, 0, 0, 0, 0, 0, 0, 0, 0, 3, 0, 0, 0, 0, 0, 0, 0, 0, 0, 0, 4, 0, 0, 0, 0, 0, 0, 0, 2, 0, 0, 0, 0, 0, 0, 0, 0, 0, 0, 0, 0, 1, 0, 0, 1, 0, 0, 0, 1, 0, 0, 1, 0, 0, 0, 0, 0, 0, 0, 0, 0, 12, 3, 6, 4, 7, 3, 2, 2, 1, 1, 13, 2, 3, 3, 3, 1, 1, 0, 0, 0, 1, 1, 1, 1, 2, 1, 1, 0, 0, 0, 0, 23, 0, 0, 0, 0, 0, 0, 0, 0, 0, 0, 0, 0, 0, 0, 0, 0, 0, 0, 0, 0, 0, 0, 0, 0, 0, 0, 0, 0, 0, 0, 0, 0, 0, 0, 0, 0, 0, 0, 0, 0, 0, 0, 0, 0, 0, 0, 0, 3, 6, 4, 7, 3, 2, 2, 1, 1, 13, 2, 3, 3, 3, 1, 1, 601024]
def mSL : List Nat := [0, 0, 0, 0, 10, 10, 0, 0, 0, 10, 10, 0, 0, 0, 0, 0, 0, 0, 0, 0, 84, 0, 0, 0, 0, 0, 0, 0, 0, 0, 0, 87, 0, 0, 0, 0, 0, 0, 0, 12, 0, 0, 0, 0, 0, 0, 0, 0, 0, 0, 0, 0, 3, 0, 0, 10, 0, 0, 0, 3, 0, 0, 10, 0, 0, 0, 0, 0, 0, 0, 0, 0, 114, 18, 38, 24, 44, 18, 12, 12, 6, 6, 148, 12, 18, 18, 18, 6, 6, 0, 0, 0, 6, 6, 6, 6, 12, 6, 6, 0, 0, 0, 0, 760, 0, 0, 0, 0, 0, 0, 0, 0, 0, 0, 0, 0, 0, 0, 0, 0, 0, 0, 0, 0, 0, 0, 0, 0, 0, 0, 0, 0, 0, 0, 0, 0, 0, 0, 0, 0, 0, 0, 0, 0, 0, 0, 0, 0, 0, 0, 0, 18, 38, 24, 44, 18, 12, 12, 6, 6, 148, 12, 18, 18, 18, 6, 6, 7293034]
def mIL : List Nat := [99, 99, 99, 0, 0, 0, 0, 0, 0, 0, 0, 99, 99, 1, 1, 1, 1, 1, 1, 1, 3, 3, 3, 3, 3, 3, 3, 3, 3, 3, 3, 6, 6, 6, 6, 6, 6, 6, 6, 4, 4, 4, 4, 4, 4, 4, 4, 4, 4, 4, 4, 4, 2, 2, 2, 2, 2, 2, 2, 5, 5, 5, 5, 5, 5, 5, 5, 5, 5, 5, 5, 5, 7, 7, 7, 7, 7, 7, 7, 7, 7, 7, 7, 7, 7, 7, 7, 7, 7, 7, 7, 7, 7, 7, 7, 7, 7, 7, 7, 7, 7, 7, 7, 8, 8, 8, 8, 8, 8, 8, 8, 8, 8, 8, 8, 8, 8, 8, 8, 8, 8, 8, 8, 8, 8, 8, 8, 8, 8, 8, 8, 8, 8, 8, 8, 8, 8, 8, 8, 8, 8, 8, 8, 8, 8, 8, 8, 8, 8, 8, 8, 99, 99, 99, 99, 99, 99, 99, 99, 99, 99, 99, 99, 99, 99, 99, 99, 99]
def mTL : List Bool := [true, false, false, false, false, false, false, false, false, false, false, true, true, false, false, false, false, false, false, false, false, false, false, false, false, false, false, false, false, false, false, false, false, false, false, false, false, false, false, false, false, false, false, false, false, false, false, false, false, false, false, false, false, false, false, false, false, false, false, false, false, false, false, false, false, false, false, false, false, true, false, true, false, false, false, false, false, false, false, false, false, false, false, false, false, false, false, false, false, false, false, false, false, false, false, true, true, true, true, true, true, true, true, false, false, false, true, true, true, true, false, false, false, true, false, false, false, false, false, false, false, false, false, false, false, true, false, false, false, false, false, false, false, false, false, false, false, false, false, false, false, false, false, false, false, false, false, false, false, false, false, true, true, true, true, true, true, true, true, true, true, true, true, true, true, true, true, true]
def mJL : List (Nat × Nat × Nat × Nat) := [(668, 63, 667, 0), (89, 43, 88, 0), (86, 44, 85, 0), (83, 45, 82, 0), (333, 45, 332, 3), (329, 45, 328, 2), (308, 45, 306, 307), (394, 45, 392, 393), (384, 45, 382, 383), (325, 45, 324, 1), (321, 45, 319, 320), (387, 59, 386, 0), (390, 60, 389, 0), (614, 62, 613, 0), (538, 62, 536, 537), (511, 62, 509, 510), (515, 62, 513, 514), (653, 62, 651, 652), (530, 62, 528, 529), (534, 62, 532, 533), (127, 47, 126, 0), (500, 47, 498, 499), (563, 47, 561, 562), (555, 47, 553, 554), (580, 47, 578, 579), (763, 47, 761, 762), (551, 47, 549, 550), (597, 47, 596, 12), (588, 47, 586, 587), (593, 47, 592, 11), (791, 47, 789, 790), (715, 64, 714, 0), (504, 64, 502, 503), (782, 64, 780, 781), (520, 64, 518, 519), (542, 64, 540, 541), (584, 64, 582, 583), (787, 64, 785, 786), (806, 64, 804, 805), (144, 48, 143, 0), (264, 48, 262, 263), (284, 48, 282, 283), (289, 48, 287, 288), (481, 48, 479, 480), (313, 48, 311, 312), (403, 48, 401, 402), (407, 48, 405, 406), (568, 48, 566, 567), (443, 48, 441, 442), (439, 48, 437, 438), (572, 48, 570, 571), (419, 48, 417, 418), (113, 46, 112, 0), (608, 46, 606, 607), (649, 46, 647, 648), (632, 46, 630, 631), (496, 46, 494, 495), (526, 46, 525, 10), (547, 46, 545, 546), (77, 42, 76, 0), (304, 42, 302, 303), (475, 42, 473, 474), (317, 42, 315, 316), (380, 42, 378, 379), (399, 42, 398, 4), (411, 42, 410, 5), (434, 42, 433, 6), (689, 42, 687, 688), (703, 42, 701, 702), (692, 42, 691, 0), (559, 42, 557, 558), (576, 42, 575, 0), (69, 41, 68, 0), (183, 41, 181, 182), (296, 41, 294, 295), (451, 41, 449, 450), (604, 41, 602, 603), (640, 41, 638, 639), (660, 41, 658, 659), (678, 41, 676, 677), (685, 41, 683, 684), (699, 41, 697, 698), (710, 41, 708, 709), (754, 41, 752, 753), (770, 41, 768, 769), (778, 41, 776, 777), (801, 41, 799, 800), (817, 41, 815, 816), (824, 41, 822, 823), (485, 41, 484, 8), (810, 41, 809, 15), (492, 41, 491, 9), (455, 41, 454, 7), (644, 41, 643, 13), (758, 41, 757, 14), (663, 41, 662, 0), (186, 41, 185, 0), (299, 41, 298, 0), (189, 41, 188, 0), (260, 41, 259, 0), (424, 41, 423, 0), (427, 41, 426, 0), (415, 41, 414, 0), (829, 49, 828, 0), (920, 49, 918, 919), (934, 49, 933, 16), (930, 49, 929, 0), (927, 49, 926, 0), (941, 49, 940, 0), (1042, 49, 1041, 0), (949, 49, 948, 17), (1035, 49, 1034, 35), (1074, 49, 1073, 38), (1012, 49, 1011, 0), (924, 49, 922, 923), (938, 49, 936, 937), (953, 49, 952, 18), (945, 49, 943, 944), (1027, 49, 1025, 1026), (1031, 49, 1029, 1030), (1005, 49, 1004, 31), (1020, 49, 1019, 34), (1016, 49, 1015, 33), (1009, 49, 1008, 32), (1001, 49, 1000, 30), (1023, 49, 1022, 0), (1039, 49, 1037, 1038), (1046, 49, 1044, 1045), (1058, 49, 1057, 37), (1054, 49, 1053, 36), (1050, 49, 1048, 1049), (1062, 49, 1060, 1061), (1066, 49, 1064, 1065), (969, 49, 968, 22), (981, 49, 980, 25), (985, 49, 984, 26), (989, 49, 988, 27), (977, 49, 976, 24), (973, 49, 972, 23), (965, 49, 964, 21), (1070, 49, 1068, 1069), (1078, 49, 1076, 1077), (997, 49, 996, 29), (993, 49, 992, 28), (961, 49, 960, 20), (957, 49, 956, 19), (1086, 49, 1085, 39), (1082, 49, 1080, 1081), (1090, 49, 1088, 1089), (1094, 49, 1092, 1093), (1098, 49, 1096, 1097), (177, 40, 176, 0), (292, 40, 291, 0), (446, 40, 445, 0), (600, 40, 599, 0), (636, 40, 635, 0), (656, 40, 655, 0), (674, 40, 673, 0), (681, 40, 680, 0), (695, 40, 694, 0), (706, 40, 705, 0), (750, 40, 749, 0), (766, 40, 765, 0), (774, 40, 773, 0), (797, 40, 796, 0), (813, 40, 812, 0), (820, 40, 819, 0), (0, 40, 0, 0)]
def cd_0 : List (Nat × AI) := [(0, .iload_n 0, 1, 0, 0, 0, 0), (1, .iload_n 0, 1, 0, 0, 0, 0), (2, .iconst 1, 1, 0, 0, 0, 0), (3, .iushr, 1, 0, 0, 0, 0), (4, .ldc_w 265, 3, 1431655765, 0, 669, 0), (7, .iand, 1, 0, 0, 0, 0), (8, .isub, 1, 0, 0, 0, 0), (9, .istore_n 0, 1, 0, 0, 0, 0), (10, .iload_n 0, 1, 0, 0, 0, 0), (11, .ldc_w 266, 3, 858993459, 0, 670, 0), (14, .iand, 1, 0, 0, 0, 0), (15, .iload_n 0, 1, 0, 0, 0, 0), (16, .iconst 2, 1, 0, 0, 0, 0), (17, .iushr, 1, 0, 0, 0, 0), (18, .ldc_w 266, 3, 858993459, 0, 670, 0), (21, .iand, 1, 0, 0, 0, 0), (22, .iadd, 1, 0, 0, 0, 0), (23, .istore_n 0, 1, 0, 0, 0, 0), (24, .iload_n 0, 1, 0, 0, 0, 0), (25, .iload_n 0, 1, 0, 0, 0, 0), (26, .iconst 4, 1, 0, 0, 0, 0), (27, .iushr, 1, 0, 0, 0, 0), (28, .iadd, 1, 0, 0, 0, 0), (29, .ldc_w 267, 3, 252645135, 0, 671, 0), (32, .iand, 1, 0, 0, 0, 0), (33, .istore_n 0, 1, 0, 0, 0, 0), (34, .iload_n 0, 1, 0, 0, 0, 0), (35, .iload_n 0, 1, 0, 0, 0, 0), (36, .bipush 8, 2, 0, 0, 0, 0), (38, .iushr, 1, 0, 0, 0, 0), (39, .iadd, 1, 0, 0, 0, 0), (40, .istore_n 0, 1, 0, 0, 0, 0), (41, .iload_n 0, 1, 0, 0, 0, 0), (42, .iload_n 0, 1, 0, 0, 0, 0), (43, .bipush 16, 2, 0, 0, 0, 0), (45, .iushr, 1, 0, 0, 0, 0), (46, .iadd, 1, 0, 0, 0, 0), (47, .istore_n 0, 1, 0, 0, 0, 0), (48, .iload_n 0, 1, 0, 0, 0, 0), (49, .bipush 63, 2, 0, 0, 0, 0), (51, .iand, 1, 0, 0, 0, 0), (52, .ireturn, 1, 0, 0, 0, 0)]
def cd_1 : List (Nat × AI) := [(0, .aload_n 0, 1, 0, 0, 0, 0), (1, .invokespecial 1, 3, 0, 1, 90, 2), (4, .return_, 1, 0, 0, 0, 0)]
def cd_2 : List (Nat × AI) := [(0, .aload_n 0, 1, 0, 0, 0, 0), (1, .invokespecial 1, 3, 1, 1, 87, 0), (4, .aload_n 0, 1, 0, 0, 0, 0), (5, .iconst 0, 1, 0, 0, 0, 0), (6, .putfield 7, 3, 0, 0, 95, 0), (9, .return_, 1, 0, 0, 0, 0)]
def cd_3 : List (Nat × AI) := [(0, .aload_n 0, 1, 0, 0, 0, 0), (1, .invokespecial 1, 3, 2, 1, 84, 0), (4, .aload_n 0, 1, 0, 0, 0, 0), (5, .getstatic 39, 3, 0, 0, 91, 0), (8, .putfield 9, 3, 0, 1, 93, 0), (11, .return_, 1, 0, 0, 0, 0)]
def cd_4 : List (Nat × AI) := [(0, .aload_n 0, 1, 0, 0, 0, 0), (1, .getfield 9, 3, 0, 1, 93, 0), (4, .arraylength, 1, 0, 0, 0, 0), (5, .istore_n 2, 1, 0, 0, 0, 0), (6, .iload_n 2, 1, 0, 0, 0, 0), (7, .ifCond .gt 13, 3, 20, 0, 0, 0), (10, .aload_n 0, 1, 0, 0, 0, 0), (11, .getfield 9, 3, 0, 1, 93, 0), (14, .getstatic 39, 3, 0, 0, 91, 0), (17, .if_acmp .eq 28, 3, 45, 0, 0, 0), (45, .aload_n 0, 1, 0, 0, 0, 0), (46, .bipush 10, 2, 0, 0, 0, 0), (48, .iload_n 1, 1, 0, 0, 0, 0), (49, .invokestatic 79, 3, 0, 0, 375, 4), (52, .anewarray 7, 3, 0, 0, 376, 0), (55, .dup_x1, 1, 0, 0, 0, 0), (56, .putfield 9, 3, 0, 1, 93, 0), (59, .areturn, 1, 0, 0, 0, 0)]
def cd_5 : List (Nat × AI) := [(0, .aload_n 0, 1, 0, 0, 0, 0), (1, .aload_n 0, 1, 0, 0, 0, 0), (2, .getfield 48, 3, 0, 2, 94, 0), (5, .iconst 1, 1, 0, 0, 0, 0), (6, .iadd, 1, 0, 0, 0, 0), (7, .invokevirtual 69, 3, 4, 2, 330, 0), (10, .areturn, 1, 0, 0, 0, 0)]
def cd_6 : List (Nat × AI) := [(0, .aload_n 0, 1, 0, 0, 0, 0), (1, .getfield 48, 3, 0, 2, 94, 0), (4, .ireturn, 1, 0, 0, 0, 0)]
def cd_7 : List (Nat × AI) := [(0, .aload_n 0, 1, 0, 0, 0, 0), (1, .getfield 9, 3, 0, 1, 93, 0), (4, .iload_n 1, 1, 0, 0, 0, 0), (5, .aaload, 1, 0, 0, 0, 0), (6, .areturn, 1, 0, 0, 0, 0)]
def cd_8 : List (Nat × AI) := [(0, .iload_n 1, 1, 0, 0, 0, 0), (1, .aload_n 0, 1, 0, 0, 0, 0), (2, .getfield 48, 3, 0, 2, 94, 0), (5, .invokestatic 118, 3, 11, 2, 385, 0), (8, .pop, 1, 0, 0, 0, 0), (9, .aload_n 0, 1, 0, 0, 0, 0), (10, .iload_n 1, 1, 0, 0, 0, 0), (11, .invokevirtual 123, 3, 7, 2, 391, 0), (14, .areturn, 1, 0, 0, 0, 0)]
def cd_9 : List (Nat × AI) := [(0, .iload_n 3, 1, 0, 0, 0, 0), (1, .aload_n 2, 1, 0, 0, 0, 0), (2, .arraylength, 1, 0, 0, 0, 0), (3, .if_icmp .ne 8, 3, 11, 0, 0, 0), (6, .aload_n 0, 1, 0, 0, 0, 0), (7, .invokevirtual 129, 3, 5, 1, 326, 0), (10, .astore_n 2, 1, 0, 0, 0, 0), (11, .aload_n 2, 1, 0, 0, 0, 0), (12, .iload_n 3, 1, 0, 0, 0, 0), (13, .aload_n 1, 1, 0, 0, 0, 0), (14, .aastore, 1, 0, 0, 0, 0), (15, .aload_n 0, 1, 0, 0, 0, 0), (16, .iload_n 3, 1, 0, 0, 0, 0), (17, .iconst 1, 1, 0, 0, 0, 0), (18, .iadd, 1, 0, 0, 0, 0), (19, .putfield 48, 3, 0, 2, 94, 0), (22, .return_, 1, 0, 0, 0, 0)]
def cd_10 : List (Nat × AI) := [(0, .aload_n 0, 1, 0, 0, 0, 0), (1, .dup, 1, 0, 0, 0, 0), (2, .getfield 63, 3, 0, 0, 96, 10), (5, .iconst 1, 1, 0, 0, 0, 0), (6, .iadd, 1, 0, 0, 0, 0), (7, .putfield 63, 3, 0, 0, 96, 10), (10, .aload_n 0, 1, 0, 0, 0, 0), (11, .aload_n 1, 1, 0, 0, 0, 0), (12, .aload_n 0, 1, 0, 0, 0, 0), (13, .getfield 9, 3, 0, 1, 93, 0), (16, .aload_n 0, 1, 0, 0, 0, 0), (17, .getfield 48, 3, 0, 2, 94, 0), (20, .invokevirtual 131, 3, 9, 4, 322, 0), (23, .iconst 1, 1, 0, 0, 0, 0), (24, .ireturn, 1, 0, 0, 0, 0)]
def cd_11 : List (Nat × AI) := [(0, .iload_n 0, 1, 0, 0, 0, 0), (1, .iload_n 1, 1, 0, 0, 0, 0), (2, .aconst_null, 1, 0, 0, 0, 0), (3, .invokestatic 105, 3, 12, 3, 388, 0), (6, .ireturn, 1, 0, 0, 0, 0)]
def cd_12 : List (Nat × AI) := [(0, .iload_n 0, 1, 0, 0, 0, 0), (1, .ifCond .lt 8, 3, 9, 0, 0, 0), (4, .iload_n 0, 1, 0, 0, 0, 0), (5, .iload_n 1, 1, 0, 0, 0, 0), (6, .if_icmp .lt 10, 3, 16, 0, 0, 0), (16, .iload_n 0, 1, 0, 0, 0, 0), (17, .ireturn, 1, 0, 0, 0, 0)]
def cd_13 : List (Nat × AI) := [(0, .aload_n 0, 1, 0, 0, 0, 0), (1, .invokespecial 3, 3, 0, 1, 615, 2), (4, .aload_n 0, 1, 0, 0, 0, 0), (5, .iload_n 1, 1, 0, 0, 0, 0), (6, .putfield 9, 3, 1, 2, 618, 0), (9, .aload_n 0, 1, 0, 0, 0, 0), (10, .iload_n 2, 1, 0, 0, 0, 0), (11, .putfield 15, 3, 1, 3, 619, 0), (14, .aload_n 0, 1, 0, 0, 0, 0), (15, .iload_n 3, 1, 0, 0, 0, 0), (16, .putfield 18, 3, 1, 0, 616, 0), (19, .aload_n 0, 1, 0, 0, 0, 0), (20, .iload 4, 2, 0, 0, 0, 0), (22, .putfield 21, 3, 1, 1, 617, 0), (25, .return_, 1, 0, 0, 0, 0)]
def cd_14 : List (Nat × AI) := [(0, .aload_n 0, 1, 0, 0, 0, 0), (1, .getfield 18, 3, 1, 0, 616, 0), (4, .ireturn, 1, 0, 0, 0, 0)]
def cd_15 : List (Nat × AI) := [(0, .aload_n 0, 1, 0, 0, 0, 0), (1, .getfield 21, 3, 1, 1, 617, 0), (4, .ireturn, 1, 0, 0, 0, 0)]
def cd_16 : List (Nat × AI) := [(0, .aload_n 0, 1, 0, 0, 0, 0), (1, .getfield 9, 3, 1, 2, 618, 0), (4, .aload_n 0, 1, 0, 0, 0, 0), (5, .getfield 15, 3, 1, 3, 619, 0), (8, .invokestatic 24, 3, 99, 2, 516, 1), (11, .ireturn, 1, 0, 0, 0, 0)]
def cd_17 : List (Nat × AI) := [(0, .aload_n 0, 1, 0, 0, 0, 0), (1, .iload_n 1, 1, 0, 0, 0, 0), (2, .putfield 9, 3, 1, 2, 618, 0), (5, .aload_n 0, 1, 0, 0, 0, 0), (6, .iload_n 2, 1, 0, 0, 0, 0), (7, .putfield 15, 3, 1, 3, 619, 0), (10, .return_, 1, 0, 0, 0, 0)]
def cd_18 : List (Nat × AI) := [(0, .iload_n 1, 1, 0, 0, 0, 0), (1, .ifCond .ne 10, 3, 11, 0, 0, 0), (4, .aload_n 0, 1, 0, 0, 0, 0), (5, .getfield 9, 3, 1, 2, 618, 0), (8, .iconst 1, 1, 0, 0, 0, 0), (9, .iadd, 1, 0, 0, 0, 0), (10, .ireturn, 1, 0, 0, 0, 0), (11, .iload_n 1, 1, 0, 0, 0, 0), (12, .iconst 1, 1, 0, 0, 0, 0), (13, .if_icmp .ne 15, 3, 28, 0, 0, 0), (16, .aload_n 0, 1, 0, 0, 0, 0), (17, .getfield 9, 3, 1, 2, 618, 0), (20, .aload_n 0, 1, 0, 0, 0, 0), (21, .getfield 18, 3, 1, 0, 616, 0), (24, .isub, 1, 0, 0, 0, 0), (25, .goto 7, 3, 32, 0, 0, 0), (28, .aload_n 0, 1, 0, 0, 0, 0), (29, .getfield 9, 3, 1, 2, 618, 0), (32, .ireturn, 1, 0, 0, 0, 0)]
def cd_19 : List (Nat × AI) := [(0, .iload_n 1, 1, 0, 0, 0, 0), (1, .iconst 2, 1, 0, 0, 0, 0), (2, .if_icmp .ne 10, 3, 12, 0, 0, 0), (5, .aload_n 0, 1, 0, 0, 0, 0), (6, .getfield 15, 3, 1, 3, 619, 0), (9, .iconst 1, 1, 0, 0, 0, 0), (10, .iadd, 1, 0, 0, 0, 0), (11, .ireturn, 1, 0, 0, 0, 0), (12, .iload_n 1, 1, 0, 0, 0, 0), (13, .iconst 3, 1, 0, 0, 0, 0), (14, .if_icmp .ne 12, 3, 26, 0, 0, 0), (17, .aload_n 0, 1, 0, 0, 0, 0), (18, .getfield 15, 3, 1, 3, 619, 0), (21, .iconst 1, 1, 0, 0, 0, 0), (22, .isub, 1, 0, 0, 0, 0), (23, .goto 7, 3, 30, 0, 0, 0), (26, .aload_n 0, 1, 0, 0, 0, 0), (27, .getfield 15, 3, 1, 3, 619, 0), (30, .ireturn, 1, 0, 0, 0, 0)]
def cd_20 : List (Nat × AI) := [(0, .aload_n 0, 1, 0, 0, 0, 0), (1, .invokespecial 3, 3, 0, 1, 128, 2), (4, .aload_n 0, 1, 0, 0, 0, 0), (5, .bipush 10, 2, 0, 0, 0, 0), (7, .newarray .int, 2, 0, 0, 0, 0), (9, .putfield 9, 3, 3, 0, 129, 0), (12, .aload_n 0, 1, 0, 0, 0, 0), (13, .bipush 10, 2, 0, 0, 0, 0), (15, .newarray .int, 2, 0, 0, 0, 0), (17, .putfield 15, 3, 3, 1, 130, 0), (20, .aload_n 0, 1, 0, 0, 0, 0), (21, .bipush 64, 2, 0, 0, 0, 0), (23, .newarray .int, 2, 0, 0, 0, 0), (25, .putfield 18, 3, 3, 2, 131, 0), (28, .return_, 1, 0, 0, 0, 0)]
def cd_21 : List (Nat × AI) := [(0, .iconst 0, 1, 0, 0, 0, 0), (1, .istore_n 1, 1, 0, 0, 0, 0), (2, .iload_n 1, 1, 0, 0, 0, 0), (3, .aload_n 0, 1, 0, 0, 0, 0), (4, .getfield 9, 3, 3, 0, 129, 0), (7, .arraylength, 1, 0, 0, 0, 0), (8, .if_icmp .ge 16, 3, 24, 0, 0, 0), (11, .aload_n 0, 1, 0, 0, 0, 0), (12, .getfield 9, 3, 3, 0, 129, 0), (15, .iload_n 1, 1, 0, 0, 0, 0), (16, .iconst (-1), 1, 0, 0, 0, 0), (17, .iastore, 1, 0, 0, 0, 0), (18, .iinc 1 1, 3, 0, 0, 0, 0), (21, .goto (-19), 3, 2, 0, 0, 0), (24, .iconst 0, 1, 0, 0, 0, 0), (25, .istore_n 1, 1, 0, 0, 0, 0), (26, .iload_n 1, 1, 0, 0, 0, 0), (27, .aload_n 0, 1, 0, 0, 0, 0), (28, .getfield 15, 3, 3, 1, 130, 0), (31, .arraylength, 1, 0, 0, 0, 0), (32, .if_icmp .ge 16, 3, 48, 0, 0, 0), (35, .aload_n 0, 1, 0, 0, 0, 0), (36, .getfield 15, 3, 3, 1, 130, 0), (39, .iload_n 1, 1, 0, 0, 0, 0), (40, .iconst (-1), 1, 0, 0, 0, 0), (41, .iastore, 1, 0, 0, 0, 0), (42, .iinc 1 1, 3, 0, 0, 0, 0), (45, .goto (-19), 3, 26, 0, 0, 0), (48, .return_, 1, 0, 0, 0, 0)]
def cd_22 : List (Nat × AI) := [(0, .iconst 0, 1, 0, 0, 0, 0), (1, .istore_n 1, 1, 0, 0, 0, 0), (2, .iload_n 1, 1, 0, 0, 0, 0), (3, .aload_n 0, 1, 0, 0, 0, 0), (4, .getfield 18, 3, 3, 2, 131, 0), (7, .arraylength, 1, 0, 0, 0, 0), (8, .if_icmp .ge 16, 3, 24, 0, 0, 0), (11, .aload_n 0, 1, 0, 0, 0, 0), (12, .getfield 18, 3, 3, 2, 131, 0), (15, .iload_n 1, 1, 0, 0, 0, 0), (16, .iconst (-1), 1, 0, 0, 0, 0), (17, .iastore, 1, 0, 0, 0, 0), (18, .iinc 1 1, 3, 0, 0, 0, 0), (21, .goto (-19), 3, 2, 0, 0, 0), (24, .return_, 1, 0, 0, 0, 0)]
def cd_23 : List (Nat × AI) := [(0, .iload_n 1, 1, 0, 0, 0, 0), (1, .ifCond .lt 35, 3, 36, 0, 0, 0), (4, .iload_n 1, 1, 0, 0, 0, 0), (5, .aload_n 0, 1, 0, 0, 0, 0), (6, .getfield 9, 3, 3, 0, 129, 0), (9, .arraylength, 1, 0, 0, 0, 0), (10, .if_icmp .ge 26, 3, 36, 0, 0, 0), (13, .iload_n 1, 1, 0, 0, 0, 0), (14, .aload_n 0, 1, 0, 0, 0, 0), (15, .getfield 15, 3, 3, 1, 130, 0), (18, .arraylength, 1, 0, 0, 0, 0), (19, .if_icmp .ge 17, 3, 36, 0, 0, 0), (22, .aload_n 0, 1, 0, 0, 0, 0), (23, .getfield 15, 3, 3, 1, 130, 0), (26, .iload_n 1, 1, 0, 0, 0, 0), (27, .iload_n 2, 1, 0, 0, 0, 0), (28, .iastore, 1, 0, 0, 0, 0), (29, .aload_n 0, 1, 0, 0, 0, 0), (30, .getfield 9, 3, 3, 0, 129, 0), (33, .iload_n 1, 1, 0, 0, 0, 0), (34, .iload_n 3, 1, 0, 0, 0, 0), (35, .iastore, 1, 0, 0, 0, 0), (36, .return_, 1, 0, 0, 0, 0)]
def cd_24 : List (Nat × AI) := [(0, .iload_n 1, 1, 0, 0, 0, 0), (1, .bipush 8, 2, 0, 0, 0, 0), (3, .imul, 1, 0, 0, 0, 0), (4, .iload_n 2, 1, 0, 0, 0, 0), (5, .iadd, 1, 0, 0, 0, 0), (6, .istore 4, 2, 0, 0, 0, 0), (8, .iload 4, 2, 0, 0, 0, 0), (10, .ifCond .lt 21, 3, 31, 0, 0, 0), (13, .iload 4, 2, 0, 0, 0, 0), (15, .aload_n 0, 1, 0, 0, 0, 0), (16, .getfield 18, 3, 3, 2, 131, 0), (19, .arraylength, 1, 0, 0, 0, 0), (20, .if_icmp .ge 11, 3, 31, 0, 0, 0), (23, .aload_n 0, 1, 0, 0, 0, 0), (24, .getfield 18, 3, 3, 2, 131, 0), (27, .iload 4, 2, 0, 0, 0, 0), (29, .iload_n 3, 1, 0, 0, 0, 0), (30, .iastore, 1, 0, 0, 0, 0), (31, .return_, 1, 0, 0, 0, 0)]
def cd_25 : List (Nat × AI) := [(0, .iload_n 1, 1, 0, 0, 0, 0), (1, .ifCond .lt 21, 3, 22, 0, 0, 0), (4, .iload_n 1, 1, 0, 0, 0, 0), (5, .aload_n 0, 1, 0, 0, 0, 0), (6, .getfield 15, 3, 3, 1, 130, 0), (9, .arraylength, 1, 0, 0, 0, 0), (10, .if_icmp .ge 12, 3, 22, 0, 0, 0), (13, .aload_n 0, 1, 0, 0, 0, 0), (14, .getfield 15, 3, 3, 1, 130, 0), (17, .iload_n 1, 1, 0, 0, 0, 0), (18, .iaload, 1, 0, 0, 0, 0), (19, .goto 4, 3, 23, 0, 0, 0), (22, .iconst (-1), 1, 0, 0, 0, 0), (23, .ireturn, 1, 0, 0, 0, 0)]
def cd_26 : List (Nat × AI) := [(0, .iload_n 1, 1, 0, 0, 0, 0), (1, .ifCond .lt 21, 3, 22, 0, 0, 0), (4, .iload_n 1, 1, 0, 0, 0, 0), (5, .aload_n 0, 1, 0, 0, 0, 0), (6, .getfield 9, 3, 3, 0, 129, 0), (9, .arraylength, 1, 0, 0, 0, 0), (10, .if_icmp .ge 12, 3, 22, 0, 0, 0), (13, .aload_n 0, 1, 0, 0, 0, 0), (14, .getfield 9, 3, 3, 0, 129, 0), (17, .iload_n 1, 1, 0, 0, 0, 0), (18, .iaload, 1, 0, 0, 0, 0), (19, .goto 4, 3, 23, 0, 0, 0), (22, .iconst (-1), 1, 0, 0, 0, 0), (23, .ireturn, 1, 0, 0, 0, 0)]
def cd_27 : List (Nat × AI) := [(0, .iload_n 1, 1, 0, 0, 0, 0), (1, .bipush 8, 2, 0, 0, 0, 0), (3, .imul, 1, 0, 0, 0, 0), (4, .iload_n 2, 1, 0, 0, 0, 0), (5, .iadd, 1, 0, 0, 0, 0), (6, .istore_n 3, 1, 0, 0, 0, 0), (7, .iload_n 3, 1, 0, 0, 0, 0), (8, .ifCond .lt 21, 3, 29, 0, 0, 0), (11, .iload_n 3, 1, 0, 0, 0, 0), (12, .aload_n 0, 1, 0, 0, 0, 0), (13, .getfield 18, 3, 3, 2, 131, 0), (16, .arraylength, 1, 0, 0, 0, 0), (17, .if_icmp .ge 12, 3, 29, 0, 0, 0), (20, .aload_n 0, 1, 0, 0, 0, 0), (21, .getfield 18, 3, 3, 2, 131, 0), (24, .iload_n 3, 1, 0, 0, 0, 0), (25, .iaload, 1, 0, 0, 0, 0), (26, .goto 4, 3, 30, 0, 0, 0), (29, .iconst (-1), 1, 0, 0, 0, 0), (30, .ireturn, 1, 0, 0, 0, 0)]
def cd_28 : List (Nat × AI) := [(0, .iconst 0, 1, 0, 0, 0, 0), (1, .istore_n 2, 1, 0, 0, 0, 0), (2, .iconst 0, 1, 0, 0, 0, 0), (3, .istore_n 3, 1, 0, 0, 0, 0), (4, .iload_n 3, 1, 0, 0, 0, 0), (5, .bipush 10, 2, 0, 0, 0, 0), (7, .if_icmp .ge 25, 3, 32, 0, 0, 0), (10, .aload_n 0, 1, 0, 0, 0, 0), (11, .iload_n 3, 1, 0, 0, 0, 0), (12, .invokevirtual 21, 3, 26, 2, 589, 0), (15, .aload_n 1, 1, 0, 0, 0, 0), (16, .iload_n 3, 1, 0, 0, 0, 0), (17, .invokevirtual 21, 3, 26, 2, 589, 0), (20, .if_icmp .eq 6, 3, 26, 0, 0, 0), (23, .iinc 2 1, 3, 0, 0, 0, 0), (26, .iinc 3 1, 3, 0, 0, 0, 0), (29, .goto (-25), 3, 4, 0, 0, 0), (32, .iconst 0, 1, 0, 0, 0, 0), (33, .istore_n 3, 1, 0, 0, 0, 0), (34, .iload_n 3, 1, 0, 0, 0, 0), (35, .bipush 8, 2, 0, 0, 0, 0), (37, .if_icmp .ge 21, 3, 58, 0, 0, 0), (40, .aload_n 0, 1, 0, 0, 0, 0), (41, .iload_n 3, 1, 0, 0, 0, 0), (42, .aload_n 1, 1, 0, 0, 0, 0), (43, .invokevirtual 25, 3, 29, 3, 590, 0), (46, .ifCond .ne 6, 3, 52, 0, 0, 0), (49, .iinc 2 1, 3, 0, 0, 0, 0), (52, .iinc 3 1, 3, 0, 0, 0, 0), (55, .goto (-21), 3, 34, 0, 0, 0), (58, .iload_n 2, 1, 0, 0, 0, 0), (59, .ireturn, 1, 0, 0, 0, 0)]
def cd_29 : List (Nat × AI) := [(0, .iconst 0, 1, 0, 0, 0, 0), (1, .istore_n 3, 1, 0, 0, 0, 0), (2, .iload_n 3, 1, 0, 0, 0, 0), (3, .bipush 8, 2, 0, 0, 0, 0), (5, .if_icmp .ge 26, 3, 31, 0, 0, 0), (8, .aload_n 0, 1, 0, 0, 0, 0), (9, .iload_n 1, 1, 0, 0, 0, 0), (10, .iload_n 3, 1, 0, 0, 0, 0), (11, .invokevirtual 29, 3, 27, 3, 594, 0), (14, .aload_n 2, 1, 0, 0, 0, 0), (15, .iload_n 1, 1, 0, 0, 0, 0), (16, .iload_n 3, 1, 0, 0, 0, 0), (17, .invokevirtual 29, 3, 27, 3, 594, 0), (20, .if_icmp .eq 5, 3, 25, 0, 0, 0), (23, .iconst 0, 1, 0, 0, 0, 0), (24, .ireturn, 1, 0, 0, 0, 0), (25, .iinc 3 1, 3, 0, 0, 0, 0), (28, .goto (-26), 3, 2, 0, 0, 0), (31, .iconst 1, 1, 0, 0, 0, 0), (32, .ireturn, 1, 0, 0, 0, 0)]
def cd_30 : List (Nat × AI) := [(0, .iconst 0, 1, 0, 0, 0, 0), (1, .istore_n 2, 1, 0, 0, 0, 0), (2, .iload_n 2, 1, 0, 0, 0, 0), (3, .bipush 10, 2, 0, 0, 0, 0), (5, .if_icmp .ge 24, 3, 29, 0, 0, 0), (8, .aload_n 0, 1, 0, 0, 0, 0), (9, .iload_n 2, 1, 0, 0, 0, 0), (10, .aload_n 1, 1, 0, 0, 0, 0), (11, .iload_n 2, 1, 0, 0, 0, 0), (12, .invokevirtual 33, 3, 25, 2, 792, 0), (15, .aload_n 1, 1, 0, 0, 0, 0), (16, .iload_n 2, 1, 0, 0, 0, 0), (17, .invokevirtual 21, 3, 26, 2, 589, 0), (20, .invokevirtual 36, 3, 23, 4, 793, 0), (23, .iinc 2 1, 3, 0, 0, 0, 0), (26, .goto (-24), 3, 2, 0, 0, 0), (29, .iconst 0, 1, 0, 0, 0, 0), (30, .istore_n 2, 1, 0, 0, 0, 0), (31, .iload_n 2, 1, 0, 0, 0, 0), (32, .bipush 8, 2, 0, 0, 0, 0), (34, .if_icmp .ge 35, 3, 69, 0, 0, 0), (37, .iconst 0, 1, 0, 0, 0, 0), (38, .istore_n 3, 1, 0, 0, 0, 0), (39, .iload_n 3, 1, 0, 0, 0, 0), (40, .bipush 8, 2, 0, 0, 0, 0), (42, .if_icmp .ge 21, 3, 63, 0, 0, 0), (45, .aload_n 0, 1, 0, 0, 0, 0), (46, .iload_n 2, 1, 0, 0, 0, 0), (47, .iload_n 3, 1, 0, 0, 0, 0), (48, .aload_n 1, 1, 0, 0, 0, 0), (49, .iload_n 2, 1, 0, 0, 0, 0), (50, .iload_n 3, 1, 0, 0, 0, 0), (51, .invokevirtual 29, 3, 27, 3, 594, 0), (54, .invokevirtual 40, 3, 24, 4, 794, 0), (57, .iinc 3 1, 3, 0, 0, 0, 0), (60, .goto (-21), 3, 39, 0, 0, 0), (63, .iinc 2 1, 3, 0, 0, 0, 0), (66, .goto (-35), 3, 31, 0, 0, 0), (69, .return_, 1, 0, 0, 0, 0)]
def cd_31 : List (Nat × AI) := [(0, .aload_n 0, 1, 0, 0, 0, 0), (1, .invokespecial 1, 3, 0, 1, 716, 2), (4, .aload_n 0, 1, 0, 0, 0, 0), (5, .new 7, 3, 3, 3, 717, 0), (8, .dup, 1, 0, 0, 0, 0), (9, .invokespecial 9, 3, 20, 1, 718, 1), (12, .putfield 10, 3, 6, 6, 725, 0), (15, .aload_n 0, 1, 0, 0, 0, 0), (16, .iconst 0, 1, 0, 0, 0, 0), (17, .putfield 16, 3, 6, 7, 726, 0), (20, .aload_n 0, 1, 0, 0, 0, 0), (21, .iconst 0, 1, 0, 0, 0, 0), (22, .putfield 20, 3, 6, 8, 727, 0), (25, .aload_n 0, 1, 0, 0, 0, 0), (26, .iload_n 1, 1, 0, 0, 0, 0), (27, .putfield 24, 3, 6, 0, 719, 0), (30, .aload_n 0, 1, 0, 0, 0, 0), (31, .iload_n 2, 1, 0, 0, 0, 0), (32, .putfield 27, 3, 6, 1, 720, 0), (35, .aload_n 0, 1, 0, 0, 0, 0), (36, .iload_n 3, 1, 0, 0, 0, 0), (37, .putfield 30, 3, 6, 2, 721, 0), (40, .aload_n 0, 1, 0, 0, 0, 0), (41, .iload 4, 2, 0, 0, 0, 0), (43, .putfield 33, 3, 6, 3, 722, 0), (46, .aload_n 0, 1, 0, 0, 0, 0), (47, .iload 5, 2, 0, 0, 0, 0), (49, .putfield 36, 3, 6, 4, 723, 0), (52, .aload_n 0, 1, 0, 0, 0, 0), (53, .iload 6, 2, 0, 0, 0, 0), (55, .putfield 39, 3, 6, 5, 724, 0), (58, .return_, 1, 0, 0, 0, 0)]
def cd_32 : List (Nat × AI) := [(0, .aload_n 0, 1, 0, 0, 0, 0), (1, .getfield 24, 3, 6, 0, 719, 0), (4, .ireturn, 1, 0, 0, 0, 0)]
def cd_33 : List (Nat × AI) := [(0, .aload_n 0, 1, 0, 0, 0, 0), (1, .getfield 20, 3, 6, 8, 727, 0), (4, .ireturn, 1, 0, 0, 0, 0)]
def cd_34 : List (Nat × AI) := [(0, .iload_n 1, 1, 0, 0, 0, 0), (1, .invokestatic 42, 3, 100, 1, 521, 1), (4, .istore_n 2, 1, 0, 0, 0, 0), (5, .iload_n 1, 1, 0, 0, 0, 0), (6, .invokestatic 48, 3, 101, 1, 522, 1), (9, .istore_n 3, 1, 0, 0, 0, 0), (10, .iload_n 2, 1, 0, 0, 0, 0), (11, .aload_n 0, 1, 0, 0, 0, 0), (12, .getfield 27, 3, 6, 1, 720, 0), (15, .if_icmp .lt 31, 3, 46, 0, 0, 0), (18, .iload_n 2, 1, 0, 0, 0, 0), (19, .aload_n 0, 1, 0, 0, 0, 0), (20, .getfield 33, 3, 6, 3, 722, 0), (23, .if_icmp .gt 23, 3, 46, 0, 0, 0), (26, .iload_n 3, 1, 0, 0, 0, 0), (27, .aload_n 0, 1, 0, 0, 0, 0), (28, .getfield 30, 3, 6, 2, 721, 0), (31, .if_icmp .lt 15, 3, 46, 0, 0, 0), (34, .iload_n 3, 1, 0, 0, 0, 0), (35, .aload_n 0, 1, 0, 0, 0, 0), (36, .getfield 36, 3, 6, 4, 723, 0), (39, .if_icmp .gt 7, 3, 46, 0, 0, 0), (42, .iconst 1, 1, 0, 0, 0, 0), (43, .goto 4, 3, 47, 0, 0, 0), (46, .iconst 0, 1, 0, 0, 0, 0), (47, .ireturn, 1, 0, 0, 0, 0)]
def cd_35 : List (Nat × AI) := [(0, .iload_n 1, 1, 0, 0, 0, 0), (1, .iload_n 3, 1, 0, 0, 0, 0), (2, .iadd, 1, 0, 0, 0, 0), (3, .iconst 1, 1, 0, 0, 0, 0), (4, .isub, 1, 0, 0, 0, 0), (5, .istore 4, 2, 0, 0, 0, 0), (7, .iload_n 1, 1, 0, 0, 0, 0), (8, .aload_n 0, 1, 0, 0, 0, 0), (9, .getfield 27, 3, 6, 1, 720, 0), (12, .if_icmp .lt 32, 3, 44, 0, 0, 0), (15, .iload 4, 2, 0, 0, 0, 0), (17, .aload_n 0, 1, 0, 0, 0, 0), (18, .getfield 33, 3, 6, 3, 722, 0), (21, .if_icmp .gt 23, 3, 44, 0, 0, 0), (24, .iload_n 2, 1, 0, 0, 0, 0), (25, .aload_n 0, 1, 0, 0, 0, 0), (26, .getfield 30, 3, 6, 2, 721, 0), (29, .if_icmp .lt 15, 3, 44, 0, 0, 0), (32, .iload_n 2, 1, 0, 0, 0, 0), (33, .aload_n 0, 1, 0, 0, 0, 0), (34, .getfield 36, 3, 6, 4, 723, 0), (37, .if_icmp .gt 7, 3, 44, 0, 0, 0), (40, .iconst 1, 1, 0, 0, 0, 0), (41, .goto 4, 3, 45, 0, 0, 0), (44, .iconst 0, 1, 0, 0, 0, 0), (45, .istore 5, 2, 0, 0, 0, 0), (47, .aload_n 0, 1, 0, 0, 0, 0), (48, .getfield 39, 3, 6, 5, 724, 0), (51, .iload_n 1, 1, 0, 0, 0, 0), (52, .if_icmp .lt 16, 3, 68, 0, 0, 0), (55, .aload_n 0, 1, 0, 0, 0, 0), (56, .getfield 39, 3, 6, 5, 724, 0), (59, .iload 4, 2, 0, 0, 0, 0), (61, .if_icmp .gt 7, 3, 68, 0, 0, 0), (64, .iconst 1, 1, 0, 0, 0, 0), (65, .goto 4, 3, 69, 0, 0, 0), (68, .iconst 0, 1, 0, 0, 0, 0), (69, .istore 6, 2, 0, 0, 0, 0), (71, .iload 5, 2, 0, 0, 0, 0), (73, .ifCond .eq 12, 3, 85, 0, 0, 0), (76, .iload 6, 2, 0, 0, 0, 0), (78, .ifCond .ne 7, 3, 85, 0, 0, 0), (81, .iconst 1, 1, 0, 0, 0, 0), (82, .goto 4, 3, 86, 0, 0, 0), (85, .iconst 0, 1, 0, 0, 0, 0), (86, .ireturn, 1, 0, 0, 0, 0)]
def cd_36 : List (Nat × AI) := [(0, .aload_n 0, 1, 0, 0, 0, 0), (1, .getfield 16, 3, 6, 7, 726, 0), (4, .ifCond .eq 14, 3, 18, 0, 0, 0), (7, .aload_n 0, 1, 0, 0, 0, 0), (8, .getfield 10, 3, 6, 6, 725, 0), (11, .aload_n 1, 1, 0, 0, 0, 0), (12, .invokevirtual 51, 3, 28, 2, 585, 0), (15, .goto 4, 3, 19, 0, 0, 0), (18, .iconst 0, 1, 0, 0, 0, 0), (19, .ireturn, 1, 0, 0, 0, 0)]
def cd_37 : List (Nat × AI) := [(0, .aload_n 0, 1, 0, 0, 0, 0), (1, .getfield 10, 3, 6, 6, 725, 0), (4, .aload_n 1, 1, 0, 0, 0, 0), (5, .invokevirtual 55, 3, 30, 2, 788, 0), (8, .aload_n 0, 1, 0, 0, 0, 0), (9, .iconst 1, 1, 0, 0, 0, 0), (10, .putfield 16, 3, 6, 7, 726, 0), (13, .aload_n 0, 1, 0, 0, 0, 0), (14, .iload_n 2, 1, 0, 0, 0, 0), (15, .putfield 20, 3, 6, 8, 727, 0), (18, .return_, 1, 0, 0, 0, 0)]
def cd_38 : List (Nat × AI) := [(0, .aload_n 0, 1, 0, 0, 0, 0), (1, .dup, 1, 0, 0, 0, 0), (2, .getfield 20, 3, 6, 8, 727, 0), (5, .iload_n 1, 1, 0, 0, 0, 0), (6, .isub, 1, 0, 0, 0, 0), (7, .putfield 20, 3, 6, 8, 727, 0), (10, .return_, 1, 0, 0, 0, 0)]
def cd_39 : List (Nat × AI) := [(0, .aload_n 0, 1, 0, 0, 0, 0), (1, .invokespecial 3, 3, 0, 1, 145, 2), (4, .aload_n 0, 1, 0, 0, 0, 0), (5, .bipush 8, 2, 0, 0, 0, 0), (7, .newarray .int, 2, 0, 0, 0, 0), (9, .putfield 9, 3, 4, 0, 146, 0), (12, .aload_n 0, 1, 0, 0, 0, 0), (13, .iconst 4, 1, 0, 0, 0, 0), (14, .newarray .int, 2, 0, 0, 0, 0), (16, .putfield 15, 3, 4, 1, 147, 0), (19, .aload_n 0, 1, 0, 0, 0, 0), (20, .iconst 0, 1, 0, 0, 0, 0), (21, .putfield 18, 3, 4, 2, 148, 0), (24, .aload_n 0, 1, 0, 0, 0, 0), (25, .iconst 0, 1, 0, 0, 0, 0), (26, .putfield 22, 3, 4, 3, 149, 0), (29, .return_, 1, 0, 0, 0, 0)]
def cd_40 : List (Nat × AI) := [(0, .aload_n 0, 1, 0, 0, 0, 0), (1, .getfield 18, 3, 4, 2, 148, 0), (4, .ireturn, 1, 0, 0, 0, 0)]
def cd_41 : List (Nat × AI) := [(0, .iload_n 1, 1, 0, 0, 0, 0), (1, .ifCond .lt 29, 3, 30, 0, 0, 0), (4, .iload_n 1, 1, 0, 0, 0, 0), (5, .aload_n 0, 1, 0, 0, 0, 0), (6, .getfield 18, 3, 4, 2, 148, 0), (9, .if_icmp .ge 21, 3, 30, 0, 0, 0), (12, .iload_n 1, 1, 0, 0, 0, 0), (13, .aload_n 0, 1, 0, 0, 0, 0), (14, .getfield 9, 3, 4, 0, 146, 0), (17, .arraylength, 1, 0, 0, 0, 0), (18, .if_icmp .ge 12, 3, 30, 0, 0, 0), (21, .aload_n 0, 1, 0, 0, 0, 0), (22, .getfield 9, 3, 4, 0, 146, 0), (25, .iload_n 1, 1, 0, 0, 0, 0), (26, .iaload, 1, 0, 0, 0, 0), (27, .goto 4, 3, 31, 0, 0, 0), (30, .iconst (-1), 1, 0, 0, 0, 0), (31, .ireturn, 1, 0, 0, 0, 0)]
def cd_42 : List (Nat × AI) := [(0, .aload_n 0, 1, 0, 0, 0, 0), (1, .getfield 18, 3, 4, 2, 148, 0), (4, .ifCond .lt 35, 3, 39, 0, 0, 0), (7, .aload_n 0, 1, 0, 0, 0, 0), (8, .getfield 18, 3, 4, 2, 148, 0), (11, .aload_n 0, 1, 0, 0, 0, 0), (12, .getfield 9, 3, 4, 0, 146, 0), (15, .arraylength, 1, 0, 0, 0, 0), (16, .if_icmp .ge 23, 3, 39, 0, 0, 0), (19, .aload_n 0, 1, 0, 0, 0, 0), (20, .getfield 9, 3, 4, 0, 146, 0), (23, .aload_n 0, 1, 0, 0, 0, 0), (24, .getfield 18, 3, 4, 2, 148, 0), (27, .iload_n 1, 1, 0, 0, 0, 0), (28, .iastore, 1, 0, 0, 0, 0), (29, .aload_n 0, 1, 0, 0, 0, 0), (30, .dup, 1, 0, 0, 0, 0), (31, .getfield 18, 3, 4, 2, 148, 0), (34, .iconst 1, 1, 0, 0, 0, 0), (35, .iadd, 1, 0, 0, 0, 0), (36, .putfield 18, 3, 4, 2, 148, 0), (39, .return_, 1, 0, 0, 0, 0)]
def cd_43 : List (Nat × AI) := [(0, .iload_n 1, 1, 0, 0, 0, 0), (1, .ifCond .lt 27, 3, 28, 0, 0, 0), (4, .iload_n 1, 1, 0, 0, 0, 0), (5, .aload_n 0, 1, 0, 0, 0, 0), (6, .getfield 18, 3, 4, 2, 148, 0), (9, .if_icmp .ge 19, 3, 28, 0, 0, 0), (12, .iload_n 1, 1, 0, 0, 0, 0), (13, .aload_n 0, 1, 0, 0, 0, 0), (14, .getfield 9, 3, 4, 0, 146, 0), (17, .arraylength, 1, 0, 0, 0, 0), (18, .if_icmp .ge 10, 3, 28, 0, 0, 0), (21, .aload_n 0, 1, 0, 0, 0, 0), (22, .getfield 9, 3, 4, 0, 146, 0), (25, .iload_n 1, 1, 0, 0, 0, 0), (26, .iload_n 2, 1, 0, 0, 0, 0), (27, .iastore, 1, 0, 0, 0, 0), (28, .return_, 1, 0, 0, 0, 0)]
def cd_44 : List (Nat × AI) := [(0, .aload_n 0, 1, 0, 0, 0, 0), (1, .iload_n 1, 1, 0, 0, 0, 0), (2, .putfield 22, 3, 4, 3, 149, 0), (5, .return_, 1, 0, 0, 0, 0)]
def cd_45 : List (Nat × AI) := [(0, .aload_n 0, 1, 0, 0, 0, 0), (1, .getfield 22, 3, 4, 3, 149, 0), (4, .iload_n 1, 1, 0, 0, 0, 0), (5, .if_icmp .lt 7, 3, 12, 0, 0, 0), (8, .iconst 1, 1, 0, 0, 0, 0), (9, .goto 4, 3, 13, 0, 0, 0), (12, .iconst 0, 1, 0, 0, 0, 0), (13, .ireturn, 1, 0, 0, 0, 0)]
def cd_46 : List (Nat × AI) := [(0, .iconst 1, 1, 0, 0, 0, 0), (1, .aload_n 0, 1, 0, 0, 0, 0), (2, .getfield 18, 3, 4, 2, 148, 0), (5, .ishl, 1, 0, 0, 0, 0), (6, .iconst 1, 1, 0, 0, 0, 0), (7, .isub, 1, 0, 0, 0, 0), (8, .ireturn, 1, 0, 0, 0, 0)]
def cd_47 : List (Nat × AI) := [(0, .iload_n 1, 1, 0, 0, 0, 0), (1, .ifCond .lt 21, 3, 22, 0, 0, 0), (4, .iload_n 1, 1, 0, 0, 0, 0), (5, .aload_n 0, 1, 0, 0, 0, 0), (6, .getfield 15, 3, 4, 1, 147, 0), (9, .arraylength, 1, 0, 0, 0, 0), (10, .if_icmp .ge 12, 3, 22, 0, 0, 0), (13, .aload_n 0, 1, 0, 0, 0, 0), (14, .getfield 15, 3, 4, 1, 147, 0), (17, .iload_n 1, 1, 0, 0, 0, 0), (18, .iaload, 1, 0, 0, 0, 0), (19, .goto 4, 3, 23, 0, 0, 0), (22, .iconst 0, 1, 0, 0, 0, 0), (23, .ireturn, 1, 0, 0, 0, 0)]
def cd_48 : List (Nat × AI) := [(0, .iload_n 1, 1, 0, 0, 0, 0), (1, .ifCond .lt 19, 3, 20, 0, 0, 0), (4, .iload_n 1, 1, 0, 0, 0, 0), (5, .aload_n 0, 1, 0, 0, 0, 0), (6, .getfield 15, 3, 4, 1, 147, 0), (9, .arraylength, 1, 0, 0, 0, 0), (10, .if_icmp .ge 10, 3, 20, 0, 0, 0), (13, .aload_n 0, 1, 0, 0, 0, 0), (14, .getfield 15, 3, 4, 1, 147, 0), (17, .iload_n 1, 1, 0, 0, 0, 0), (18, .iload_n 2, 1, 0, 0, 0, 0), (19, .iastore, 1, 0, 0, 0, 0), (20, .return_, 1, 0, 0, 0, 0)]
def cd_49 : List (Nat × AI) := [(0, .iconst 0, 1, 0, 0, 0, 0), (1, .istore_n 3, 1, 0, 0, 0, 0), (2, .iload_n 3, 1, 0, 0, 0, 0), (3, .aload_n 0, 1, 0, 0, 0, 0), (4, .getfield 18, 3, 4, 2, 148, 0), (7, .if_icmp .ge 28, 3, 35, 0, 0, 0), (10, .iload_n 2, 1, 0, 0, 0, 0), (11, .iload_n 3, 1, 0, 0, 0, 0), (12, .invokestatic 25, 3, 102, 2, 420, 1), (15, .ifCond .eq 14, 3, 29, 0, 0, 0), (18, .aload_n 0, 1, 0, 0, 0, 0), (19, .iload_n 3, 1, 0, 0, 0, 0), (20, .invokevirtual 29, 3, 41, 2, 421, 0), (23, .iload_n 1, 1, 0, 0, 0, 0), (24, .if_icmp .ne 5, 3, 29, 0, 0, 0), (27, .iconst 1, 1, 0, 0, 0, 0), (28, .ireturn, 1, 0, 0, 0, 0), (29, .iinc 3 1, 3, 0, 0, 0, 0), (32, .goto (-30), 3, 2, 0, 0, 0), (35, .iconst 0, 1, 0, 0, 0, 0), (36, .ireturn, 1, 0, 0, 0, 0)]
def cd_50 : List (Nat × AI) := [(0, .iconst 0, 1, 0, 0, 0, 0), (1, .istore_n 3, 1, 0, 0, 0, 0), (2, .iload_n 3, 1, 0, 0, 0, 0), (3, .aload_n 0, 1, 0, 0, 0, 0), (4, .getfield 18, 3, 4, 2, 148, 0), (7, .if_icmp .ge 31, 3, 38, 0, 0, 0), (10, .iload_n 2, 1, 0, 0, 0, 0), (11, .iload_n 3, 1, 0, 0, 0, 0), (12, .invokestatic 25, 3, 102, 2, 420, 1), (15, .ifCond .eq 17, 3, 32, 0, 0, 0), (18, .aload_n 1, 1, 0, 0, 0, 0), (19, .aload_n 0, 1, 0, 0, 0, 0), (20, .iload_n 3, 1, 0, 0, 0, 0), (21, .invokevirtual 29, 3, 41, 2, 421, 0), (24, .invokevirtual 33, 3, 34, 2, 573, 0), (27, .ifCond .eq 5, 3, 32, 0, 0, 0), (30, .iconst 1, 1, 0, 0, 0, 0), (31, .ireturn, 1, 0, 0, 0, 0), (32, .iinc 3 1, 3, 0, 0, 0, 0), (35, .goto (-33), 3, 2, 0, 0, 0), (38, .iconst 0, 1, 0, 0, 0, 0), (39, .ireturn, 1, 0, 0, 0, 0)]
def cd_51_0 : List (Nat × AI) := [(0, .iload_n 1, 1, 0, 0, 0, 0), (1, .iconst 1, 1, 0, 0, 0, 0), (2, .isub, 1, 0, 0, 0, 0), (3, .istore_n 3, 1, 0, 0, 0, 0), (4, .iload_n 3, 1, 0, 0, 0, 0), (5, .ifCond .le 17, 3, 22, 0, 0, 0), (8, .iload_n 2, 1, 0, 0, 0, 0), (9, .iload_n 3, 1, 0, 0, 0, 0), (10, .invokestatic 25, 3, 102, 2, 420, 1), (13, .ifCond .ne 9, 3, 22, 0, 0, 0), (16, .iinc 3 (-1), 3, 0, 0, 0, 0), (19, .goto (-15), 3, 4, 0, 0, 0), (22, .iload_n 1, 1, 0, 0, 0, 0), (23, .iconst 1, 1, 0, 0, 0, 0), (24, .iadd, 1, 0, 0, 0, 0), (25, .istore 4, 2, 0, 0, 0, 0), (27, .iload 4, 2, 0, 0, 0, 0), (29, .aload_n 0, 1, 0, 0, 0, 0), (30, .getfield 18, 3, 4, 2, 148, 0), (33, .iconst 1, 1, 0, 0, 0, 0), (34, .isub, 1, 0, 0, 0, 0), (35, .if_icmp .ge 18, 3, 53, 0, 0, 0), (38, .iload_n 2, 1, 0, 0, 0, 0), (39, .iload 4, 2, 0, 0, 0, 0), (41, .invokestatic 25, 3, 102, 2, 420, 1), (44, .ifCond .ne 9, 3, 53, 0, 0, 0), (47, .iinc 4 1, 3, 0, 0, 0, 0), (50, .goto (-23), 3, 27, 0, 0, 0), (53, .aload_n 0, 1, 0, 0, 0, 0), (54, .iload_n 3, 1, 0, 0, 0, 0), (55, .invokevirtual 29, 3, 41, 2, 421, 0), (58, .invokestatic 39, 3, 100, 1, 422, 1), (61, .aload_n 0, 1, 0, 0, 0, 0), (62, .iload_n 1, 1, 0, 0, 0, 0), (63, .invokevirtual 29, 3, 41, 2, 421, 0), (66, .invokestatic 39, 3, 100, 1, 422, 1), (69, .isub, 1, 0, 0, 0, 0), (70, .istore 5, 2, 0, 0, 0, 0), (72, .aload_n 0, 1, 0, 0, 0, 0), (73, .iload_n 3, 1, 0, 0, 0, 0), (74, .invokevirtual 29, 3, 41, 2, 421, 0), (77, .invokestatic 42, 3, 101, 1, 425, 1), (80, .aload_n 0, 1, 0, 0, 0, 0), (81, .iload_n 1, 1, 0, 0, 0, 0), (82, .invokevirtual 29, 3, 41, 2, 421, 0), (85, .invokestatic 42, 3, 101, 1, 425, 1), (88, .isub, 1, 0, 0, 0, 0), (89, .istore 6, 2, 0, 0, 0, 0), (91, .aload_n 0, 1, 0, 0, 0, 0), (92, .iload 4, 2, 0, 0, 0, 0), (94, .invokevirtual 29, 3, 41, 2, 421, 0), (97, .invokestatic 39, 3, 100, 1, 422, 1), (100, .aload_n 0, 1, 0, 0, 0, 0), (101, .iload_n 1, 1, 0, 0, 0, 0), (102, .invokevirtual 29, 3, 41, 2, 421, 0), (105, .invokestatic 39, 3, 100, 1, 422, 1), (108, .isub, 1, 0, 0, 0, 0), (109, .istore 7, 2, 0, 0, 0, 0), (111, .aload_n 0, 1, 0, 0, 0, 0), (112, .iload 4, 2, 0, 0, 0, 0)]
def cd_51_1 : List (Nat × AI) := [(114, .invokevirtual 29, 3, 41, 2, 421, 0), (117, .invokestatic 42, 3, 101, 1, 425, 1), (120, .aload_n 0, 1, 0, 0, 0, 0), (121, .iload_n 1, 1, 0, 0, 0, 0), (122, .invokevirtual 29, 3, 41, 2, 421, 0), (125, .invokestatic 42, 3, 101, 1, 425, 1), (128, .isub, 1, 0, 0, 0, 0), (129, .istore 8, 2, 0, 0, 0, 0), (131, .iload 7, 2, 0, 0, 0, 0), (133, .iload 6, 2, 0, 0, 0, 0), (135, .imul, 1, 0, 0, 0, 0), (136, .iload 8, 2, 0, 0, 0, 0), (138, .iload 5, 2, 0, 0, 0, 0), (140, .imul, 1, 0, 0, 0, 0), (141, .isub, 1, 0, 0, 0, 0), (142, .invokestatic 45, 3, 0, 0, 428, 3), (145, .ireturn, 1, 0, 0, 0, 0)]
def cd_51 : List (Nat × AI) := cd_51_0 ++ (cd_51_1)
def cd_52 : List (Nat × AI) := [(0, .aload_n 0, 1, 0, 0, 0, 0), (1, .invokespecial 3, 3, 0, 1, 114, 2), (4, .aload_n 0, 1, 0, 0, 0, 0), (5, .new 9, 3, 0, 3, 115, 0), (8, .dup, 1, 0, 0, 0, 0), (9, .invokespecial 11, 3, 3, 1, 116, 0), (12, .putfield 12, 3, 2, 0, 117, 0), (15, .return_, 1, 0, 0, 0, 0)]
def cd_53 : List (Nat × AI) := [(0, .aload_n 0, 1, 0, 0, 0, 0), (1, .getfield 12, 3, 2, 0, 117, 0), (4, .invokevirtual 18, 3, 6, 1, 505, 0), (7, .ireturn, 1, 0, 0, 0, 0)]
def cd_54 : List (Nat × AI) := [(0, .aload_n 0, 1, 0, 0, 0, 0), (1, .getfield 12, 3, 2, 0, 117, 0), (4, .iload_n 1, 1, 0, 0, 0, 0), (5, .invokevirtual 22, 3, 8, 2, 506, 0), (8, .checkcast 26, 3, 1, 0, 507, 0), (11, .areturn, 1, 0, 0, 0, 0)]
def cd_55 : List (Nat × AI) := [(0, .aload_n 0, 1, 0, 0, 0, 0), (1, .getfield 12, 3, 2, 0, 117, 0), (4, .aload_n 1, 1, 0, 0, 0, 0), (5, .invokevirtual 28, 3, 10, 2, 633, 0), (8, .pop, 1, 0, 0, 0, 0), (9, .return_, 1, 0, 0, 0, 0)]
def cd_56 : List (Nat × AI) := [(0, .aload_n 2, 1, 0, 0, 0, 0), (1, .invokevirtual 32, 3, 21, 1, 497, 0), (4, .iconst 3, 1, 0, 0, 0, 0), (5, .istore_n 3, 1, 0, 0, 0, 0), (6, .iload_n 3, 1, 0, 0, 0, 0), (7, .aload_n 1, 1, 0, 0, 0, 0), (8, .invokevirtual 37, 3, 32, 1, 501, 0), (11, .if_icmp .lt 75, 3, 86, 0, 0, 0), (14, .iconst 0, 1, 0, 0, 0, 0), (15, .istore 4, 2, 0, 0, 0, 0), (17, .iload 4, 2, 0, 0, 0, 0), (19, .aload_n 0, 1, 0, 0, 0, 0), (20, .getfield 12, 3, 2, 0, 117, 0), (23, .invokevirtual 18, 3, 6, 1, 505, 0), (26, .if_icmp .ge 54, 3, 80, 0, 0, 0), (29, .aload_n 0, 1, 0, 0, 0, 0), (30, .getfield 12, 3, 2, 0, 117, 0), (33, .iload 4, 2, 0, 0, 0, 0), (35, .invokevirtual 22, 3, 8, 2, 506, 0), (38, .checkcast 26, 3, 1, 0, 507, 0), (41, .astore 5, 2, 0, 0, 0, 0), (43, .aload 5, 2, 0, 0, 0, 0), (45, .invokevirtual 42, 3, 15, 1, 508, 0), (48, .iload_n 3, 1, 0, 0, 0, 0), (49, .if_icmp .ne 25, 3, 74, 0, 0, 0), (52, .aload_n 1, 1, 0, 0, 0, 0), (53, .aload 5, 2, 0, 0, 0, 0), (55, .invokevirtual 45, 3, 16, 1, 512, 0), (58, .invokevirtual 48, 3, 34, 2, 517, 0), (61, .ifCond .eq 13, 3, 74, 0, 0, 0), (64, .aload_n 0, 1, 0, 0, 0, 0), (65, .iload 4, 2, 0, 0, 0, 0), (67, .aload 5, 2, 0, 0, 0, 0), (69, .aload_n 1, 1, 0, 0, 0, 0), (70, .aload_n 2, 1, 0, 0, 0, 0), (71, .invokevirtual 52, 3, 57, 5, 523, 0), (74, .iinc 4 1, 3, 0, 0, 0, 0), (77, .goto (-60), 3, 17, 0, 0, 0), (80, .iinc 3 (-1), 3, 0, 0, 0, 0), (83, .goto (-77), 3, 6, 0, 0, 0), (86, .return_, 1, 0, 0, 0, 0)]
def cd_57 : List (Nat × AI) := [(0, .iconst 0, 1, 0, 0, 0, 0), (1, .istore 5, 2, 0, 0, 0, 0), (3, .iload 5, 2, 0, 0, 0, 0), (5, .iconst 3, 1, 0, 0, 0, 0), (6, .if_icmp .gt 76, 3, 82, 0, 0, 0), (9, .aload_n 2, 1, 0, 0, 0, 0), (10, .iload 5, 2, 0, 0, 0, 0), (12, .invokevirtual 56, 3, 18, 2, 527, 0), (15, .istore 6, 2, 0, 0, 0, 0), (17, .aload_n 2, 1, 0, 0, 0, 0), (18, .iload 5, 2, 0, 0, 0, 0), (20, .invokevirtual 60, 3, 19, 2, 531, 0), (23, .istore 7, 2, 0, 0, 0, 0), (25, .aload_n 3, 1, 0, 0, 0, 0), (26, .iload 6, 2, 0, 0, 0, 0), (28, .iload 7, 2, 0, 0, 0, 0), (30, .aload_n 2, 1, 0, 0, 0, 0), (31, .invokevirtual 63, 3, 14, 1, 535, 0), (34, .invokevirtual 66, 3, 35, 4, 539, 0), (37, .ifCond .eq 39, 3, 76, 0, 0, 0), (40, .iload 6, 2, 0, 0, 0, 0), (42, .iload 7, 2, 0, 0, 0, 0), (44, .invokestatic 70, 3, 99, 2, 543, 1), (47, .istore 8, 2, 0, 0, 0, 0), (49, .aload_n 0, 1, 0, 0, 0, 0), (50, .iload 8, 2, 0, 0, 0, 0), (52, .aload_n 2, 1, 0, 0, 0, 0), (53, .invokevirtual 63, 3, 14, 1, 535, 0), (56, .aload 4, 2, 0, 0, 0, 0), (58, .invokevirtual 74, 3, 58, 4, 544, 0), (61, .iconst (-1), 1, 0, 0, 0, 0), (62, .if_icmp .ne 14, 3, 76, 0, 0, 0), (65, .aload 4, 2, 0, 0, 0, 0), (67, .iload_n 1, 1, 0, 0, 0, 0), (68, .iload 5, 2, 0, 0, 0, 0), (70, .iload 8, 2, 0, 0, 0, 0), (72, .invokevirtual 78, 3, 23, 4, 552, 0), (75, .return_, 1, 0, 0, 0, 0), (76, .iinc 5 1, 3, 0, 0, 0, 0), (79, .goto (-76), 3, 3, 0, 0, 0), (82, .return_, 1, 0, 0, 0, 0)]
def cd_58 : List (Nat × AI) := [(0, .iconst 0, 1, 0, 0, 0, 0), (1, .istore 4, 2, 0, 0, 0, 0), (3, .iload 4, 2, 0, 0, 0, 0), (5, .aload_n 0, 1, 0, 0, 0, 0), (6, .getfield 12, 3, 2, 0, 117, 0), (9, .invokevirtual 18, 3, 6, 1, 505, 0), (12, .if_icmp .ge 56, 3, 68, 0, 0, 0), (15, .aload_n 3, 1, 0, 0, 0, 0), (16, .iload 4, 2, 0, 0, 0, 0), (18, .invokevirtual 82, 3, 26, 2, 548, 0), (21, .istore 5, 2, 0, 0, 0, 0), (23, .iload 5, 2, 0, 0, 0, 0), (25, .iconst (-1), 1, 0, 0, 0, 0), (26, .if_icmp .eq 36, 3, 62, 0, 0, 0), (29, .iload 5, 2, 0, 0, 0, 0), (31, .iload_n 1, 1, 0, 0, 0, 0), (32, .iload_n 2, 1, 0, 0, 0, 0), (33, .iadd, 1, 0, 0, 0, 0), (34, .if_icmp .ge 28, 3, 62, 0, 0, 0), (37, .iload_n 1, 1, 0, 0, 0, 0), (38, .iload 5, 2, 0, 0, 0, 0), (40, .aload_n 0, 1, 0, 0, 0, 0), (41, .getfield 12, 3, 2, 0, 117, 0), (44, .iload 4, 2, 0, 0, 0, 0), (46, .invokevirtual 22, 3, 8, 2, 506, 0), (49, .checkcast 26, 3, 1, 0, 507, 0), (52, .invokevirtual 63, 3, 14, 1, 535, 0), (55, .iadd, 1, 0, 0, 0, 0), (56, .if_icmp .ge 6, 3, 62, 0, 0, 0), (59, .iload 4, 2, 0, 0, 0, 0), (61, .ireturn, 1, 0, 0, 0, 0), (62, .iinc 4 1, 3, 0, 0, 0, 0), (65, .goto (-62), 3, 3, 0, 0, 0), (68, .iconst (-1), 1, 0, 0, 0, 0), (69, .ireturn, 1, 0, 0, 0, 0)]
def cd_59 : List (Nat × AI) := [(0, .aload_n 0, 1, 0, 0, 0, 0), (1, .invokespecial 3, 3, 0, 1, 78, 2), (4, .aload_n 0, 1, 0, 0, 0, 0), (5, .new 9, 3, 0, 3, 79, 0), (8, .dup, 1, 0, 0, 0, 0), (9, .invokespecial 11, 3, 3, 1, 81, 0), (12, .putfield 12, 3, 5, 0, 105, 0), (15, .return_, 1, 0, 0, 0, 0)]
def cd_60 : List (Nat × AI) := [(0, .aload_n 0, 1, 0, 0, 0, 0), (1, .getfield 12, 3, 5, 0, 105, 0), (4, .invokevirtual 18, 3, 6, 1, 305, 0), (7, .ireturn, 1, 0, 0, 0, 0)]
def cd_61 : List (Nat × AI) := [(0, .aload_n 0, 1, 0, 0, 0, 0), (1, .getfield 12, 3, 5, 0, 105, 0), (4, .iload_n 1, 1, 0, 0, 0, 0), (5, .invokevirtual 22, 3, 8, 2, 381, 0), (8, .checkcast 26, 3, 4, 0, 395, 0), (11, .areturn, 1, 0, 0, 0, 0)]
def cd_62 : List (Nat × AI) := [(0, .aload_n 0, 1, 0, 0, 0, 0), (1, .getfield 12, 3, 5, 0, 105, 0), (4, .aload_n 1, 1, 0, 0, 0, 0), (5, .invokevirtual 28, 3, 10, 2, 318, 0), (8, .pop, 1, 0, 0, 0, 0), (9, .return_, 1, 0, 0, 0, 0)]
def cd_63 : List (Nat × AI) := [(0, .iconst 0, 1, 0, 0, 0, 0), (1, .istore_n 1, 1, 0, 0, 0, 0), (2, .iload_n 1, 1, 0, 0, 0, 0), (3, .aload_n 0, 1, 0, 0, 0, 0), (4, .getfield 12, 3, 5, 0, 105, 0), (7, .invokevirtual 18, 3, 6, 1, 305, 0), (10, .if_icmp .ge 45, 3, 55, 0, 0, 0), (13, .aload_n 0, 1, 0, 0, 0, 0), (14, .getfield 12, 3, 5, 0, 105, 0), (17, .iload_n 1, 1, 0, 0, 0, 0), (18, .invokevirtual 22, 3, 8, 2, 381, 0), (21, .checkcast 26, 3, 4, 0, 395, 0), (24, .astore_n 2, 1, 0, 0, 0, 0), (25, .iconst 0, 1, 0, 0, 0, 0), (26, .istore_n 3, 1, 0, 0, 0, 0), (27, .iload_n 3, 1, 0, 0, 0, 0), (28, .iconst 4, 1, 0, 0, 0, 0), (29, .if_icmp .ge 20, 3, 49, 0, 0, 0), (32, .aload_n 2, 1, 0, 0, 0, 0), (33, .iload_n 3, 1, 0, 0, 0, 0), (34, .aload_n 0, 1, 0, 0, 0, 0), (35, .aload_n 2, 1, 0, 0, 0, 0), (36, .iload_n 3, 1, 0, 0, 0, 0), (37, .invokevirtual 32, 3, 64, 3, 396, 0), (40, .invokevirtual 36, 3, 48, 3, 440, 0), (43, .iinc 3 1, 3, 0, 0, 0, 0), (46, .goto (-19), 3, 27, 0, 0, 0), (49, .iinc 1 1, 3, 0, 0, 0, 0), (52, .goto (-50), 3, 2, 0, 0, 0), (55, .return_, 1, 0, 0, 0, 0)]
def cd_64 : List (Nat × AI) := [(0, .aload_n 1, 1, 0, 0, 0, 0), (1, .iload_n 2, 1, 0, 0, 0, 0), (2, .invokevirtual 40, 3, 45, 2, 400, 0), (5, .ifCond .ne 5, 3, 10, 0, 0, 0), (8, .iconst 0, 1, 0, 0, 0, 0), (9, .ireturn, 1, 0, 0, 0, 0), (10, .aload_n 1, 1, 0, 0, 0, 0), (11, .invokevirtual 44, 3, 46, 1, 404, 0), (14, .istore_n 3, 1, 0, 0, 0, 0), (15, .iconst 0, 1, 0, 0, 0, 0), (16, .istore 4, 2, 0, 0, 0, 0), (18, .iload 4, 2, 0, 0, 0, 0), (20, .bipush 8, 2, 0, 0, 0, 0), (22, .if_icmp .ge 35, 3, 57, 0, 0, 0), (25, .aload_n 0, 1, 0, 0, 0, 0), (26, .aload_n 1, 1, 0, 0, 0, 0), (27, .iload_n 3, 1, 0, 0, 0, 0), (28, .iload_n 2, 1, 0, 0, 0, 0), (29, .invokevirtual 47, 3, 65, 4, 408, 0), (32, .istore 5, 2, 0, 0, 0, 0), (34, .iload 5, 2, 0, 0, 0, 0), (36, .iconst (-1), 1, 0, 0, 0, 0), (37, .if_icmp .ne 5, 3, 42, 0, 0, 0), (40, .iload_n 3, 1, 0, 0, 0, 0), (41, .ireturn, 1, 0, 0, 0, 0), (42, .iload_n 3, 1, 0, 0, 0, 0), (43, .iconst 1, 1, 0, 0, 0, 0), (44, .iload 5, 2, 0, 0, 0, 0), (46, .ishl, 1, 0, 0, 0, 0), (47, .iconst (-1), 1, 0, 0, 0, 0), (48, .ixor, 1, 0, 0, 0, 0), (49, .iand, 1, 0, 0, 0, 0), (50, .istore_n 3, 1, 0, 0, 0, 0), (51, .iinc 4 1, 3, 0, 0, 0, 0), (54, .goto (-36), 3, 18, 0, 0, 0), (57, .iload_n 3, 1, 0, 0, 0, 0), (58, .ireturn, 1, 0, 0, 0, 0)]
def cd_65 : List (Nat × AI) := [(0, .bipush 20, 2, 0, 0, 0, 0), (2, .iload_n 3, 1, 0, 0, 0, 0), (3, .imul, 1, 0, 0, 0, 0), (4, .istore 4, 2, 0, 0, 0, 0), (6, .iconst (-1), 1, 0, 0, 0, 0), (7, .istore 5, 2, 0, 0, 0, 0), (9, .iconst 1, 1, 0, 0, 0, 0), (10, .istore 6, 2, 0, 0, 0, 0), (12, .iload 6, 2, 0, 0, 0, 0), (14, .aload_n 1, 1, 0, 0, 0, 0), (15, .invokevirtual 51, 3, 40, 1, 412, 0), (18, .iconst 1, 1, 0, 0, 0, 0), (19, .isub, 1, 0, 0, 0, 0), (20, .if_icmp .ge 53, 3, 73, 0, 0, 0), (23, .iload_n 2, 1, 0, 0, 0, 0), (24, .iload 6, 2, 0, 0, 0, 0), (26, .invokestatic 52, 3, 102, 2, 413, 1), (29, .ifCond .eq 38, 3, 67, 0, 0, 0), (32, .aload_n 1, 1, 0, 0, 0, 0), (33, .iload 6, 2, 0, 0, 0, 0), (35, .iload_n 2, 1, 0, 0, 0, 0), (36, .invokevirtual 56, 3, 51, 3, 416, 0), (39, .istore 7, 2, 0, 0, 0, 0), (41, .iload 7, 2, 0, 0, 0, 0), (43, .iload 4, 2, 0, 0, 0, 0), (45, .if_icmp .ge 22, 3, 67, 0, 0, 0), (48, .aload_n 0, 1, 0, 0, 0, 0), (49, .aload_n 1, 1, 0, 0, 0, 0), (50, .iload 6, 2, 0, 0, 0, 0), (52, .iload_n 3, 1, 0, 0, 0, 0), (53, .invokevirtual 60, 3, 66, 4, 431, 0), (56, .ifCond .ne 11, 3, 67, 0, 0, 0), (59, .iload 7, 2, 0, 0, 0, 0), (61, .istore 4, 2, 0, 0, 0, 0), (63, .iload 6, 2, 0, 0, 0, 0), (65, .istore 5, 2, 0, 0, 0, 0), (67, .iinc 6 1, 3, 0, 0, 0, 0), (70, .goto (-58), 3, 12, 0, 0, 0), (73, .iload 5, 2, 0, 0, 0, 0), (75, .ireturn, 1, 0, 0, 0, 0)]
def cd_66 : List (Nat × AI) := [(0, .aload_n 1, 1, 0, 0, 0, 0), (1, .iload_n 2, 1, 0, 0, 0, 0), (2, .invokevirtual 64, 3, 41, 2, 435, 0), (5, .istore 4, 2, 0, 0, 0, 0), (7, .iconst 0, 1, 0, 0, 0, 0), (8, .istore 5, 2, 0, 0, 0, 0), (10, .iload 5, 2, 0, 0, 0, 0), (12, .aload_n 0, 1, 0, 0, 0, 0), (13, .getfield 12, 3, 5, 0, 105, 0), (16, .invokevirtual 18, 3, 6, 1, 305, 0), (19, .if_icmp .ge 55, 3, 74, 0, 0, 0), (22, .aload_n 0, 1, 0, 0, 0, 0), (23, .getfield 12, 3, 5, 0, 105, 0), (26, .iload 5, 2, 0, 0, 0, 0), (28, .invokevirtual 22, 3, 8, 2, 381, 0), (31, .checkcast 26, 3, 4, 0, 395, 0), (34, .astore 6, 2, 0, 0, 0, 0), (36, .aload 6, 2, 0, 0, 0, 0), (38, .aload_n 1, 1, 0, 0, 0, 0), (39, .if_acmp .eq 29, 3, 68, 0, 0, 0), (42, .aload 6, 2, 0, 0, 0, 0), (44, .iload_n 3, 1, 0, 0, 0, 0), (45, .invokevirtual 40, 3, 45, 2, 400, 0), (48, .ifCond .eq 20, 3, 68, 0, 0, 0), (51, .aload 6, 2, 0, 0, 0, 0), (53, .iload 4, 2, 0, 0, 0, 0), (55, .aload 6, 2, 0, 0, 0, 0), (57, .invokevirtual 44, 3, 46, 1, 404, 0), (60, .invokevirtual 68, 3, 49, 3, 436, 0), (63, .ifCond .eq 5, 3, 68, 0, 0, 0), (66, .iconst 1, 1, 0, 0, 0, 0), (67, .ireturn, 1, 0, 0, 0, 0), (68, .iinc 5 1, 3, 0, 0, 0, 0), (71, .goto (-61), 3, 10, 0, 0, 0), (74, .iconst 0, 1, 0, 0, 0, 0), (75, .ireturn, 1, 0, 0, 0, 0)]
def cd_67 : List (Nat × AI) := [(0, .iconst 0, 1, 0, 0, 0, 0), (1, .istore_n 2, 1, 0, 0, 0, 0), (2, .iconst 0, 1, 0, 0, 0, 0), (3, .istore_n 3, 1, 0, 0, 0, 0), (4, .iload_n 3, 1, 0, 0, 0, 0), (5, .aload_n 0, 1, 0, 0, 0, 0), (6, .getfield 12, 3, 5, 0, 105, 0), (9, .invokevirtual 18, 3, 6, 1, 305, 0), (12, .if_icmp .ge 84, 3, 96, 0, 0, 0), (15, .iload_n 3, 1, 0, 0, 0, 0), (16, .iconst 1, 1, 0, 0, 0, 0), (17, .iadd, 1, 0, 0, 0, 0), (18, .istore 4, 2, 0, 0, 0, 0), (20, .iload 4, 2, 0, 0, 0, 0), (22, .aload_n 0, 1, 0, 0, 0, 0), (23, .getfield 12, 3, 5, 0, 105, 0), (26, .invokevirtual 18, 3, 6, 1, 305, 0), (29, .if_icmp .ge 61, 3, 90, 0, 0, 0), (32, .aload_n 0, 1, 0, 0, 0, 0), (33, .getfield 12, 3, 5, 0, 105, 0), (36, .iload_n 3, 1, 0, 0, 0, 0), (37, .invokevirtual 22, 3, 8, 2, 381, 0), (40, .checkcast 26, 3, 4, 0, 395, 0), (43, .astore 5, 2, 0, 0, 0, 0), (45, .aload_n 0, 1, 0, 0, 0, 0), (46, .getfield 12, 3, 5, 0, 105, 0), (49, .iload 4, 2, 0, 0, 0, 0), (51, .invokevirtual 22, 3, 8, 2, 381, 0), (54, .checkcast 26, 3, 4, 0, 395, 0), (57, .astore 6, 2, 0, 0, 0, 0), (59, .aload 5, 2, 0, 0, 0, 0), (61, .aload 5, 2, 0, 0, 0, 0), (63, .iload_n 1, 1, 0, 0, 0, 0), (64, .invokevirtual 71, 3, 47, 2, 565, 0), (67, .aload 6, 2, 0, 0, 0, 0), (69, .aload 6, 2, 0, 0, 0, 0), (71, .iload_n 1, 1, 0, 0, 0, 0), (72, .invokevirtual 71, 3, 47, 2, 565, 0), (75, .invokestatic 74, 3, 69, 4, 690, 0), (78, .ifCond .eq 6, 3, 84, 0, 0, 0), (81, .iinc 2 1, 3, 0, 0, 0, 0), (84, .iinc 4 1, 3, 0, 0, 0, 0), (87, .goto (-67), 3, 20, 0, 0, 0), (90, .iinc 3 1, 3, 0, 0, 0, 0), (93, .goto (-89), 3, 4, 0, 0, 0), (96, .iload_n 2, 1, 0, 0, 0, 0), (97, .ireturn, 1, 0, 0, 0, 0)]
def cd_68 : List (Nat × AI) := [(0, .iconst 0, 1, 0, 0, 0, 0), (1, .istore_n 2, 1, 0, 0, 0, 0), (2, .iconst 0, 1, 0, 0, 0, 0), (3, .istore_n 3, 1, 0, 0, 0, 0), (4, .iload_n 3, 1, 0, 0, 0, 0), (5, .aload_n 0, 1, 0, 0, 0, 0), (6, .getfield 12, 3, 5, 0, 105, 0), (9, .invokevirtual 18, 3, 6, 1, 305, 0), (12, .if_icmp .ge 112, 3, 124, 0, 0, 0), (15, .iload_n 3, 1, 0, 0, 0, 0), (16, .iconst 1, 1, 0, 0, 0, 0), (17, .iadd, 1, 0, 0, 0, 0), (18, .istore 4, 2, 0, 0, 0, 0), (20, .iload 4, 2, 0, 0, 0, 0), (22, .aload_n 0, 1, 0, 0, 0, 0), (23, .getfield 12, 3, 5, 0, 105, 0), (26, .invokevirtual 18, 3, 6, 1, 305, 0), (29, .if_icmp .ge 89, 3, 118, 0, 0, 0), (32, .aload_n 0, 1, 0, 0, 0, 0), (33, .getfield 12, 3, 5, 0, 105, 0), (36, .iload_n 3, 1, 0, 0, 0, 0), (37, .invokevirtual 22, 3, 8, 2, 381, 0), (40, .checkcast 26, 3, 4, 0, 395, 0), (43, .astore 5, 2, 0, 0, 0, 0), (45, .aload_n 0, 1, 0, 0, 0, 0), (46, .getfield 12, 3, 5, 0, 105, 0), (49, .iload 4, 2, 0, 0, 0, 0), (51, .invokevirtual 22, 3, 8, 2, 381, 0), (54, .checkcast 26, 3, 4, 0, 395, 0), (57, .astore 6, 2, 0, 0, 0, 0), (59, .aload 5, 2, 0, 0, 0, 0), (61, .iload_n 1, 1, 0, 0, 0, 0), (62, .invokevirtual 40, 3, 45, 2, 400, 0), (65, .ifCond .eq 16, 3, 81, 0, 0, 0), (68, .aload 6, 2, 0, 0, 0, 0), (70, .iload_n 1, 1, 0, 0, 0, 0), (71, .invokevirtual 40, 3, 45, 2, 400, 0), (74, .ifCond .eq 7, 3, 81, 0, 0, 0), (77, .iconst 1, 1, 0, 0, 0, 0), (78, .goto 4, 3, 82, 0, 0, 0), (81, .iconst 0, 1, 0, 0, 0, 0), (82, .istore 7, 2, 0, 0, 0, 0), (84, .iload 7, 2, 0, 0, 0, 0), (86, .ifCond .eq 26, 3, 112, 0, 0, 0), (89, .aload 5, 2, 0, 0, 0, 0), (91, .aload 5, 2, 0, 0, 0, 0), (93, .invokevirtual 44, 3, 46, 1, 404, 0), (96, .aload 6, 2, 0, 0, 0, 0), (98, .aload 6, 2, 0, 0, 0, 0), (100, .invokevirtual 44, 3, 46, 1, 404, 0), (103, .invokestatic 74, 3, 69, 4, 690, 0), (106, .ifCond .eq 6, 3, 112, 0, 0, 0), (109, .iinc 2 1, 3, 0, 0, 0, 0), (112, .iinc 4 1, 3, 0, 0, 0, 0), (115, .goto (-95), 3, 20, 0, 0, 0), (118, .iinc 3 1, 3, 0, 0, 0, 0), (121, .goto (-117), 3, 4, 0, 0, 0), (124, .iload_n 2, 1, 0, 0, 0, 0), (125, .ireturn, 1, 0, 0, 0, 0)]
def cd_69 : List (Nat × AI) := [(0, .iconst 0, 1, 0, 0, 0, 0), (1, .istore 4, 2, 0, 0, 0, 0), (3, .iload 4, 2, 0, 0, 0, 0), (5, .aload_n 0, 1, 0, 0, 0, 0), (6, .invokevirtual 51, 3, 40, 1, 412, 0), (9, .if_icmp .ge 34, 3, 43, 0, 0, 0), (12, .iload_n 1, 1, 0, 0, 0, 0), (13, .iload 4, 2, 0, 0, 0, 0), (15, .invokestatic 52, 3, 102, 2, 413, 1), (18, .ifCond .eq 19, 3, 37, 0, 0, 0), (21, .aload_n 2, 1, 0, 0, 0, 0), (22, .aload_n 0, 1, 0, 0, 0, 0), (23, .iload 4, 2, 0, 0, 0, 0), (25, .invokevirtual 64, 3, 41, 2, 435, 0), (28, .iload_n 3, 1, 0, 0, 0, 0), (29, .invokevirtual 68, 3, 49, 3, 436, 0), (32, .ifCond .eq 5, 3, 37, 0, 0, 0), (35, .iconst 1, 1, 0, 0, 0, 0), (36, .ireturn, 1, 0, 0, 0, 0), (37, .iinc 4 1, 3, 0, 0, 0, 0), (40, .goto (-37), 3, 3, 0, 0, 0), (43, .iconst 0, 1, 0, 0, 0, 0), (44, .ireturn, 1, 0, 0, 0, 0)]
def cd_70 : List (Nat × AI) := [(0, .aload_n 2, 1, 0, 0, 0, 0), (1, .invokevirtual 78, 3, 22, 1, 560, 0), (4, .iconst 0, 1, 0, 0, 0, 0), (5, .istore_n 3, 1, 0, 0, 0, 0), (6, .iload_n 3, 1, 0, 0, 0, 0), (7, .aload_n 0, 1, 0, 0, 0, 0), (8, .getfield 12, 3, 5, 0, 105, 0), (11, .invokevirtual 18, 3, 6, 1, 305, 0), (14, .if_icmp .ge 53, 3, 67, 0, 0, 0), (17, .aload_n 0, 1, 0, 0, 0, 0), (18, .getfield 12, 3, 5, 0, 105, 0), (21, .iload_n 3, 1, 0, 0, 0, 0), (22, .invokevirtual 22, 3, 8, 2, 381, 0), (25, .checkcast 26, 3, 4, 0, 395, 0), (28, .astore 4, 2, 0, 0, 0, 0), (30, .aload 4, 2, 0, 0, 0, 0), (32, .aload_n 1, 1, 0, 0, 0, 0), (33, .invokevirtual 83, 3, 32, 1, 564, 0), (36, .invokevirtual 71, 3, 47, 2, 565, 0), (39, .istore 5, 2, 0, 0, 0, 0), (41, .aload 4, 2, 0, 0, 0, 0), (43, .aload_n 1, 1, 0, 0, 0, 0), (44, .iload 5, 2, 0, 0, 0, 0), (46, .invokevirtual 88, 3, 50, 3, 569, 0), (49, .ifCond .eq 12, 3, 61, 0, 0, 0), (52, .iload_n 3, 1, 0, 0, 0, 0), (53, .aload 4, 2, 0, 0, 0, 0), (55, .iload 5, 2, 0, 0, 0, 0), (57, .aload_n 2, 1, 0, 0, 0, 0), (58, .invokestatic 92, 3, 71, 4, 574, 0), (61, .iinc 3 1, 3, 0, 0, 0, 0), (64, .goto (-58), 3, 6, 0, 0, 0), (67, .return_, 1, 0, 0, 0, 0)]
def cd_71 : List (Nat × AI) := [(0, .iconst 0, 1, 0, 0, 0, 0), (1, .istore 4, 2, 0, 0, 0, 0), (3, .iconst 0, 1, 0, 0, 0, 0), (4, .istore 5, 2, 0, 0, 0, 0), (6, .iload 5, 2, 0, 0, 0, 0), (8, .aload_n 1, 1, 0, 0, 0, 0), (9, .invokevirtual 51, 3, 40, 1, 412, 0), (12, .if_icmp .ge 34, 3, 46, 0, 0, 0), (15, .iload_n 2, 1, 0, 0, 0, 0), (16, .iload 5, 2, 0, 0, 0, 0), (18, .invokestatic 52, 3, 102, 2, 413, 1), (21, .ifCond .eq 19, 3, 40, 0, 0, 0), (24, .aload_n 3, 1, 0, 0, 0, 0), (25, .iload_n 0, 1, 0, 0, 0, 0), (26, .iload 4, 2, 0, 0, 0, 0), (28, .aload_n 1, 1, 0, 0, 0, 0), (29, .iload 5, 2, 0, 0, 0, 0), (31, .invokevirtual 64, 3, 41, 2, 435, 0), (34, .invokevirtual 96, 3, 24, 4, 577, 0), (37, .iinc 4 1, 3, 0, 0, 0, 0), (40, .iinc 5 1, 3, 0, 0, 0, 0), (43, .goto (-37), 3, 6, 0, 0, 0), (46, .return_, 1, 0, 0, 0, 0)]
def cd_72 : List (Nat × AI) := [(0, .aload_n 0, 1, 0, 0, 0, 0), (1, .invokespecial 1, 3, 0, 1, 70, 2), (4, .aload_n 0, 1, 0, 0, 0, 0), (5, .new 7, 3, 5, 1, 73, 0), (8, .dup, 1, 0, 0, 0, 0), (9, .invokespecial 9, 3, 59, 1, 75, 1), (12, .putfield 10, 3, 7, 0, 159, 0), (15, .aload_n 0, 1, 0, 0, 0, 0), (16, .new 16, 3, 2, 1, 109, 0), (19, .dup, 1, 0, 0, 0, 0), (20, .invokespecial 18, 3, 52, 1, 111, 1), (23, .putfield 19, 3, 7, 1, 160, 0), (26, .aload_n 0, 1, 0, 0, 0, 0), (27, .new 23, 3, 0, 3, 121, 0), (30, .dup, 1, 0, 0, 0, 0), (31, .invokespecial 25, 3, 3, 1, 122, 0), (34, .putfield 26, 3, 7, 2, 161, 0), (37, .aload_n 0, 1, 0, 0, 0, 0), (38, .new 30, 3, 3, 3, 123, 0), (41, .dup, 1, 0, 0, 0, 0), (42, .invokespecial 32, 3, 20, 1, 125, 1), (45, .putfield 33, 3, 7, 3, 162, 0), (48, .aload_n 0, 1, 0, 0, 0, 0), (49, .new 37, 3, 4, 4, 140, 0), (52, .dup, 1, 0, 0, 0, 0), (53, .invokespecial 39, 3, 39, 1, 142, 1), (56, .putfield 40, 3, 7, 4, 163, 0), (59, .return_, 1, 0, 0, 0, 0)]
def cd_73 : List (Nat × AI) := [(0, .iload_n 1, 1, 0, 0, 0, 0), (1, .iload_n 2, 1, 0, 0, 0, 0), (2, .invokestatic 44, 3, 96, 2, 184, 0), (5, .iload_n 1, 1, 0, 0, 0, 0), (6, .iload_n 2, 1, 0, 0, 0, 0), (7, .invokestatic 48, 3, 99, 2, 258, 0), (10, .istore_n 3, 1, 0, 0, 0, 0), (11, .aload_n 0, 1, 0, 0, 0, 0), (12, .getfield 40, 3, 7, 4, 163, 0), (15, .invokevirtual 52, 3, 40, 1, 261, 0), (18, .bipush 8, 2, 0, 0, 0, 0), (20, .if_icmp .lt 13, 3, 33, 0, 0, 0), (23, .new 56, 3, 3, 60058, 265, 1), (33, .aload_n 0, 1, 0, 0, 0, 0), (34, .getfield 40, 3, 7, 4, 163, 0), (37, .aload_n 0, 1, 0, 0, 0, 0), (38, .getfield 40, 3, 7, 4, 163, 0), (41, .invokevirtual 52, 3, 40, 1, 261, 0), (44, .iconst 1, 1, 0, 0, 0, 0), (45, .isub, 1, 0, 0, 0, 0), (46, .invokevirtual 63, 3, 41, 2, 281, 0), (49, .iload_n 3, 1, 0, 0, 0, 0), (50, .if_icmp .ne 13, 3, 63, 0, 0, 0), (53, .new 56, 3, 3, 60067, 265, 1), (63, .aload_n 0, 1, 0, 0, 0, 0), (64, .getfield 40, 3, 7, 4, 163, 0), (67, .iload_n 3, 1, 0, 0, 0, 0), (68, .invokevirtual 69, 3, 42, 2, 286, 0), (71, .aload_n 0, 1, 0, 0, 0, 0), (72, .getfield 40, 3, 7, 4, 163, 0), (75, .invokevirtual 52, 3, 40, 1, 261, 0), (78, .ireturn, 1, 0, 0, 0, 0)]
def cd_74 : List (Nat × AI) := [(0, .iload_n 1, 1, 0, 0, 0, 0), (1, .invokestatic 73, 3, 97, 1, 297, 0), (4, .aload_n 0, 1, 0, 0, 0, 0), (5, .getfield 40, 3, 7, 4, 163, 0), (8, .invokevirtual 52, 3, 40, 1, 261, 0), (11, .iconst 2, 1, 0, 0, 0, 0), (12, .if_icmp .ge 13, 3, 25, 0, 0, 0), (15, .new 56, 3, 3, 60076, 265, 1), (25, .aload_n 0, 1, 0, 0, 0, 0), (26, .getfield 10, 3, 7, 0, 159, 0), (29, .invokevirtual 78, 3, 60, 1, 301, 0), (32, .bipush 8, 2, 0, 0, 0, 0), (34, .if_icmp .lt 13, 3, 47, 0, 0, 0), (37, .new 56, 3, 3, 60079, 265, 1), (47, .aload_n 0, 1, 0, 0, 0, 0), (48, .getfield 40, 3, 7, 4, 163, 0), (51, .iload_n 1, 1, 0, 0, 0, 0), (52, .invokevirtual 81, 3, 44, 2, 310, 0), (55, .aload_n 0, 1, 0, 0, 0, 0), (56, .getfield 10, 3, 7, 0, 159, 0), (59, .aload_n 0, 1, 0, 0, 0, 0), (60, .getfield 40, 3, 7, 4, 163, 0), (63, .invokevirtual 84, 3, 62, 2, 314, 0), (66, .aload_n 0, 1, 0, 0, 0, 0), (67, .getfield 10, 3, 7, 0, 159, 0), (70, .invokevirtual 88, 3, 63, 1, 377, 0), (73, .aload_n 0, 1, 0, 0, 0, 0), (74, .new 37, 3, 4, 4, 140, 0), (77, .dup, 1, 0, 0, 0, 0), (78, .invokespecial 39, 3, 39, 1, 142, 1), (81, .putfield 40, 3, 7, 4, 163, 0), (84, .aload_n 0, 1, 0, 0, 0, 0), (85, .getfield 10, 3, 7, 0, 159, 0), (88, .invokevirtual 78, 3, 60, 1, 301, 0), (91, .iconst 1, 1, 0, 0, 0, 0), (92, .isub, 1, 0, 0, 0, 0), (93, .ireturn, 1, 0, 0, 0, 0)]
def cd_75 : List (Nat × AI) := [(0, .aload_n 0, 1, 0, 0, 0, 0), (1, .iload_n 1, 1, 0, 0, 0, 0), (2, .invokevirtual 91, 3, 92, 2, 452, 0), (5, .astore 5, 2, 0, 0, 0, 0), (7, .iload_n 2, 1, 0, 0, 0, 0), (8, .ifCond .lt 12, 3, 20, 0, 0, 0), (11, .iload_n 2, 1, 0, 0, 0, 0), (12, .aload 5, 2, 0, 0, 0, 0), (14, .invokevirtual 52, 3, 40, 1, 261, 0), (17, .if_icmp .lt 13, 3, 30, 0, 0, 0), (20, .new 95, 3, 1, 99097, 456, 1), (30, .iload_n 3, 1, 0, 0, 0, 0), (31, .iload 4, 2, 0, 0, 0, 0), (33, .invokestatic 44, 3, 96, 2, 184, 0), (36, .iload_n 3, 1, 0, 0, 0, 0), (37, .iload 4, 2, 0, 0, 0, 0), (39, .invokestatic 48, 3, 99, 2, 258, 0), (42, .istore 6, 2, 0, 0, 0, 0), (44, .aload 5, 2, 0, 0, 0, 0), (46, .iload_n 2, 1, 0, 0, 0, 0), (47, .iconst 1, 1, 0, 0, 0, 0), (48, .isub, 1, 0, 0, 0, 0), (49, .invokevirtual 63, 3, 41, 2, 281, 0), (52, .iload 6, 2, 0, 0, 0, 0), (54, .if_icmp .eq 16, 3, 70, 0, 0, 0), (57, .aload 5, 2, 0, 0, 0, 0), (59, .iload_n 2, 1, 0, 0, 0, 0), (60, .iconst 1, 1, 0, 0, 0, 0), (61, .iadd, 1, 0, 0, 0, 0), (62, .invokevirtual 63, 3, 41, 2, 281, 0), (65, .iload 6, 2, 0, 0, 0, 0), (67, .if_icmp .ne 13, 3, 80, 0, 0, 0), (70, .new 56, 3, 3, 60100, 265, 1), (80, .aload 5, 2, 0, 0, 0, 0), (82, .iload_n 2, 1, 0, 0, 0, 0), (83, .iload 6, 2, 0, 0, 0, 0), (85, .invokevirtual 102, 3, 43, 3, 478, 0), (88, .aload_n 0, 1, 0, 0, 0, 0), (89, .getfield 10, 3, 7, 0, 159, 0), (92, .invokevirtual 88, 3, 63, 1, 377, 0), (95, .aload_n 0, 1, 0, 0, 0, 0), (96, .invokevirtual 105, 3, 89, 1, 482, 0), (99, .ireturn, 1, 0, 0, 0, 0)]
def cd_76 : List (Nat × AI) := [(0, .iload_n 1, 1, 0, 0, 0, 0), (1, .iload_n 2, 1, 0, 0, 0, 0), (2, .invokestatic 44, 3, 96, 2, 184, 0), (5, .iconst 1, 1, 0, 0, 0, 0), (6, .iload_n 3, 1, 0, 0, 0, 0), (7, .bipush 8, 2, 0, 0, 0, 0), (9, .invokestatic 108, 3, 98, 3, 187, 0), (12, .iload 4, 2, 0, 0, 0, 0), (14, .invokestatic 73, 3, 97, 1, 297, 0), (17, .aload_n 0, 1, 0, 0, 0, 0), (18, .getfield 19, 3, 7, 1, 160, 0), (21, .invokevirtual 112, 3, 53, 1, 605, 0), (24, .bipush 10, 2, 0, 0, 0, 0), (26, .if_icmp .lt 13, 3, 39, 0, 0, 0), (29, .new 56, 3, 3, 60113, 265, 1), (39, .aload_n 0, 1, 0, 0, 0, 0), (40, .getfield 19, 3, 7, 1, 160, 0), (43, .new 115, 3, 1, 4, 610, 0), (46, .dup, 1, 0, 0, 0, 0), (47, .iload_n 1, 1, 0, 0, 0, 0), (48, .iload_n 2, 1, 0, 0, 0, 0), (49, .iload_n 3, 1, 0, 0, 0, 0), (50, .iload 4, 2, 0, 0, 0, 0), (52, .invokespecial 117, 3, 13, 5, 612, 0), (55, .invokevirtual 120, 3, 55, 2, 629, 0), (58, .aload_n 0, 1, 0, 0, 0, 0), (59, .getfield 19, 3, 7, 1, 160, 0), (62, .invokevirtual 112, 3, 53, 1, 605, 0), (65, .iconst 1, 1, 0, 0, 0, 0), (66, .isub, 1, 0, 0, 0, 0), (67, .ireturn, 1, 0, 0, 0, 0)]
def cd_77 : List (Nat × AI) := [(0, .aload_n 0, 1, 0, 0, 0, 0), (1, .iload_n 1, 1, 0, 0, 0, 0), (2, .invokevirtual 123, 3, 93, 2, 641, 0), (5, .astore 4, 2, 0, 0, 0, 0), (7, .iload_n 2, 1, 0, 0, 0, 0), (8, .iload_n 3, 1, 0, 0, 0, 0), (9, .invokestatic 44, 3, 96, 2, 184, 0), (12, .aload 4, 2, 0, 0, 0, 0), (14, .iload_n 2, 1, 0, 0, 0, 0), (15, .iload_n 3, 1, 0, 0, 0, 0), (16, .invokevirtual 127, 3, 17, 3, 650, 0), (19, .aload_n 0, 1, 0, 0, 0, 0), (20, .invokevirtual 105, 3, 89, 1, 482, 0), (23, .ireturn, 1, 0, 0, 0, 0)]
def cd_78 : List (Nat × AI) := [(0, .aload_n 0, 1, 0, 0, 0, 0), (1, .iload_n 1, 1, 0, 0, 0, 0), (2, .invokevirtual 91, 3, 92, 2, 452, 0), (5, .astore_n 3, 1, 0, 0, 0, 0), (6, .iload_n 2, 1, 0, 0, 0, 0), (7, .invokestatic 128, 3, 95, 1, 661, 0), (10, .aload_n 3, 1, 0, 0, 0, 0), (11, .iload_n 2, 1, 0, 0, 0, 0), (12, .invokevirtual 131, 3, 47, 2, 665, 0), (15, .invokestatic 134, 3, 0, 1, 666, 0), (18, .ireturn, 1, 0, 0, 0, 0)]
def cd_79 : List (Nat × AI) := [(0, .aload_n 0, 1, 0, 0, 0, 0), (1, .iload_n 1, 1, 0, 0, 0, 0), (2, .invokevirtual 91, 3, 92, 2, 452, 0), (5, .astore_n 3, 1, 0, 0, 0, 0), (6, .iload_n 2, 1, 0, 0, 0, 0), (7, .invokestatic 128, 3, 95, 1, 661, 0), (10, .aload_n 3, 1, 0, 0, 0, 0), (11, .iload_n 2, 1, 0, 0, 0, 0), (12, .invokevirtual 131, 3, 47, 2, 665, 0), (15, .ireturn, 1, 0, 0, 0, 0)]
def cd_80 : List (Nat × AI) := [(0, .iload_n 1, 1, 0, 0, 0, 0), (1, .invokestatic 128, 3, 95, 1, 661, 0), (4, .aload_n 0, 1, 0, 0, 0, 0), (5, .getfield 10, 3, 7, 0, 159, 0), (8, .iload_n 1, 1, 0, 0, 0, 0), (9, .invokevirtual 139, 3, 67, 2, 686, 0), (12, .ireturn, 1, 0, 0, 0, 0)]
def cd_81 : List (Nat × AI) := [(0, .iload_n 1, 1, 0, 0, 0, 0), (1, .invokestatic 128, 3, 95, 1, 661, 0), (4, .aload_n 0, 1, 0, 0, 0, 0), (5, .getfield 10, 3, 7, 0, 159, 0), (8, .iload_n 1, 1, 0, 0, 0, 0), (9, .invokevirtual 142, 3, 68, 2, 700, 0), (12, .ireturn, 1, 0, 0, 0, 0)]
def cd_82 : List (Nat × AI) := [(0, .iload_n 1, 1, 0, 0, 0, 0), (1, .invokestatic 128, 3, 95, 1, 661, 0), (4, .iload_n 2, 1, 0, 0, 0, 0), (5, .iload_n 3, 1, 0, 0, 0, 0), (6, .invokestatic 44, 3, 96, 2, 184, 0), (9, .iload_n 2, 1, 0, 0, 0, 0), (10, .iload 4, 2, 0, 0, 0, 0), (12, .bipush 39, 2, 0, 0, 0, 0), (14, .invokestatic 108, 3, 98, 3, 187, 0), (17, .iload_n 3, 1, 0, 0, 0, 0), (18, .iload 5, 2, 0, 0, 0, 0), (20, .bipush 39, 2, 0, 0, 0, 0), (22, .invokestatic 108, 3, 98, 3, 187, 0), (25, .iconst (-1), 1, 0, 0, 0, 0), (26, .iload 6, 2, 0, 0, 0, 0), (28, .bipush 39, 2, 0, 0, 0, 0), (30, .invokestatic 108, 3, 98, 3, 187, 0), (33, .aload_n 0, 1, 0, 0, 0, 0), (34, .getfield 26, 3, 7, 2, 161, 0), (37, .invokevirtual 145, 3, 6, 1, 486, 0), (40, .bipush 6, 2, 0, 0, 0, 0), (42, .if_icmp .lt 13, 3, 55, 0, 0, 0), (45, .new 56, 3, 3, 60146, 265, 1), (55, .aload_n 0, 1, 0, 0, 0, 0), (56, .getfield 26, 3, 7, 2, 161, 0), (59, .new 148, 3, 6, 9, 488, 0), (62, .dup, 1, 0, 0, 0, 0), (63, .iload_n 1, 1, 0, 0, 0, 0), (64, .iload_n 2, 1, 0, 0, 0, 0), (65, .iload_n 3, 1, 0, 0, 0, 0), (66, .iload 4, 2, 0, 0, 0, 0), (68, .iload 5, 2, 0, 0, 0, 0), (70, .iload 6, 2, 0, 0, 0, 0), (72, .invokespecial 150, 3, 31, 7, 713, 0), (75, .invokevirtual 153, 3, 10, 2, 747, 0), (78, .pop, 1, 0, 0, 0, 0), (79, .aload_n 0, 1, 0, 0, 0, 0), (80, .getfield 26, 3, 7, 2, 161, 0), (83, .invokevirtual 145, 3, 6, 1, 486, 0), (86, .iconst 1, 1, 0, 0, 0, 0), (87, .isub, 1, 0, 0, 0, 0), (88, .ireturn, 1, 0, 0, 0, 0)]
def cd_83 : List (Nat × AI) := [(0, .aload_n 0, 1, 0, 0, 0, 0), (1, .iload_n 1, 1, 0, 0, 0, 0), (2, .invokevirtual 156, 3, 94, 2, 755, 0), (5, .astore_n 3, 1, 0, 0, 0, 0), (6, .aload_n 0, 1, 0, 0, 0, 0), (7, .iload_n 2, 1, 0, 0, 0, 0), (8, .invokevirtual 123, 3, 93, 2, 641, 0), (11, .pop, 1, 0, 0, 0, 0), (12, .aload_n 0, 1, 0, 0, 0, 0), (13, .getfield 19, 3, 7, 1, 160, 0), (16, .aload_n 3, 1, 0, 0, 0, 0), (17, .aload_n 0, 1, 0, 0, 0, 0), (18, .getfield 33, 3, 7, 3, 162, 0), (21, .invokevirtual 160, 3, 56, 3, 493, 0), (24, .aload_n 0, 1, 0, 0, 0, 0), (25, .getfield 33, 3, 7, 3, 162, 0), (28, .iload_n 2, 1, 0, 0, 0, 0), (29, .invokevirtual 164, 3, 25, 2, 760, 0), (32, .ireturn, 1, 0, 0, 0, 0)]
def cd_84 : List (Nat × AI) := [(0, .aload_n 0, 1, 0, 0, 0, 0), (1, .iload_n 1, 1, 0, 0, 0, 0), (2, .invokevirtual 156, 3, 94, 2, 755, 0), (5, .astore 4, 2, 0, 0, 0, 0), (7, .iload_n 2, 1, 0, 0, 0, 0), (8, .iload_n 3, 1, 0, 0, 0, 0), (9, .invokestatic 44, 3, 96, 2, 184, 0), (12, .aload_n 0, 1, 0, 0, 0, 0), (13, .getfield 19, 3, 7, 1, 160, 0), (16, .aload 4, 2, 0, 0, 0, 0), (18, .aload_n 0, 1, 0, 0, 0, 0), (19, .getfield 33, 3, 7, 3, 162, 0), (22, .invokevirtual 160, 3, 56, 3, 493, 0), (25, .aload_n 0, 1, 0, 0, 0, 0), (26, .getfield 19, 3, 7, 1, 160, 0), (29, .iload_n 2, 1, 0, 0, 0, 0), (30, .iload_n 3, 1, 0, 0, 0, 0), (31, .invokestatic 48, 3, 99, 2, 258, 0), (34, .iconst 1, 1, 0, 0, 0, 0), (35, .aload_n 0, 1, 0, 0, 0, 0), (36, .getfield 33, 3, 7, 3, 162, 0), (39, .invokevirtual 167, 3, 58, 4, 771, 0), (42, .ireturn, 1, 0, 0, 0, 0)]
def cd_85 : List (Nat × AI) := [(0, .aload_n 0, 1, 0, 0, 0, 0), (1, .iload_n 1, 1, 0, 0, 0, 0), (2, .invokevirtual 156, 3, 94, 2, 755, 0), (5, .astore_n 3, 1, 0, 0, 0, 0), (6, .iconst 1, 1, 0, 0, 0, 0), (7, .iload_n 2, 1, 0, 0, 0, 0), (8, .bipush 100, 2, 0, 0, 0, 0), (10, .invokestatic 108, 3, 98, 3, 187, 0), (13, .aload_n 0, 1, 0, 0, 0, 0), (14, .aload_n 3, 1, 0, 0, 0, 0), (15, .invokevirtual 171, 3, 91, 2, 489, 0), (18, .aload_n 3, 1, 0, 0, 0, 0), (19, .aload_n 0, 1, 0, 0, 0, 0), (20, .getfield 33, 3, 7, 3, 162, 0), (23, .invokevirtual 175, 3, 36, 2, 581, 0), (26, .ifCond .le 7, 3, 33, 0, 0, 0), (29, .iload_n 2, 1, 0, 0, 0, 0), (30, .goto 9, 3, 39, 0, 0, 0), (33, .aload_n 3, 1, 0, 0, 0, 0), (34, .invokevirtual 179, 3, 33, 1, 779, 0), (37, .iload_n 2, 1, 0, 0, 0, 0), (38, .iadd, 1, 0, 0, 0, 0), (39, .istore 4, 2, 0, 0, 0, 0), (41, .iload 4, 2, 0, 0, 0, 0), (43, .sipush 1000, 3, 0, 0, 0, 0), (46, .if_icmp .le 13, 3, 59, 0, 0, 0), (49, .new 56, 3, 3, 60182, 265, 1), (59, .aload_n 3, 1, 0, 0, 0, 0), (60, .aload_n 0, 1, 0, 0, 0, 0), (61, .getfield 33, 3, 7, 3, 162, 0), (64, .iload 4, 2, 0, 0, 0, 0), (66, .invokevirtual 184, 3, 37, 3, 784, 0), (69, .iload 4, 2, 0, 0, 0, 0), (71, .ireturn, 1, 0, 0, 0, 0)]
def cd_86 : List (Nat × AI) := [(0, .aload_n 0, 1, 0, 0, 0, 0), (1, .iload_n 1, 1, 0, 0, 0, 0), (2, .invokevirtual 156, 3, 94, 2, 755, 0), (5, .astore_n 3, 1, 0, 0, 0, 0), (6, .iconst 1, 1, 0, 0, 0, 0), (7, .iload_n 2, 1, 0, 0, 0, 0), (8, .sipush 1000, 3, 0, 0, 0, 0), (11, .invokestatic 108, 3, 98, 3, 187, 0), (14, .aload_n 3, 1, 0, 0, 0, 0), (15, .invokevirtual 179, 3, 33, 1, 779, 0), (18, .iload_n 2, 1, 0, 0, 0, 0), (19, .if_icmp .ge 13, 3, 32, 0, 0, 0), (22, .new 56, 3, 3, 60188, 265, 1), (32, .aload_n 3, 1, 0, 0, 0, 0), (33, .iload_n 2, 1, 0, 0, 0, 0), (34, .invokevirtual 190, 3, 38, 2, 803, 0), (37, .aload_n 0, 1, 0, 0, 0, 0), (38, .aload_n 3, 1, 0, 0, 0, 0), (39, .invokevirtual 193, 3, 90, 2, 807, 0), (42, .ireturn, 1, 0, 0, 0, 0)]
def cd_87 : List (Nat × AI) := [(0, .aload_n 0, 1, 0, 0, 0, 0), (1, .iload_n 1, 1, 0, 0, 0, 0), (2, .invokevirtual 156, 3, 94, 2, 755, 0), (5, .invokevirtual 179, 3, 33, 1, 779, 0), (8, .ireturn, 1, 0, 0, 0, 0)]
def cd_88 : List (Nat × AI) := [(0, .aload_n 0, 1, 0, 0, 0, 0), (1, .aload_n 0, 1, 0, 0, 0, 0), (2, .iload_n 1, 1, 0, 0, 0, 0), (3, .invokevirtual 156, 3, 94, 2, 755, 0), (6, .invokevirtual 193, 3, 90, 2, 807, 0), (9, .ireturn, 1, 0, 0, 0, 0)]
def cd_89 : List (Nat × AI) := [(0, .iconst 0, 1, 0, 0, 0, 0), (1, .istore_n 1, 1, 0, 0, 0, 0), (2, .iconst 0, 1, 0, 0, 0, 0), (3, .istore_n 2, 1, 0, 0, 0, 0), (4, .iload_n 2, 1, 0, 0, 0, 0), (5, .aload_n 0, 1, 0, 0, 0, 0), (6, .getfield 26, 3, 7, 2, 161, 0), (9, .invokevirtual 145, 3, 6, 1, 486, 0), (12, .if_icmp .ge 40, 3, 52, 0, 0, 0), (15, .aload_n 0, 1, 0, 0, 0, 0), (16, .getfield 26, 3, 7, 2, 161, 0), (19, .iload_n 2, 1, 0, 0, 0, 0), (20, .invokevirtual 197, 3, 8, 2, 487, 0), (23, .checkcast 148, 3, 6, 0, 488, 0), (26, .astore_n 3, 1, 0, 0, 0, 0), (27, .aload_n 0, 1, 0, 0, 0, 0), (28, .aload_n 3, 1, 0, 0, 0, 0), (29, .invokevirtual 171, 3, 91, 2, 489, 0), (32, .aload_n 3, 1, 0, 0, 0, 0), (33, .aload_n 0, 1, 0, 0, 0, 0), (34, .getfield 33, 3, 7, 3, 162, 0), (37, .invokevirtual 175, 3, 36, 2, 581, 0), (40, .ifCond .le 6, 3, 46, 0, 0, 0), (43, .iinc 1 1, 3, 0, 0, 0, 0), (46, .iinc 2 1, 3, 0, 0, 0, 0), (49, .goto (-45), 3, 4, 0, 0, 0), (52, .iload_n 1, 1, 0, 0, 0, 0), (53, .ireturn, 1, 0, 0, 0, 0)]
def cd_90 : List (Nat × AI) := [(0, .aload_n 0, 1, 0, 0, 0, 0), (1, .aload_n 1, 1, 0, 0, 0, 0), (2, .invokevirtual 171, 3, 91, 2, 489, 0), (5, .aload_n 1, 1, 0, 0, 0, 0), (6, .aload_n 0, 1, 0, 0, 0, 0), (7, .getfield 33, 3, 7, 3, 162, 0), (10, .invokevirtual 175, 3, 36, 2, 581, 0), (13, .ireturn, 1, 0, 0, 0, 0)]
def cd_91 : List (Nat × AI) := [(0, .aload_n 0, 1, 0, 0, 0, 0), (1, .getfield 19, 3, 7, 1, 160, 0), (4, .aload_n 1, 1, 0, 0, 0, 0), (5, .aload_n 0, 1, 0, 0, 0, 0), (6, .getfield 33, 3, 7, 3, 162, 0), (9, .invokevirtual 160, 3, 56, 3, 493, 0), (12, .aload_n 0, 1, 0, 0, 0, 0), (13, .getfield 10, 3, 7, 0, 159, 0), (16, .aload_n 1, 1, 0, 0, 0, 0), (17, .aload_n 0, 1, 0, 0, 0, 0), (18, .getfield 33, 3, 7, 3, 162, 0), (21, .invokevirtual 201, 3, 70, 3, 556, 0), (24, .return_, 1, 0, 0, 0, 0)]
def cd_92 : List (Nat × AI) := [(0, .iload_n 1, 1, 0, 0, 0, 0), (1, .ifCond .lt 14, 3, 15, 0, 0, 0), (4, .iload_n 1, 1, 0, 0, 0, 0), (5, .aload_n 0, 1, 0, 0, 0, 0), (6, .getfield 10, 3, 7, 0, 159, 0), (9, .invokevirtual 78, 3, 60, 1, 301, 0), (12, .if_icmp .lt 13, 3, 25, 0, 0, 0), (15, .new 95, 3, 1, 99204, 456, 1), (25, .aload_n 0, 1, 0, 0, 0, 0), (26, .getfield 10, 3, 7, 0, 159, 0), (29, .iload_n 1, 1, 0, 0, 0, 0), (30, .invokevirtual 206, 3, 61, 2, 472, 0), (33, .areturn, 1, 0, 0, 0, 0)]
def cd_93 : List (Nat × AI) := [(0, .iload_n 1, 1, 0, 0, 0, 0), (1, .ifCond .lt 14, 3, 15, 0, 0, 0), (4, .iload_n 1, 1, 0, 0, 0, 0), (5, .aload_n 0, 1, 0, 0, 0, 0), (6, .getfield 19, 3, 7, 1, 160, 0), (9, .invokevirtual 112, 3, 53, 1, 605, 0), (12, .if_icmp .lt 13, 3, 25, 0, 0, 0), (15, .new 95, 3, 1, 99208, 456, 1), (25, .aload_n 0, 1, 0, 0, 0, 0), (26, .getfield 19, 3, 7, 1, 160, 0), (29, .iload_n 1, 1, 0, 0, 0, 0), (30, .invokevirtual 210, 3, 54, 2, 646, 0), (33, .areturn, 1, 0, 0, 0, 0)]
def cd_94 : List (Nat × AI) := [(0, .iload_n 1, 1, 0, 0, 0, 0), (1, .ifCond .lt 14, 3, 15, 0, 0, 0), (4, .iload_n 1, 1, 0, 0, 0, 0), (5, .aload_n 0, 1, 0, 0, 0, 0), (6, .getfield 26, 3, 7, 2, 161, 0), (9, .invokevirtual 145, 3, 6, 1, 486, 0), (12, .if_icmp .lt 13, 3, 25, 0, 0, 0), (15, .new 95, 3, 1, 99212, 456, 1), (25, .aload_n 0, 1, 0, 0, 0, 0), (26, .getfield 26, 3, 7, 2, 161, 0), (29, .iload_n 1, 1, 0, 0, 0, 0), (30, .invokevirtual 197, 3, 8, 2, 487, 0), (33, .checkcast 148, 3, 6, 0, 488, 0), (36, .areturn, 1, 0, 0, 0, 0)]
def cd_95 : List (Nat × AI) := [(0, .iload_n 0, 1, 0, 0, 0, 0), (1, .ifCond .lt 8, 3, 9, 0, 0, 0), (4, .iload_n 0, 1, 0, 0, 0, 0), (5, .iconst 4, 1, 0, 0, 0, 0), (6, .if_icmp .lt 13, 3, 19, 0, 0, 0), (9, .new 95, 3, 1, 99214, 456, 1), (19, .return_, 1, 0, 0, 0, 0)]
def cd_96 : List (Nat × AI) := [(0, .iconst 0, 1, 0, 0, 0, 0), (1, .iload_n 0, 1, 0, 0, 0, 0), (2, .bipush 39, 2, 0, 0, 0, 0), (4, .invokestatic 108, 3, 98, 3, 187, 0), (7, .iconst 0, 1, 0, 0, 0, 0), (8, .iload_n 1, 1, 0, 0, 0, 0), (9, .bipush 39, 2, 0, 0, 0, 0), (11, .invokestatic 108, 3, 98, 3, 187, 0), (14, .return_, 1, 0, 0, 0, 0)]
def cd_97 : List (Nat × AI) := [(0, .iconst 0, 1, 0, 0, 0, 0), (1, .iload_n 0, 1, 0, 0, 0, 0), (2, .iconst 3, 1, 0, 0, 0, 0), (3, .invokestatic 108, 3, 98, 3, 187, 0), (6, .return_, 1, 0, 0, 0, 0)]
def cd_98 : List (Nat × AI) := [(0, .iload_n 1, 1, 0, 0, 0, 0), (1, .iload_n 0, 1, 0, 0, 0, 0), (2, .if_icmp .lt 8, 3, 10, 0, 0, 0), (5, .iload_n 1, 1, 0, 0, 0, 0), (6, .iload_n 2, 1, 0, 0, 0, 0), (7, .if_icmp .le 13, 3, 20, 0, 0, 0), (10, .new 216, 3, 2, 220218, 190, 1), (20, .return_, 1, 0, 0, 0, 0)]
def cd_99 : List (Nat × AI) := [(0, .iload_n 1, 1, 0, 0, 0, 0), (1, .bipush 40, 2, 0, 0, 0, 0), (3, .imul, 1, 0, 0, 0, 0), (4, .iload_n 0, 1, 0, 0, 0, 0), (5, .iadd, 1, 0, 0, 0, 0), (6, .ireturn, 1, 0, 0, 0, 0)]
def cd_100 : List (Nat × AI) := [(0, .iload_n 0, 1, 0, 0, 0, 0), (1, .bipush 40, 2, 0, 0, 0, 0), (3, .irem, 1, 0, 0, 0, 0), (4, .ireturn, 1, 0, 0, 0, 0)]
def cd_101 : List (Nat × AI) := [(0, .iload_n 0, 1, 0, 0, 0, 0), (1, .bipush 40, 2, 0, 0, 0, 0), (3, .idiv, 1, 0, 0, 0, 0), (4, .ireturn, 1, 0, 0, 0, 0)]
def cd_102 : List (Nat × AI) := [(0, .iload_n 0, 1, 0, 0, 0, 0), (1, .iload_n 1, 1, 0, 0, 0, 0), (2, .ishr, 1, 0, 0, 0, 0), (3, .iconst 1, 1, 0, 0, 0, 0), (4, .iand, 1, 0, 0, 0, 0), (5, .ifCond .eq 7, 3, 12, 0, 0, 0), (8, .iconst 1, 1, 0, 0, 0, 0), (9, .goto 4, 3, 13, 0, 0, 0), (12, .iconst 0, 1, 0, 0, 0, 0), (13, .ireturn, 1, 0, 0, 0, 0)]
def cd_103_0 : List (Nat × AI) := [(0, .aload_n 0, 1, 0, 0, 0, 0), (1, .invokespecial 1, 3, 0, 1, 830, 2), (4, .aload_n 0, 1, 0, 0, 0, 0), (5, .bipush 8, 2, 0, 0, 0, 0), (7, .newarray .int, 2, 0, 0, 0, 0), (9, .putfield 7, 3, 8, 1, 832, 0), (12, .aload_n 0, 1, 0, 0, 0, 0), (13, .bipush 8, 2, 0, 0, 0, 0), (15, .newarray .int, 2, 0, 0, 0, 0), (17, .putfield 13, 3, 8, 2, 833, 0), (20, .aload_n 0, 1, 0, 0, 0, 0), (21, .bipush 64, 2, 0, 0, 0, 0), (23, .newarray .int, 2, 0, 0, 0, 0), (25, .putfield 16, 3, 8, 4, 835, 0), (28, .aload_n 0, 1, 0, 0, 0, 0), (29, .bipush 64, 2, 0, 0, 0, 0), (31, .newarray .int, 2, 0, 0, 0, 0), (33, .putfield 19, 3, 8, 5, 836, 0), (36, .aload_n 0, 1, 0, 0, 0, 0), (37, .bipush 8, 2, 0, 0, 0, 0), (39, .newarray .int, 2, 0, 0, 0, 0), (41, .putfield 22, 3, 8, 6, 837, 0), (44, .aload_n 0, 1, 0, 0, 0, 0), (45, .bipush 8, 2, 0, 0, 0, 0), (47, .newarray .int, 2, 0, 0, 0, 0), (49, .putfield 25, 3, 8, 7, 838, 0), (52, .aload_n 0, 1, 0, 0, 0, 0), (53, .bipush 10, 2, 0, 0, 0, 0), (55, .newarray .int, 2, 0, 0, 0, 0), (57, .putfield 28, 3, 8, 9, 840, 0), (60, .aload_n 0, 1, 0, 0, 0, 0), (61, .bipush 10, 2, 0, 0, 0, 0), (63, .newarray .int, 2, 0, 0, 0, 0), (65, .putfield 31, 3, 8, 10, 841, 0), (68, .aload_n 0, 1, 0, 0, 0, 0), (69, .bipush 10, 2, 0, 0, 0, 0), (71, .newarray .int, 2, 0, 0, 0, 0), (73, .putfield 34, 3, 8, 11, 842, 0), (76, .aload_n 0, 1, 0, 0, 0, 0), (77, .bipush 10, 2, 0, 0, 0, 0), (79, .newarray .int, 2, 0, 0, 0, 0), (81, .putfield 37, 3, 8, 12, 843, 0), (84, .aload_n 0, 1, 0, 0, 0, 0), (85, .bipush 6, 2, 0, 0, 0, 0), (87, .newarray .int, 2, 0, 0, 0, 0), (89, .putfield 40, 3, 8, 14, 845, 0), (92, .aload_n 0, 1, 0, 0, 0, 0), (93, .bipush 6, 2, 0, 0, 0, 0), (95, .newarray .int, 2, 0, 0, 0, 0), (97, .putfield 43, 3, 8, 15, 846, 0), (100, .aload_n 0, 1, 0, 0, 0, 0), (101, .bipush 6, 2, 0, 0, 0, 0), (103, .newarray .int, 2, 0, 0, 0, 0), (105, .putfield 46, 3, 8, 16, 847, 0), (108, .aload_n 0, 1, 0, 0, 0, 0), (109, .bipush 6, 2, 0, 0, 0, 0), (111, .newarray .int, 2, 0, 0, 0, 0), (113, .putfield 49, 3, 8, 17, 848, 0), (116, .aload_n 0, 1, 0, 0, 0, 0), (117, .bipush 6, 2, 0, 0, 0, 0)]
def cd_103_1 : List (Nat × AI) := [(119, .newarray .int, 2, 0, 0, 0, 0), (121, .putfield 52, 3, 8, 18, 849, 0), (124, .aload_n 0, 1, 0, 0, 0, 0), (125, .bipush 6, 2, 0, 0, 0, 0), (127, .newarray .int, 2, 0, 0, 0, 0), (129, .putfield 55, 3, 8, 19, 850, 0), (132, .aload_n 0, 1, 0, 0, 0, 0), (133, .bipush 6, 2, 0, 0, 0, 0), (135, .newarray .int, 2, 0, 0, 0, 0), (137, .putfield 58, 3, 8, 20, 851, 0), (140, .aload_n 0, 1, 0, 0, 0, 0), (141, .bipush 6, 2, 0, 0, 0, 0), (143, .newarray .boolean, 2, 1, 0, 0, 0), (145, .putfield 61, 3, 8, 21, 852, 0), (148, .aload_n 0, 1, 0, 0, 0, 0), (149, .bipush 60, 2, 0, 0, 0, 0), (151, .newarray .int, 2, 0, 0, 0, 0), (153, .putfield 65, 3, 8, 23, 854, 0), (156, .aload_n 0, 1, 0, 0, 0, 0), (157, .bipush 48, 2, 0, 0, 0, 0), (159, .newarray .int, 2, 0, 0, 0, 0), (161, .putfield 68, 3, 8, 24, 855, 0), (164, .aload_n 0, 1, 0, 0, 0, 0), (165, .sipush 384, 3, 0, 0, 0, 0), (168, .newarray .int, 2, 0, 0, 0, 0), (170, .putfield 71, 3, 8, 25, 856, 0), (173, .aload_n 0, 1, 0, 0, 0, 0), (174, .bipush 10, 2, 0, 0, 0, 0), (176, .newarray .int, 2, 0, 0, 0, 0), (178, .putfield 74, 3, 8, 26, 857, 0), (181, .aload_n 0, 1, 0, 0, 0, 0), (182, .bipush 10, 2, 0, 0, 0, 0), (184, .newarray .int, 2, 0, 0, 0, 0), (186, .putfield 77, 3, 8, 27, 858, 0), (189, .return_, 1, 0, 0, 0, 0)]
def cd_103 : List (Nat × AI) := cd_103_0 ++ (cd_103_1)
def cd_104 : List (Nat × AI) := [(0, .aload_n 0, 1, 0, 0, 0, 0), (1, .getfield 80, 3, 8, 0, 831, 0), (4, .ireturn, 1, 0, 0, 0, 0)]
def cd_105 : List (Nat × AI) := [(0, .aload_n 0, 1, 0, 0, 0, 0), (1, .iload_n 1, 1, 0, 0, 0, 0), (2, .putfield 80, 3, 8, 0, 831, 0), (5, .iload_n 1, 1, 0, 0, 0, 0), (6, .ifCond .ne 7, 3, 13, 0, 0, 0), (9, .iconst 1, 1, 0, 0, 0, 0), (10, .goto 4, 3, 14, 0, 0, 0), (13, .iconst 0, 1, 0, 0, 0, 0), (14, .ireturn, 1, 0, 0, 0, 0)]
def cd_106 : List (Nat × AI) := [(0, .iload_n 0, 1, 0, 0, 0, 0), (1, .iload_n 1, 1, 0, 0, 0, 0), (2, .if_icmp .lt 12, 3, 14, 0, 0, 0), (5, .iload_n 0, 1, 0, 0, 0, 0), (6, .iload_n 2, 1, 0, 0, 0, 0), (7, .if_icmp .gt 7, 3, 14, 0, 0, 0), (10, .iconst 1, 1, 0, 0, 0, 0), (11, .goto 4, 3, 15, 0, 0, 0), (14, .iconst 0, 1, 0, 0, 0, 0), (15, .ireturn, 1, 0, 0, 0, 0)]
def cd_107 : List (Nat × AI) := [(0, .iload_n 0, 1, 0, 0, 0, 0), (1, .iconst 0, 1, 0, 0, 0, 0), (2, .bipush 39, 2, 0, 0, 0, 0), (4, .invokestatic 84, 3, 106, 3, 928, 0), (7, .ifCond .eq 17, 3, 24, 0, 0, 0), (10, .iload_n 1, 1, 0, 0, 0, 0), (11, .iconst 0, 1, 0, 0, 0, 0), (12, .bipush 39, 2, 0, 0, 0, 0), (14, .invokestatic 84, 3, 106, 3, 928, 0), (17, .ifCond .eq 7, 3, 24, 0, 0, 0), (20, .iconst 1, 1, 0, 0, 0, 0), (21, .goto 4, 3, 25, 0, 0, 0), (24, .iconst 0, 1, 0, 0, 0, 0), (25, .ireturn, 1, 0, 0, 0, 0)]
def cd_108 : List (Nat × AI) := [(0, .iload_n 0, 1, 0, 0, 0, 0), (1, .iconst 0, 1, 0, 0, 0, 0), (2, .iconst 3, 1, 0, 0, 0, 0), (3, .invokestatic 84, 3, 106, 3, 928, 0), (6, .ireturn, 1, 0, 0, 0, 0)]
def cd_109 : List (Nat × AI) := [(0, .iload_n 0, 1, 0, 0, 0, 0), (1, .iconst 0, 1, 0, 0, 0, 0), (2, .iconst 3, 1, 0, 0, 0, 0), (3, .invokestatic 84, 3, 106, 3, 928, 0), (6, .ireturn, 1, 0, 0, 0, 0)]
def cd_110 : List (Nat × AI) := [(0, .iload_n 1, 1, 0, 0, 0, 0), (1, .iconst 0, 1, 0, 0, 0, 0), (2, .aload_n 0, 1, 0, 0, 0, 0), (3, .getfield 88, 3, 8, 8, 839, 0), (6, .iconst 1, 1, 0, 0, 0, 0), (7, .isub, 1, 0, 0, 0, 0), (8, .invokestatic 84, 3, 106, 3, 928, 0), (11, .ireturn, 1, 0, 0, 0, 0)]
def cd_111 : List (Nat × AI) := [(0, .iload_n 1, 1, 0, 0, 0, 0), (1, .iconst 0, 1, 0, 0, 0, 0), (2, .aload_n 0, 1, 0, 0, 0, 0), (3, .getfield 91, 3, 8, 13, 844, 0), (6, .iconst 1, 1, 0, 0, 0, 0), (7, .isub, 1, 0, 0, 0, 0), (8, .invokestatic 84, 3, 106, 3, 928, 0), (11, .ireturn, 1, 0, 0, 0, 0)]
def cd_112 : List (Nat × AI) := [(0, .iload_n 1, 1, 0, 0, 0, 0), (1, .iconst 0, 1, 0, 0, 0, 0), (2, .aload_n 0, 1, 0, 0, 0, 0), (3, .getfield 94, 3, 8, 22, 853, 0), (6, .iconst 1, 1, 0, 0, 0, 0), (7, .isub, 1, 0, 0, 0, 0), (8, .invokestatic 84, 3, 106, 3, 928, 0), (11, .ireturn, 1, 0, 0, 0, 0)]
def cd_113 : List (Nat × AI) := [(0, .iload_n 0, 1, 0, 0, 0, 0), (1, .iload_n 1, 1, 0, 0, 0, 0), (2, .ishr, 1, 0, 0, 0, 0), (3, .iconst 1, 1, 0, 0, 0, 0), (4, .iand, 1, 0, 0, 0, 0), (5, .iconst 1, 1, 0, 0, 0, 0), (6, .if_icmp .ne 7, 3, 13, 0, 0, 0), (9, .iconst 1, 1, 0, 0, 0, 0), (10, .goto 4, 3, 14, 0, 0, 0), (13, .iconst 0, 1, 0, 0, 0, 0), (14, .ireturn, 1, 0, 0, 0, 0)]
def cd_114_0 : List (Nat × AI) := [(0, .aload_n 0, 1, 0, 0, 0, 0), (1, .getfield 97, 3, 8, 3, 834, 0), (4, .ifCond .le 37, 3, 41, 0, 0, 0), (7, .aload_n 0, 1, 0, 0, 0, 0), (8, .getfield 7, 3, 8, 1, 832, 0), (11, .aload_n 0, 1, 0, 0, 0, 0), (12, .getfield 97, 3, 8, 3, 834, 0), (15, .iconst 1, 1, 0, 0, 0, 0), (16, .isub, 1, 0, 0, 0, 0), (17, .iaload, 1, 0, 0, 0, 0), (18, .iload_n 1, 1, 0, 0, 0, 0), (19, .if_icmp .ne 22, 3, 41, 0, 0, 0), (22, .aload_n 0, 1, 0, 0, 0, 0), (23, .getfield 13, 3, 8, 2, 833, 0), (26, .aload_n 0, 1, 0, 0, 0, 0), (27, .getfield 97, 3, 8, 3, 834, 0), (30, .iconst 1, 1, 0, 0, 0, 0), (31, .isub, 1, 0, 0, 0, 0), (32, .iaload, 1, 0, 0, 0, 0), (33, .iload_n 2, 1, 0, 0, 0, 0), (34, .if_icmp .ne 7, 3, 41, 0, 0, 0), (37, .iconst 1, 1, 0, 0, 0, 0), (38, .goto 4, 3, 42, 0, 0, 0), (41, .iconst 0, 1, 0, 0, 0, 0), (42, .istore_n 3, 1, 0, 0, 0, 0), (43, .aload_n 0, 1, 0, 0, 0, 0), (44, .iload_n 1, 1, 0, 0, 0, 0), (45, .iload_n 2, 1, 0, 0, 0, 0), (46, .invokestatic 100, 3, 107, 2, 925, 0), (49, .ifCond .ne 7, 3, 56, 0, 0, 0), (52, .iconst 1, 1, 0, 0, 0, 0), (53, .goto 21, 3, 74, 0, 0, 0), (56, .aload_n 0, 1, 0, 0, 0, 0), (57, .getfield 97, 3, 8, 3, 834, 0), (60, .bipush 8, 2, 0, 0, 0, 0), (62, .if_icmp .eq 7, 3, 69, 0, 0, 0), (65, .iload_n 3, 1, 0, 0, 0, 0), (66, .ifCond .eq 7, 3, 73, 0, 0, 0), (69, .iconst 2, 1, 0, 0, 0, 0), (70, .goto 4, 3, 74, 0, 0, 0), (73, .iconst 0, 1, 0, 0, 0, 0), (74, .invokevirtual 104, 3, 105, 2, 931, 0), (77, .ifCond .ne 5, 3, 82, 0, 0, 0), (80, .iconst 0, 1, 0, 0, 0, 0), (81, .ireturn, 1, 0, 0, 0, 0), (82, .aload_n 0, 1, 0, 0, 0, 0), (83, .getfield 7, 3, 8, 1, 832, 0), (86, .aload_n 0, 1, 0, 0, 0, 0), (87, .getfield 97, 3, 8, 3, 834, 0), (90, .iload_n 1, 1, 0, 0, 0, 0), (91, .iastore, 1, 0, 0, 0, 0), (92, .aload_n 0, 1, 0, 0, 0, 0), (93, .getfield 13, 3, 8, 2, 833, 0), (96, .aload_n 0, 1, 0, 0, 0, 0), (97, .getfield 97, 3, 8, 3, 834, 0), (100, .iload_n 2, 1, 0, 0, 0, 0), (101, .iastore, 1, 0, 0, 0, 0), (102, .aload_n 0, 1, 0, 0, 0, 0), (103, .dup, 1, 0, 0, 0, 0), (104, .getfield 97, 3, 8, 3, 834, 0)]
def cd_114_1 : List (Nat × AI) := [(107, .iconst 1, 1, 0, 0, 0, 0), (108, .iadd, 1, 0, 0, 0, 0), (109, .putfield 97, 3, 8, 3, 834, 0), (112, .aload_n 0, 1, 0, 0, 0, 0), (113, .getfield 97, 3, 8, 3, 834, 0), (116, .ireturn, 1, 0, 0, 0, 0)]
def cd_114 : List (Nat × AI) := cd_114_0 ++ (cd_114_1)
def cd_115_0 : List (Nat × AI) := [(0, .aload_n 0, 1, 0, 0, 0, 0), (1, .iload_n 1, 1, 0, 0, 0, 0), (2, .invokestatic 108, 3, 108, 1, 939, 0), (5, .ifCond .ne 7, 3, 12, 0, 0, 0), (8, .iconst 1, 1, 0, 0, 0, 0), (9, .goto 25, 3, 34, 0, 0, 0), (12, .aload_n 0, 1, 0, 0, 0, 0), (13, .getfield 97, 3, 8, 3, 834, 0), (16, .iconst 2, 1, 0, 0, 0, 0), (17, .if_icmp .lt 12, 3, 29, 0, 0, 0), (20, .aload_n 0, 1, 0, 0, 0, 0), (21, .getfield 88, 3, 8, 8, 839, 0), (24, .bipush 8, 2, 0, 0, 0, 0), (26, .if_icmp .ne 7, 3, 33, 0, 0, 0), (29, .iconst 2, 1, 0, 0, 0, 0), (30, .goto 4, 3, 34, 0, 0, 0), (33, .iconst 0, 1, 0, 0, 0, 0), (34, .invokevirtual 104, 3, 105, 2, 931, 0), (37, .ifCond .ne 5, 3, 42, 0, 0, 0), (40, .iconst 0, 1, 0, 0, 0, 0), (41, .ireturn, 1, 0, 0, 0, 0), (42, .iconst 0, 1, 0, 0, 0, 0), (43, .istore_n 2, 1, 0, 0, 0, 0), (44, .iload_n 2, 1, 0, 0, 0, 0), (45, .aload_n 0, 1, 0, 0, 0, 0), (46, .getfield 97, 3, 8, 3, 834, 0), (49, .if_icmp .ge 49, 3, 98, 0, 0, 0), (52, .aload_n 0, 1, 0, 0, 0, 0), (53, .getfield 16, 3, 8, 4, 835, 0), (56, .bipush 8, 2, 0, 0, 0, 0), (58, .aload_n 0, 1, 0, 0, 0, 0), (59, .getfield 88, 3, 8, 8, 839, 0), (62, .imul, 1, 0, 0, 0, 0), (63, .iload_n 2, 1, 0, 0, 0, 0), (64, .iadd, 1, 0, 0, 0, 0), (65, .aload_n 0, 1, 0, 0, 0, 0), (66, .getfield 7, 3, 8, 1, 832, 0), (69, .iload_n 2, 1, 0, 0, 0, 0), (70, .iaload, 1, 0, 0, 0, 0), (71, .iastore, 1, 0, 0, 0, 0), (72, .aload_n 0, 1, 0, 0, 0, 0), (73, .getfield 19, 3, 8, 5, 836, 0), (76, .bipush 8, 2, 0, 0, 0, 0), (78, .aload_n 0, 1, 0, 0, 0, 0), (79, .getfield 88, 3, 8, 8, 839, 0), (82, .imul, 1, 0, 0, 0, 0), (83, .iload_n 2, 1, 0, 0, 0, 0), (84, .iadd, 1, 0, 0, 0, 0), (85, .aload_n 0, 1, 0, 0, 0, 0), (86, .getfield 13, 3, 8, 2, 833, 0), (89, .iload_n 2, 1, 0, 0, 0, 0), (90, .iaload, 1, 0, 0, 0, 0), (91, .iastore, 1, 0, 0, 0, 0), (92, .iinc 2 1, 3, 0, 0, 0, 0), (95, .goto (-51), 3, 44, 0, 0, 0), (98, .aload_n 0, 1, 0, 0, 0, 0), (99, .getfield 22, 3, 8, 6, 837, 0), (102, .aload_n 0, 1, 0, 0, 0, 0), (103, .getfield 88, 3, 8, 8, 839, 0), (106, .aload_n 0, 1, 0, 0, 0, 0)]
def cd_115_1 : List (Nat × AI) := [(107, .getfield 97, 3, 8, 3, 834, 0), (110, .iastore, 1, 0, 0, 0, 0), (111, .aload_n 0, 1, 0, 0, 0, 0), (112, .getfield 25, 3, 8, 7, 838, 0), (115, .aload_n 0, 1, 0, 0, 0, 0), (116, .getfield 88, 3, 8, 8, 839, 0), (119, .iload_n 1, 1, 0, 0, 0, 0), (120, .iastore, 1, 0, 0, 0, 0), (121, .aload_n 0, 1, 0, 0, 0, 0), (122, .iconst 0, 1, 0, 0, 0, 0), (123, .putfield 97, 3, 8, 3, 834, 0), (126, .aload_n 0, 1, 0, 0, 0, 0), (127, .dup, 1, 0, 0, 0, 0), (128, .getfield 88, 3, 8, 8, 839, 0), (131, .iconst 1, 1, 0, 0, 0, 0), (132, .iadd, 1, 0, 0, 0, 0), (133, .putfield 88, 3, 8, 8, 839, 0), (136, .aload_n 0, 1, 0, 0, 0, 0), (137, .getfield 88, 3, 8, 8, 839, 0), (140, .iconst 1, 1, 0, 0, 0, 0), (141, .isub, 1, 0, 0, 0, 0), (142, .ireturn, 1, 0, 0, 0, 0)]
def cd_115 : List (Nat × AI) := cd_115_0 ++ (cd_115_1)
def cd_116 : List (Nat × AI) := [(0, .aload_n 0, 1, 0, 0, 0, 0), (1, .getfield 16, 3, 8, 4, 835, 0), (4, .iload_n 1, 1, 0, 0, 0, 0), (5, .iaload, 1, 0, 0, 0, 0), (6, .iload_n 2, 1, 0, 0, 0, 0), (7, .if_icmp .ne 17, 3, 24, 0, 0, 0), (10, .aload_n 0, 1, 0, 0, 0, 0), (11, .getfield 19, 3, 8, 5, 836, 0), (14, .iload_n 1, 1, 0, 0, 0, 0), (15, .iaload, 1, 0, 0, 0, 0), (16, .iload_n 3, 1, 0, 0, 0, 0), (17, .if_icmp .ne 7, 3, 24, 0, 0, 0), (20, .iconst 1, 1, 0, 0, 0, 0), (21, .goto 4, 3, 25, 0, 0, 0), (24, .iconst 0, 1, 0, 0, 0, 0), (25, .ireturn, 1, 0, 0, 0, 0)]
def cd_117_0 : List (Nat × AI) := [(0, .aload_n 0, 1, 0, 0, 0, 0), (1, .iload_n 1, 1, 0, 0, 0, 0), (2, .invokevirtual 111, 3, 110, 2, 946, 0), (5, .ifCond .eq 23, 3, 28, 0, 0, 0), (8, .iload_n 2, 1, 0, 0, 0, 0), (9, .iconst 0, 1, 0, 0, 0, 0), (10, .aload_n 0, 1, 0, 0, 0, 0), (11, .getfield 22, 3, 8, 6, 837, 0), (14, .iload_n 1, 1, 0, 0, 0, 0), (15, .iaload, 1, 0, 0, 0, 0), (16, .iconst 1, 1, 0, 0, 0, 0), (17, .isub, 1, 0, 0, 0, 0), (18, .invokestatic 84, 3, 106, 3, 928, 0), (21, .ifCond .eq 7, 3, 28, 0, 0, 0), (24, .iconst 1, 1, 0, 0, 0, 0), (25, .goto 4, 3, 29, 0, 0, 0), (28, .iconst 0, 1, 0, 0, 0, 0), (29, .istore 5, 2, 0, 0, 0, 0), (31, .iload 5, 2, 0, 0, 0, 0), (33, .ifCond .eq 12, 3, 45, 0, 0, 0), (36, .bipush 8, 2, 0, 0, 0, 0), (38, .iload_n 1, 1, 0, 0, 0, 0), (39, .imul, 1, 0, 0, 0, 0), (40, .iload_n 2, 1, 0, 0, 0, 0), (41, .iadd, 1, 0, 0, 0, 0), (42, .goto 4, 3, 46, 0, 0, 0), (45, .iconst 0, 1, 0, 0, 0, 0), (46, .istore 6, 2, 0, 0, 0, 0), (48, .iload 5, 2, 0, 0, 0, 0), (50, .ifCond .eq 25, 3, 75, 0, 0, 0), (53, .iload_n 2, 1, 0, 0, 0, 0), (54, .ifCond .le 21, 3, 75, 0, 0, 0), (57, .aload_n 0, 1, 0, 0, 0, 0), (58, .iload 6, 2, 0, 0, 0, 0), (60, .iconst 1, 1, 0, 0, 0, 0), (61, .isub, 1, 0, 0, 0, 0), (62, .iload_n 3, 1, 0, 0, 0, 0), (63, .iload 4, 2, 0, 0, 0, 0), (65, .invokevirtual 114, 3, 116, 4, 950, 0), (68, .ifCond .eq 7, 3, 75, 0, 0, 0), (71, .iconst 1, 1, 0, 0, 0, 0), (72, .goto 4, 3, 76, 0, 0, 0), (75, .iconst 0, 1, 0, 0, 0, 0), (76, .istore 7, 2, 0, 0, 0, 0), (78, .iload 5, 2, 0, 0, 0, 0), (80, .ifCond .eq 33, 3, 113, 0, 0, 0), (83, .iload_n 2, 1, 0, 0, 0, 0), (84, .aload_n 0, 1, 0, 0, 0, 0), (85, .getfield 22, 3, 8, 6, 837, 0), (88, .iload_n 1, 1, 0, 0, 0, 0), (89, .iaload, 1, 0, 0, 0, 0), (90, .iconst 1, 1, 0, 0, 0, 0), (91, .isub, 1, 0, 0, 0, 0), (92, .if_icmp .ge 21, 3, 113, 0, 0, 0), (95, .aload_n 0, 1, 0, 0, 0, 0), (96, .iload 6, 2, 0, 0, 0, 0), (98, .iconst 1, 1, 0, 0, 0, 0), (99, .iadd, 1, 0, 0, 0, 0), (100, .iload_n 3, 1, 0, 0, 0, 0), (101, .iload 4, 2, 0, 0, 0, 0)]
def cd_117_1 : List (Nat × AI) := [(103, .invokevirtual 114, 3, 116, 4, 950, 0), (106, .ifCond .eq 7, 3, 113, 0, 0, 0), (109, .iconst 1, 1, 0, 0, 0, 0), (110, .goto 4, 3, 114, 0, 0, 0), (113, .iconst 0, 1, 0, 0, 0, 0), (114, .istore 8, 2, 0, 0, 0, 0), (116, .aload_n 0, 1, 0, 0, 0, 0), (117, .iload 5, 2, 0, 0, 0, 0), (119, .ifCond .ne 7, 3, 126, 0, 0, 0), (122, .iconst 1, 1, 0, 0, 0, 0), (123, .goto 31, 3, 154, 0, 0, 0), (126, .iload_n 3, 1, 0, 0, 0, 0), (127, .iload 4, 2, 0, 0, 0, 0), (129, .invokestatic 100, 3, 107, 2, 925, 0), (132, .ifCond .ne 7, 3, 139, 0, 0, 0), (135, .iconst 2, 1, 0, 0, 0, 0), (136, .goto 18, 3, 154, 0, 0, 0), (139, .iload 7, 2, 0, 0, 0, 0), (141, .ifCond .ne 8, 3, 149, 0, 0, 0), (144, .iload 8, 2, 0, 0, 0, 0), (146, .ifCond .eq 7, 3, 153, 0, 0, 0), (149, .iconst 3, 1, 0, 0, 0, 0), (150, .goto 4, 3, 154, 0, 0, 0), (153, .iconst 0, 1, 0, 0, 0, 0), (154, .invokevirtual 104, 3, 105, 2, 931, 0), (157, .ifCond .ne 5, 3, 162, 0, 0, 0), (160, .iconst 0, 1, 0, 0, 0, 0), (161, .ireturn, 1, 0, 0, 0, 0), (162, .aload_n 0, 1, 0, 0, 0, 0), (163, .getfield 16, 3, 8, 4, 835, 0), (166, .iload 6, 2, 0, 0, 0, 0), (168, .iload_n 3, 1, 0, 0, 0, 0), (169, .iastore, 1, 0, 0, 0, 0), (170, .aload_n 0, 1, 0, 0, 0, 0), (171, .getfield 19, 3, 8, 5, 836, 0), (174, .iload 6, 2, 0, 0, 0, 0), (176, .iload 4, 2, 0, 0, 0, 0), (178, .iastore, 1, 0, 0, 0, 0), (179, .aload_n 0, 1, 0, 0, 0, 0), (180, .invokevirtual 117, 3, 145, 1, 954, 0), (183, .ireturn, 1, 0, 0, 0, 0)]
def cd_117 : List (Nat × AI) := cd_117_0 ++ (cd_117_1)
def cd_118_0 : List (Nat × AI) := [(0, .iload_n 1, 1, 0, 0, 0, 0), (1, .iload_n 2, 1, 0, 0, 0, 0), (2, .invokestatic 100, 3, 107, 2, 925, 0), (5, .ifCond .eq 25, 3, 30, 0, 0, 0), (8, .iload_n 3, 1, 0, 0, 0, 0), (9, .iconst 1, 1, 0, 0, 0, 0), (10, .bipush 8, 2, 0, 0, 0, 0), (12, .invokestatic 84, 3, 106, 3, 928, 0), (15, .ifCond .eq 15, 3, 30, 0, 0, 0), (18, .iload 4, 2, 0, 0, 0, 0), (20, .invokestatic 108, 3, 108, 1, 939, 0), (23, .ifCond .eq 7, 3, 30, 0, 0, 0), (26, .iconst 1, 1, 0, 0, 0, 0), (27, .goto 4, 3, 31, 0, 0, 0), (30, .iconst 0, 1, 0, 0, 0, 0), (31, .istore 5, 2, 0, 0, 0, 0), (33, .aload_n 0, 1, 0, 0, 0, 0), (34, .iload 5, 2, 0, 0, 0, 0), (36, .ifCond .ne 7, 3, 43, 0, 0, 0), (39, .iconst 1, 1, 0, 0, 0, 0), (40, .goto 17, 3, 57, 0, 0, 0), (43, .aload_n 0, 1, 0, 0, 0, 0), (44, .getfield 91, 3, 8, 13, 844, 0), (47, .bipush 10, 2, 0, 0, 0, 0), (49, .if_icmp .ne 7, 3, 56, 0, 0, 0), (52, .iconst 2, 1, 0, 0, 0, 0), (53, .goto 4, 3, 57, 0, 0, 0), (56, .iconst 0, 1, 0, 0, 0, 0), (57, .invokevirtual 104, 3, 105, 2, 931, 0), (60, .ifCond .ne 5, 3, 65, 0, 0, 0), (63, .iconst 0, 1, 0, 0, 0, 0), (64, .ireturn, 1, 0, 0, 0, 0), (65, .aload_n 0, 1, 0, 0, 0, 0), (66, .getfield 28, 3, 8, 9, 840, 0), (69, .aload_n 0, 1, 0, 0, 0, 0), (70, .getfield 91, 3, 8, 13, 844, 0), (73, .iload_n 1, 1, 0, 0, 0, 0), (74, .iastore, 1, 0, 0, 0, 0), (75, .aload_n 0, 1, 0, 0, 0, 0), (76, .getfield 31, 3, 8, 10, 841, 0), (79, .aload_n 0, 1, 0, 0, 0, 0), (80, .getfield 91, 3, 8, 13, 844, 0), (83, .iload_n 2, 1, 0, 0, 0, 0), (84, .iastore, 1, 0, 0, 0, 0), (85, .aload_n 0, 1, 0, 0, 0, 0), (86, .getfield 34, 3, 8, 11, 842, 0), (89, .aload_n 0, 1, 0, 0, 0, 0), (90, .getfield 91, 3, 8, 13, 844, 0), (93, .iload_n 3, 1, 0, 0, 0, 0), (94, .iastore, 1, 0, 0, 0, 0), (95, .aload_n 0, 1, 0, 0, 0, 0), (96, .getfield 37, 3, 8, 12, 843, 0), (99, .aload_n 0, 1, 0, 0, 0, 0), (100, .getfield 91, 3, 8, 13, 844, 0), (103, .iload 4, 2, 0, 0, 0, 0), (105, .iastore, 1, 0, 0, 0, 0), (106, .aload_n 0, 1, 0, 0, 0, 0), (107, .dup, 1, 0, 0, 0, 0), (108, .getfield 91, 3, 8, 13, 844, 0), (111, .iconst 1, 1, 0, 0, 0, 0)]
def cd_118_1 : List (Nat × AI) := [(112, .iadd, 1, 0, 0, 0, 0), (113, .putfield 91, 3, 8, 13, 844, 0), (116, .aload_n 0, 1, 0, 0, 0, 0), (117, .getfield 91, 3, 8, 13, 844, 0), (120, .iconst 1, 1, 0, 0, 0, 0), (121, .isub, 1, 0, 0, 0, 0), (122, .ireturn, 1, 0, 0, 0, 0)]
def cd_118 : List (Nat × AI) := cd_118_0 ++ (cd_118_1)
def cd_119 : List (Nat × AI) := [(0, .aload_n 0, 1, 0, 0, 0, 0), (1, .aload_n 0, 1, 0, 0, 0, 0), (2, .iload_n 1, 1, 0, 0, 0, 0), (3, .invokevirtual 121, 3, 111, 2, 1032, 0), (6, .ifCond .ne 7, 3, 13, 0, 0, 0), (9, .iconst 1, 1, 0, 0, 0, 0), (10, .goto 16, 3, 26, 0, 0, 0), (13, .iload_n 2, 1, 0, 0, 0, 0), (14, .iload_n 3, 1, 0, 0, 0, 0), (15, .invokestatic 100, 3, 107, 2, 925, 0), (18, .ifCond .ne 7, 3, 25, 0, 0, 0), (21, .iconst 2, 1, 0, 0, 0, 0), (22, .goto 4, 3, 26, 0, 0, 0), (25, .iconst 0, 1, 0, 0, 0, 0), (26, .invokevirtual 104, 3, 105, 2, 931, 0), (29, .ifCond .ne 5, 3, 34, 0, 0, 0), (32, .iconst 0, 1, 0, 0, 0, 0), (33, .ireturn, 1, 0, 0, 0, 0), (34, .aload_n 0, 1, 0, 0, 0, 0), (35, .getfield 28, 3, 8, 9, 840, 0), (38, .iload_n 1, 1, 0, 0, 0, 0), (39, .iload_n 2, 1, 0, 0, 0, 0), (40, .iastore, 1, 0, 0, 0, 0), (41, .aload_n 0, 1, 0, 0, 0, 0), (42, .getfield 31, 3, 8, 10, 841, 0), (45, .iload_n 1, 1, 0, 0, 0, 0), (46, .iload_n 3, 1, 0, 0, 0, 0), (47, .iastore, 1, 0, 0, 0, 0), (48, .aload_n 0, 1, 0, 0, 0, 0), (49, .invokevirtual 117, 3, 145, 1, 954, 0), (52, .ireturn, 1, 0, 0, 0, 0)]
def cd_120 : List (Nat × AI) := [(0, .aload_n 0, 1, 0, 0, 0, 0), (1, .getfield 25, 3, 8, 7, 838, 0), (4, .iload_n 1, 1, 0, 0, 0, 0), (5, .iaload, 1, 0, 0, 0, 0), (6, .iload_n 2, 1, 0, 0, 0, 0), (7, .if_icmp .lt 7, 3, 14, 0, 0, 0), (10, .iconst 1, 1, 0, 0, 0, 0), (11, .goto 4, 3, 15, 0, 0, 0), (14, .iconst 0, 1, 0, 0, 0, 0), (15, .ireturn, 1, 0, 0, 0, 0)]
def cd_121 : List (Nat × AI) := [(0, .iconst 0, 1, 0, 0, 0, 0), (1, .istore 4, 2, 0, 0, 0, 0), (3, .iconst 0, 1, 0, 0, 0, 0), (4, .istore 5, 2, 0, 0, 0, 0), (6, .iload 5, 2, 0, 0, 0, 0), (8, .aload_n 0, 1, 0, 0, 0, 0), (9, .getfield 88, 3, 8, 8, 839, 0), (12, .if_icmp .ge 89, 3, 101, 0, 0, 0), (15, .bipush 8, 2, 0, 0, 0, 0), (17, .iload 5, 2, 0, 0, 0, 0), (19, .imul, 1, 0, 0, 0, 0), (20, .istore 6, 2, 0, 0, 0, 0), (22, .iload 6, 2, 0, 0, 0, 0), (24, .bipush 8, 2, 0, 0, 0, 0), (26, .iload 5, 2, 0, 0, 0, 0), (28, .imul, 1, 0, 0, 0, 0), (29, .aload_n 0, 1, 0, 0, 0, 0), (30, .getfield 22, 3, 8, 6, 837, 0), (33, .iload 5, 2, 0, 0, 0, 0), (35, .iaload, 1, 0, 0, 0, 0), (36, .iadd, 1, 0, 0, 0, 0), (37, .if_icmp .ge 58, 3, 95, 0, 0, 0), (40, .iload 4, 2, 0, 0, 0, 0), (42, .ifCond .ne 40, 3, 82, 0, 0, 0), (45, .iload 5, 2, 0, 0, 0, 0), (47, .iload_n 1, 1, 0, 0, 0, 0), (48, .if_icmp .eq 38, 3, 86, 0, 0, 0), (51, .aload_n 0, 1, 0, 0, 0, 0), (52, .iload 5, 2, 0, 0, 0, 0), (54, .iload_n 3, 1, 0, 0, 0, 0), (55, .invokevirtual 124, 3, 120, 3, 1002, 0), (58, .ifCond .eq 28, 3, 86, 0, 0, 0), (61, .aload_n 0, 1, 0, 0, 0, 0), (62, .iload 6, 2, 0, 0, 0, 0), (64, .aload_n 0, 1, 0, 0, 0, 0), (65, .getfield 16, 3, 8, 4, 835, 0), (68, .iload_n 2, 1, 0, 0, 0, 0), (69, .iaload, 1, 0, 0, 0, 0), (70, .aload_n 0, 1, 0, 0, 0, 0), (71, .getfield 19, 3, 8, 5, 836, 0), (74, .iload_n 2, 1, 0, 0, 0, 0), (75, .iaload, 1, 0, 0, 0, 0), (76, .invokevirtual 114, 3, 116, 4, 950, 0), (79, .ifCond .eq 7, 3, 86, 0, 0, 0), (82, .iconst 1, 1, 0, 0, 0, 0), (83, .goto 4, 3, 87, 0, 0, 0), (86, .iconst 0, 1, 0, 0, 0, 0), (87, .istore 4, 2, 0, 0, 0, 0), (89, .iinc 6 1, 3, 0, 0, 0, 0), (92, .goto (-70), 3, 22, 0, 0, 0), (95, .iinc 5 1, 3, 0, 0, 0, 0), (98, .goto (-92), 3, 6, 0, 0, 0), (101, .iload 4, 2, 0, 0, 0, 0), (103, .ireturn, 1, 0, 0, 0, 0)]
def cd_122 : List (Nat × AI) := [(0, .aload_n 0, 1, 0, 0, 0, 0), (1, .getfield 16, 3, 8, 4, 835, 0), (4, .iload_n 3, 1, 0, 0, 0, 0), (5, .iaload, 1, 0, 0, 0, 0), (6, .aload_n 0, 1, 0, 0, 0, 0), (7, .getfield 16, 3, 8, 4, 835, 0), (10, .iload_n 1, 1, 0, 0, 0, 0), (11, .iaload, 1, 0, 0, 0, 0), (12, .isub, 1, 0, 0, 0, 0), (13, .aload_n 0, 1, 0, 0, 0, 0), (14, .getfield 19, 3, 8, 5, 836, 0), (17, .iload_n 2, 1, 0, 0, 0, 0), (18, .iaload, 1, 0, 0, 0, 0), (19, .aload_n 0, 1, 0, 0, 0, 0), (20, .getfield 19, 3, 8, 5, 836, 0), (23, .iload_n 1, 1, 0, 0, 0, 0), (24, .iaload, 1, 0, 0, 0, 0), (25, .isub, 1, 0, 0, 0, 0), (26, .imul, 1, 0, 0, 0, 0), (27, .aload_n 0, 1, 0, 0, 0, 0), (28, .getfield 19, 3, 8, 5, 836, 0), (31, .iload_n 3, 1, 0, 0, 0, 0), (32, .iaload, 1, 0, 0, 0, 0), (33, .aload_n 0, 1, 0, 0, 0, 0), (34, .getfield 19, 3, 8, 5, 836, 0), (37, .iload_n 1, 1, 0, 0, 0, 0), (38, .iaload, 1, 0, 0, 0, 0), (39, .isub, 1, 0, 0, 0, 0), (40, .aload_n 0, 1, 0, 0, 0, 0), (41, .getfield 16, 3, 8, 4, 835, 0), (44, .iload_n 2, 1, 0, 0, 0, 0), (45, .iaload, 1, 0, 0, 0, 0), (46, .aload_n 0, 1, 0, 0, 0, 0), (47, .getfield 16, 3, 8, 4, 835, 0), (50, .iload_n 1, 1, 0, 0, 0, 0), (51, .iaload, 1, 0, 0, 0, 0), (52, .isub, 1, 0, 0, 0, 0), (53, .imul, 1, 0, 0, 0, 0), (54, .isub, 1, 0, 0, 0, 0), (55, .istore 4, 2, 0, 0, 0, 0), (57, .iload 4, 2, 0, 0, 0, 0), (59, .ifCond .ge 9, 3, 68, 0, 0, 0), (62, .iload 4, 2, 0, 0, 0, 0), (64, .ineg, 1, 0, 0, 0, 0), (65, .goto 5, 3, 70, 0, 0, 0), (68, .iload 4, 2, 0, 0, 0, 0), (70, .ireturn, 1, 0, 0, 0, 0)]
def cd_123_0 : List (Nat × AI) := [(0, .iconst (-1), 1, 0, 0, 0, 0), (1, .istore 4, 2, 0, 0, 0, 0), (3, .bipush 20, 2, 0, 0, 0, 0), (5, .iload_n 2, 1, 0, 0, 0, 0), (6, .imul, 1, 0, 0, 0, 0), (7, .istore 5, 2, 0, 0, 0, 0), (9, .iconst 1, 1, 0, 0, 0, 0), (10, .istore 6, 2, 0, 0, 0, 0), (12, .iload 6, 2, 0, 0, 0, 0), (14, .aload_n 0, 1, 0, 0, 0, 0), (15, .getfield 22, 3, 8, 6, 837, 0), (18, .iload_n 1, 1, 0, 0, 0, 0), (19, .iaload, 1, 0, 0, 0, 0), (20, .iconst 1, 1, 0, 0, 0, 0), (21, .isub, 1, 0, 0, 0, 0), (22, .if_icmp .ge 118, 3, 140, 0, 0, 0), (25, .iload 6, 2, 0, 0, 0, 0), (27, .iconst 1, 1, 0, 0, 0, 0), (28, .isub, 1, 0, 0, 0, 0), (29, .istore 7, 2, 0, 0, 0, 0), (31, .iload_n 3, 1, 0, 0, 0, 0), (32, .iload 7, 2, 0, 0, 0, 0), (34, .invokestatic 127, 3, 113, 2, 1010, 0), (37, .ifCond .ne 9, 3, 46, 0, 0, 0), (40, .iinc 7 (-1), 3, 0, 0, 0, 0), (43, .goto (-12), 3, 31, 0, 0, 0), (46, .iload 6, 2, 0, 0, 0, 0), (48, .iconst 1, 1, 0, 0, 0, 0), (49, .iadd, 1, 0, 0, 0, 0), (50, .istore 8, 2, 0, 0, 0, 0), (52, .iload_n 3, 1, 0, 0, 0, 0), (53, .iload 8, 2, 0, 0, 0, 0), (55, .invokestatic 127, 3, 113, 2, 1010, 0), (58, .ifCond .ne 9, 3, 67, 0, 0, 0), (61, .iinc 8 1, 3, 0, 0, 0, 0), (64, .goto (-12), 3, 52, 0, 0, 0), (67, .aload_n 0, 1, 0, 0, 0, 0), (68, .bipush 8, 2, 0, 0, 0, 0), (70, .iload_n 1, 1, 0, 0, 0, 0), (71, .imul, 1, 0, 0, 0, 0), (72, .iload 6, 2, 0, 0, 0, 0), (74, .iadd, 1, 0, 0, 0, 0), (75, .bipush 8, 2, 0, 0, 0, 0), (77, .iload_n 1, 1, 0, 0, 0, 0), (78, .imul, 1, 0, 0, 0, 0), (79, .iload 7, 2, 0, 0, 0, 0), (81, .iadd, 1, 0, 0, 0, 0), (82, .bipush 8, 2, 0, 0, 0, 0), (84, .iload_n 1, 1, 0, 0, 0, 0), (85, .imul, 1, 0, 0, 0, 0), (86, .iload 8, 2, 0, 0, 0, 0), (88, .iadd, 1, 0, 0, 0, 0), (89, .invokevirtual 130, 3, 122, 4, 1013, 0), (92, .istore 9, 2, 0, 0, 0, 0), (94, .iload_n 3, 1, 0, 0, 0, 0), (95, .iload 6, 2, 0, 0, 0, 0), (97, .invokestatic 127, 3, 113, 2, 1010, 0), (100, .ifCond .eq 34, 3, 134, 0, 0, 0), (103, .iload 9, 2, 0, 0, 0, 0), (105, .iload 5, 2, 0, 0, 0, 0)]
def cd_123_1 : List (Nat × AI) := [(107, .if_icmp .ge 27, 3, 134, 0, 0, 0), (110, .aload_n 0, 1, 0, 0, 0, 0), (111, .iload_n 1, 1, 0, 0, 0, 0), (112, .bipush 8, 2, 0, 0, 0, 0), (114, .iload_n 1, 1, 0, 0, 0, 0), (115, .imul, 1, 0, 0, 0, 0), (116, .iload 6, 2, 0, 0, 0, 0), (118, .iadd, 1, 0, 0, 0, 0), (119, .iload_n 2, 1, 0, 0, 0, 0), (120, .invokevirtual 134, 3, 121, 4, 1017, 0), (123, .ifCond .ne 11, 3, 134, 0, 0, 0), (126, .iload 6, 2, 0, 0, 0, 0), (128, .istore 4, 2, 0, 0, 0, 0), (130, .iload 9, 2, 0, 0, 0, 0), (132, .istore 5, 2, 0, 0, 0, 0), (134, .iinc 6 1, 3, 0, 0, 0, 0), (137, .goto (-125), 3, 12, 0, 0, 0), (140, .iload 4, 2, 0, 0, 0, 0), (142, .ireturn, 1, 0, 0, 0, 0)]
def cd_123 : List (Nat × AI) := cd_123_0 ++ (cd_123_1)
def cd_124 : List (Nat × AI) := [(0, .aload_n 0, 1, 0, 0, 0, 0), (1, .iload_n 1, 1, 0, 0, 0, 0), (2, .iload_n 2, 1, 0, 0, 0, 0), (3, .invokevirtual 124, 3, 120, 3, 1002, 0), (6, .ifCond .ne 5, 3, 11, 0, 0, 0), (9, .iconst 0, 1, 0, 0, 0, 0), (10, .ireturn, 1, 0, 0, 0, 0), (11, .iconst 1, 1, 0, 0, 0, 0), (12, .aload_n 0, 1, 0, 0, 0, 0), (13, .getfield 22, 3, 8, 6, 837, 0), (16, .iload_n 1, 1, 0, 0, 0, 0), (17, .iaload, 1, 0, 0, 0, 0), (18, .ishl, 1, 0, 0, 0, 0), (19, .iconst 1, 1, 0, 0, 0, 0), (20, .isub, 1, 0, 0, 0, 0), (21, .istore_n 3, 1, 0, 0, 0, 0), (22, .aload_n 0, 1, 0, 0, 0, 0), (23, .iload_n 1, 1, 0, 0, 0, 0), (24, .iload_n 2, 1, 0, 0, 0, 0), (25, .iload_n 3, 1, 0, 0, 0, 0), (26, .invokevirtual 137, 3, 123, 4, 1006, 0), (29, .istore 4, 2, 0, 0, 0, 0), (31, .iload 4, 2, 0, 0, 0, 0), (33, .iconst (-1), 1, 0, 0, 0, 0), (34, .if_icmp .eq 22, 3, 56, 0, 0, 0), (37, .iload_n 3, 1, 0, 0, 0, 0), (38, .iconst 1, 1, 0, 0, 0, 0), (39, .iload 4, 2, 0, 0, 0, 0), (41, .ishl, 1, 0, 0, 0, 0), (42, .isub, 1, 0, 0, 0, 0), (43, .istore_n 3, 1, 0, 0, 0, 0), (44, .aload_n 0, 1, 0, 0, 0, 0), (45, .iload_n 1, 1, 0, 0, 0, 0), (46, .iload_n 2, 1, 0, 0, 0, 0), (47, .iload_n 3, 1, 0, 0, 0, 0), (48, .invokevirtual 137, 3, 123, 4, 1006, 0), (51, .istore 4, 2, 0, 0, 0, 0), (53, .goto (-22), 3, 31, 0, 0, 0), (56, .iload_n 3, 1, 0, 0, 0, 0), (57, .ireturn, 1, 0, 0, 0, 0)]
def cd_125 : List (Nat × AI) := [(0, .iconst 0, 1, 0, 0, 0, 0), (1, .istore_n 1, 1, 0, 0, 0, 0), (2, .iconst 0, 1, 0, 0, 0, 0), (3, .istore_n 2, 1, 0, 0, 0, 0), (4, .iload_n 2, 1, 0, 0, 0, 0), (5, .bipush 8, 2, 0, 0, 0, 0), (7, .if_icmp .ge 25, 3, 32, 0, 0, 0), (10, .iload_n 1, 1, 0, 0, 0, 0), (11, .iload_n 0, 1, 0, 0, 0, 0), (12, .iload_n 2, 1, 0, 0, 0, 0), (13, .invokestatic 127, 3, 113, 2, 1010, 0), (16, .ifCond .eq 7, 3, 23, 0, 0, 0), (19, .iconst 1, 1, 0, 0, 0, 0), (20, .goto 4, 3, 24, 0, 0, 0), (23, .iconst 0, 1, 0, 0, 0, 0), (24, .iadd, 1, 0, 0, 0, 0), (25, .istore_n 1, 1, 0, 0, 0, 0), (26, .iinc 2 1, 3, 0, 0, 0, 0), (29, .goto (-25), 3, 4, 0, 0, 0), (32, .iload_n 1, 1, 0, 0, 0, 0), (33, .ireturn, 1, 0, 0, 0, 0)]
def cd_126 : List (Nat × AI) := [(0, .aload_n 0, 1, 0, 0, 0, 0), (1, .aload_n 0, 1, 0, 0, 0, 0), (2, .iload_n 1, 1, 0, 0, 0, 0), (3, .invokevirtual 111, 3, 110, 2, 946, 0), (6, .ifCond .eq 14, 3, 20, 0, 0, 0), (9, .iload_n 2, 1, 0, 0, 0, 0), (10, .invokestatic 140, 3, 109, 1, 1040, 0), (13, .ifCond .eq 7, 3, 20, 0, 0, 0), (16, .iconst 0, 1, 0, 0, 0, 0), (17, .goto 4, 3, 21, 0, 0, 0), (20, .iconst 1, 1, 0, 0, 0, 0), (21, .invokevirtual 104, 3, 105, 2, 931, 0), (24, .ifCond .eq 15, 3, 39, 0, 0, 0), (27, .aload_n 0, 1, 0, 0, 0, 0), (28, .iload_n 1, 1, 0, 0, 0, 0), (29, .iload_n 2, 1, 0, 0, 0, 0), (30, .invokevirtual 143, 3, 124, 3, 998, 0), (33, .invokestatic 147, 3, 125, 1, 1021, 0), (36, .goto 4, 3, 40, 0, 0, 0), (39, .iconst 0, 1, 0, 0, 0, 0), (40, .ireturn, 1, 0, 0, 0, 0)]
def cd_127 : List (Nat × AI) := [(0, .aload_n 0, 1, 0, 0, 0, 0), (1, .aload_n 0, 1, 0, 0, 0, 0), (2, .iload_n 1, 1, 0, 0, 0, 0), (3, .invokevirtual 111, 3, 110, 2, 946, 0), (6, .ifCond .eq 14, 3, 20, 0, 0, 0), (9, .iload_n 2, 1, 0, 0, 0, 0), (10, .invokestatic 140, 3, 109, 1, 1040, 0), (13, .ifCond .eq 7, 3, 20, 0, 0, 0), (16, .iconst 0, 1, 0, 0, 0, 0), (17, .goto 4, 3, 21, 0, 0, 0), (20, .iconst 1, 1, 0, 0, 0, 0), (21, .invokevirtual 104, 3, 105, 2, 931, 0), (24, .ifCond .eq 12, 3, 36, 0, 0, 0), (27, .aload_n 0, 1, 0, 0, 0, 0), (28, .iload_n 1, 1, 0, 0, 0, 0), (29, .iload_n 2, 1, 0, 0, 0, 0), (30, .invokevirtual 143, 3, 124, 3, 998, 0), (33, .goto 4, 3, 37, 0, 0, 0), (36, .iconst 0, 1, 0, 0, 0, 0), (37, .ireturn, 1, 0, 0, 0, 0)]
def cd_128_0 : List (Nat × AI) := [(0, .aload_n 0, 1, 0, 0, 0, 0), (1, .iload_n 1, 1, 0, 0, 0, 0), (2, .iload_n 3, 1, 0, 0, 0, 0), (3, .invokevirtual 143, 3, 124, 3, 998, 0), (6, .istore 4, 2, 0, 0, 0, 0), (8, .aload_n 0, 1, 0, 0, 0, 0), (9, .iload_n 2, 1, 0, 0, 0, 0), (10, .iload_n 3, 1, 0, 0, 0, 0), (11, .invokevirtual 143, 3, 124, 3, 998, 0), (14, .istore 5, 2, 0, 0, 0, 0), (16, .iconst 0, 1, 0, 0, 0, 0), (17, .istore 6, 2, 0, 0, 0, 0), (19, .iconst 0, 1, 0, 0, 0, 0), (20, .istore 7, 2, 0, 0, 0, 0), (22, .iload 7, 2, 0, 0, 0, 0), (24, .bipush 8, 2, 0, 0, 0, 0), (26, .if_icmp .ge 95, 3, 121, 0, 0, 0), (29, .iconst 0, 1, 0, 0, 0, 0), (30, .istore 8, 2, 0, 0, 0, 0), (32, .iload 8, 2, 0, 0, 0, 0), (34, .bipush 8, 2, 0, 0, 0, 0), (36, .if_icmp .ge 79, 3, 115, 0, 0, 0), (39, .iload 6, 2, 0, 0, 0, 0), (41, .ifCond .ne 61, 3, 102, 0, 0, 0), (44, .iload 4, 2, 0, 0, 0, 0), (46, .iload 7, 2, 0, 0, 0, 0), (48, .invokestatic 127, 3, 113, 2, 1010, 0), (51, .ifCond .eq 55, 3, 106, 0, 0, 0), (54, .iload 5, 2, 0, 0, 0, 0), (56, .iload 8, 2, 0, 0, 0, 0), (58, .invokestatic 127, 3, 113, 2, 1010, 0), (61, .ifCond .eq 45, 3, 106, 0, 0, 0), (64, .aload_n 0, 1, 0, 0, 0, 0), (65, .bipush 8, 2, 0, 0, 0, 0), (67, .iload_n 1, 1, 0, 0, 0, 0), (68, .imul, 1, 0, 0, 0, 0), (69, .iload 7, 2, 0, 0, 0, 0), (71, .iadd, 1, 0, 0, 0, 0), (72, .aload_n 0, 1, 0, 0, 0, 0), (73, .getfield 16, 3, 8, 4, 835, 0), (76, .bipush 8, 2, 0, 0, 0, 0), (78, .iload_n 2, 1, 0, 0, 0, 0), (79, .imul, 1, 0, 0, 0, 0), (80, .iload 8, 2, 0, 0, 0, 0), (82, .iadd, 1, 0, 0, 0, 0), (83, .iaload, 1, 0, 0, 0, 0), (84, .aload_n 0, 1, 0, 0, 0, 0), (85, .getfield 19, 3, 8, 5, 836, 0), (88, .bipush 8, 2, 0, 0, 0, 0), (90, .iload_n 2, 1, 0, 0, 0, 0), (91, .imul, 1, 0, 0, 0, 0), (92, .iload 8, 2, 0, 0, 0, 0), (94, .iadd, 1, 0, 0, 0, 0), (95, .iaload, 1, 0, 0, 0, 0), (96, .invokevirtual 114, 3, 116, 4, 950, 0), (99, .ifCond .eq 7, 3, 106, 0, 0, 0), (102, .iconst 1, 1, 0, 0, 0, 0), (103, .goto 4, 3, 107, 0, 0, 0), (106, .iconst 0, 1, 0, 0, 0, 0), (107, .istore 6, 2, 0, 0, 0, 0)]
def cd_128_1 : List (Nat × AI) := [(109, .iinc 8 1, 3, 0, 0, 0, 0), (112, .goto (-80), 3, 32, 0, 0, 0), (115, .iinc 7 1, 3, 0, 0, 0, 0), (118, .goto (-96), 3, 22, 0, 0, 0), (121, .iload 6, 2, 0, 0, 0, 0), (123, .ireturn, 1, 0, 0, 0, 0)]
def cd_128 : List (Nat × AI) := cd_128_0 ++ (cd_128_1)
def cd_129 : List (Nat × AI) := [(0, .aload_n 0, 1, 0, 0, 0, 0), (1, .iload_n 1, 1, 0, 0, 0, 0), (2, .invokestatic 140, 3, 109, 1, 1040, 0), (5, .ifCond .eq 7, 3, 12, 0, 0, 0), (8, .iconst 0, 1, 0, 0, 0, 0), (9, .goto 4, 3, 13, 0, 0, 0), (12, .iconst 1, 1, 0, 0, 0, 0), (13, .invokevirtual 104, 3, 105, 2, 931, 0), (16, .ifCond .ne 5, 3, 21, 0, 0, 0), (19, .iconst 0, 1, 0, 0, 0, 0), (20, .ireturn, 1, 0, 0, 0, 0), (21, .iconst 0, 1, 0, 0, 0, 0), (22, .istore_n 2, 1, 0, 0, 0, 0), (23, .iconst 0, 1, 0, 0, 0, 0), (24, .istore_n 3, 1, 0, 0, 0, 0), (25, .iload_n 3, 1, 0, 0, 0, 0), (26, .aload_n 0, 1, 0, 0, 0, 0), (27, .getfield 88, 3, 8, 8, 839, 0), (30, .if_icmp .ge 48, 3, 78, 0, 0, 0), (33, .iload_n 3, 1, 0, 0, 0, 0), (34, .iconst 1, 1, 0, 0, 0, 0), (35, .iadd, 1, 0, 0, 0, 0), (36, .istore 4, 2, 0, 0, 0, 0), (38, .iload 4, 2, 0, 0, 0, 0), (40, .aload_n 0, 1, 0, 0, 0, 0), (41, .getfield 88, 3, 8, 8, 839, 0), (44, .if_icmp .ge 28, 3, 72, 0, 0, 0), (47, .iload_n 2, 1, 0, 0, 0, 0), (48, .aload_n 0, 1, 0, 0, 0, 0), (49, .iload_n 3, 1, 0, 0, 0, 0), (50, .iload 4, 2, 0, 0, 0, 0), (52, .iload_n 1, 1, 0, 0, 0, 0), (53, .invokevirtual 151, 3, 128, 4, 1055, 0), (56, .ifCond .eq 7, 3, 63, 0, 0, 0), (59, .iconst 1, 1, 0, 0, 0, 0), (60, .goto 4, 3, 64, 0, 0, 0), (63, .iconst 0, 1, 0, 0, 0, 0), (64, .iadd, 1, 0, 0, 0, 0), (65, .istore_n 2, 1, 0, 0, 0, 0), (66, .iinc 4 1, 3, 0, 0, 0, 0), (69, .goto (-31), 3, 38, 0, 0, 0), (72, .iinc 3 1, 3, 0, 0, 0, 0), (75, .goto (-50), 3, 25, 0, 0, 0), (78, .iload_n 2, 1, 0, 0, 0, 0), (79, .ireturn, 1, 0, 0, 0, 0)]
def cd_130 : List (Nat × AI) := [(0, .aload_n 0, 1, 0, 0, 0, 0), (1, .iload_n 1, 1, 0, 0, 0, 0), (2, .invokevirtual 154, 3, 129, 2, 1051, 0), (5, .ireturn, 1, 0, 0, 0, 0)]
def cd_131 : List (Nat × AI) := [(0, .aload_n 0, 1, 0, 0, 0, 0), (1, .iload_n 1, 1, 0, 0, 0, 0), (2, .invokevirtual 154, 3, 129, 2, 1051, 0), (5, .ireturn, 1, 0, 0, 0, 0)]
def cd_132_0 : List (Nat × AI) := [(0, .iload_n 2, 1, 0, 0, 0, 0), (1, .iload_n 3, 1, 0, 0, 0, 0), (2, .invokestatic 100, 3, 107, 2, 925, 0), (5, .ifCond .eq 40, 3, 45, 0, 0, 0), (8, .iload 4, 2, 0, 0, 0, 0), (10, .iload_n 2, 1, 0, 0, 0, 0), (11, .bipush 39, 2, 0, 0, 0, 0), (13, .invokestatic 84, 3, 106, 3, 928, 0), (16, .ifCond .eq 29, 3, 45, 0, 0, 0), (19, .iload 5, 2, 0, 0, 0, 0), (21, .iload_n 3, 1, 0, 0, 0, 0), (22, .bipush 39, 2, 0, 0, 0, 0), (24, .invokestatic 84, 3, 106, 3, 928, 0), (27, .ifCond .eq 18, 3, 45, 0, 0, 0), (30, .iload 6, 2, 0, 0, 0, 0), (32, .iconst (-1), 1, 0, 0, 0, 0), (33, .bipush 39, 2, 0, 0, 0, 0), (35, .invokestatic 84, 3, 106, 3, 928, 0), (38, .ifCond .eq 7, 3, 45, 0, 0, 0), (41, .iconst 1, 1, 0, 0, 0, 0), (42, .goto 4, 3, 46, 0, 0, 0), (45, .iconst 0, 1, 0, 0, 0, 0), (46, .istore 7, 2, 0, 0, 0, 0), (48, .aload_n 0, 1, 0, 0, 0, 0), (49, .iload_n 1, 1, 0, 0, 0, 0), (50, .invokestatic 140, 3, 109, 1, 1040, 0), (53, .ifCond .ne 7, 3, 60, 0, 0, 0), (56, .iconst 1, 1, 0, 0, 0, 0), (57, .goto 26, 3, 83, 0, 0, 0), (60, .iload 7, 2, 0, 0, 0, 0), (62, .ifCond .ne 7, 3, 69, 0, 0, 0), (65, .iconst 2, 1, 0, 0, 0, 0), (66, .goto 17, 3, 83, 0, 0, 0), (69, .aload_n 0, 1, 0, 0, 0, 0), (70, .getfield 94, 3, 8, 22, 853, 0), (73, .bipush 6, 2, 0, 0, 0, 0), (75, .if_icmp .ne 7, 3, 82, 0, 0, 0), (78, .iconst 3, 1, 0, 0, 0, 0), (79, .goto 4, 3, 83, 0, 0, 0), (82, .iconst 0, 1, 0, 0, 0, 0), (83, .invokevirtual 104, 3, 105, 2, 931, 0), (86, .ifCond .ne 5, 3, 91, 0, 0, 0), (89, .iconst 0, 1, 0, 0, 0, 0), (90, .ireturn, 1, 0, 0, 0, 0), (91, .aload_n 0, 1, 0, 0, 0, 0), (92, .getfield 40, 3, 8, 14, 845, 0), (95, .aload_n 0, 1, 0, 0, 0, 0), (96, .getfield 94, 3, 8, 22, 853, 0), (99, .iload_n 1, 1, 0, 0, 0, 0), (100, .iastore, 1, 0, 0, 0, 0), (101, .aload_n 0, 1, 0, 0, 0, 0), (102, .getfield 43, 3, 8, 15, 846, 0), (105, .aload_n 0, 1, 0, 0, 0, 0), (106, .getfield 94, 3, 8, 22, 853, 0), (109, .iload_n 2, 1, 0, 0, 0, 0), (110, .iastore, 1, 0, 0, 0, 0), (111, .aload_n 0, 1, 0, 0, 0, 0), (112, .getfield 46, 3, 8, 16, 847, 0), (115, .aload_n 0, 1, 0, 0, 0, 0), (116, .getfield 94, 3, 8, 22, 853, 0)]
def cd_132_1 : List (Nat × AI) := [(119, .iload_n 3, 1, 0, 0, 0, 0), (120, .iastore, 1, 0, 0, 0, 0), (121, .aload_n 0, 1, 0, 0, 0, 0), (122, .getfield 49, 3, 8, 17, 848, 0), (125, .aload_n 0, 1, 0, 0, 0, 0), (126, .getfield 94, 3, 8, 22, 853, 0), (129, .iload 4, 2, 0, 0, 0, 0), (131, .iastore, 1, 0, 0, 0, 0), (132, .aload_n 0, 1, 0, 0, 0, 0), (133, .getfield 52, 3, 8, 18, 849, 0), (136, .aload_n 0, 1, 0, 0, 0, 0), (137, .getfield 94, 3, 8, 22, 853, 0), (140, .iload 5, 2, 0, 0, 0, 0), (142, .iastore, 1, 0, 0, 0, 0), (143, .aload_n 0, 1, 0, 0, 0, 0), (144, .getfield 55, 3, 8, 19, 850, 0), (147, .aload_n 0, 1, 0, 0, 0, 0), (148, .getfield 94, 3, 8, 22, 853, 0), (151, .iload 6, 2, 0, 0, 0, 0), (153, .iastore, 1, 0, 0, 0, 0), (154, .aload_n 0, 1, 0, 0, 0, 0), (155, .dup, 1, 0, 0, 0, 0), (156, .getfield 94, 3, 8, 22, 853, 0), (159, .iconst 1, 1, 0, 0, 0, 0), (160, .iadd, 1, 0, 0, 0, 0), (161, .putfield 94, 3, 8, 22, 853, 0), (164, .aload_n 0, 1, 0, 0, 0, 0), (165, .getfield 94, 3, 8, 22, 853, 0), (168, .iconst 1, 1, 0, 0, 0, 0), (169, .isub, 1, 0, 0, 0, 0), (170, .ireturn, 1, 0, 0, 0, 0)]
def cd_132 : List (Nat × AI) := cd_132_0 ++ (cd_132_1)
def cd_133 : List (Nat × AI) := [(0, .iload_n 2, 1, 0, 0, 0, 0), (1, .aload_n 0, 1, 0, 0, 0, 0), (2, .getfield 43, 3, 8, 15, 846, 0), (5, .iload_n 1, 1, 0, 0, 0, 0), (6, .iaload, 1, 0, 0, 0, 0), (7, .aload_n 0, 1, 0, 0, 0, 0), (8, .getfield 49, 3, 8, 17, 848, 0), (11, .iload_n 1, 1, 0, 0, 0, 0), (12, .iaload, 1, 0, 0, 0, 0), (13, .invokestatic 84, 3, 106, 3, 928, 0), (16, .ifCond .eq 26, 3, 42, 0, 0, 0), (19, .iload_n 3, 1, 0, 0, 0, 0), (20, .aload_n 0, 1, 0, 0, 0, 0), (21, .getfield 46, 3, 8, 16, 847, 0), (24, .iload_n 1, 1, 0, 0, 0, 0), (25, .iaload, 1, 0, 0, 0, 0), (26, .aload_n 0, 1, 0, 0, 0, 0), (27, .getfield 52, 3, 8, 18, 849, 0), (30, .iload_n 1, 1, 0, 0, 0, 0), (31, .iaload, 1, 0, 0, 0, 0), (32, .invokestatic 84, 3, 106, 3, 928, 0), (35, .ifCond .eq 7, 3, 42, 0, 0, 0), (38, .iconst 1, 1, 0, 0, 0, 0), (39, .goto 4, 3, 43, 0, 0, 0), (42, .iconst 0, 1, 0, 0, 0, 0), (43, .ireturn, 1, 0, 0, 0, 0)]
def cd_134 : List (Nat × AI) := [(0, .iload_n 2, 1, 0, 0, 0, 0), (1, .ifCond .ne 14, 3, 15, 0, 0, 0), (4, .aload_n 0, 1, 0, 0, 0, 0), (5, .getfield 28, 3, 8, 9, 840, 0), (8, .iload_n 1, 1, 0, 0, 0, 0), (9, .iaload, 1, 0, 0, 0, 0), (10, .iconst 1, 1, 0, 0, 0, 0), (11, .iadd, 1, 0, 0, 0, 0), (12, .goto 30, 3, 42, 0, 0, 0), (15, .iload_n 2, 1, 0, 0, 0, 0), (16, .iconst 1, 1, 0, 0, 0, 0), (17, .if_icmp .ne 19, 3, 36, 0, 0, 0), (20, .aload_n 0, 1, 0, 0, 0, 0), (21, .getfield 28, 3, 8, 9, 840, 0), (24, .iload_n 1, 1, 0, 0, 0, 0), (25, .iaload, 1, 0, 0, 0, 0), (26, .aload_n 0, 1, 0, 0, 0, 0), (27, .getfield 34, 3, 8, 11, 842, 0), (30, .iload_n 1, 1, 0, 0, 0, 0), (31, .iaload, 1, 0, 0, 0, 0), (32, .isub, 1, 0, 0, 0, 0), (33, .goto 9, 3, 42, 0, 0, 0), (36, .aload_n 0, 1, 0, 0, 0, 0), (37, .getfield 28, 3, 8, 9, 840, 0), (40, .iload_n 1, 1, 0, 0, 0, 0), (41, .iaload, 1, 0, 0, 0, 0), (42, .ireturn, 1, 0, 0, 0, 0)]
def cd_135 : List (Nat × AI) := [(0, .iload_n 2, 1, 0, 0, 0, 0), (1, .iconst 2, 1, 0, 0, 0, 0), (2, .if_icmp .ne 14, 3, 16, 0, 0, 0), (5, .aload_n 0, 1, 0, 0, 0, 0), (6, .getfield 31, 3, 8, 10, 841, 0), (9, .iload_n 1, 1, 0, 0, 0, 0), (10, .iaload, 1, 0, 0, 0, 0), (11, .iconst 1, 1, 0, 0, 0, 0), (12, .iadd, 1, 0, 0, 0, 0), (13, .goto 25, 3, 38, 0, 0, 0), (16, .iload_n 2, 1, 0, 0, 0, 0), (17, .iconst 3, 1, 0, 0, 0, 0), (18, .if_icmp .ne 14, 3, 32, 0, 0, 0), (21, .aload_n 0, 1, 0, 0, 0, 0), (22, .getfield 31, 3, 8, 10, 841, 0), (25, .iload_n 1, 1, 0, 0, 0, 0), (26, .iaload, 1, 0, 0, 0, 0), (27, .iconst 1, 1, 0, 0, 0, 0), (28, .isub, 1, 0, 0, 0, 0), (29, .goto 9, 3, 38, 0, 0, 0), (32, .aload_n 0, 1, 0, 0, 0, 0), (33, .getfield 31, 3, 8, 10, 841, 0), (36, .iload_n 1, 1, 0, 0, 0, 0), (37, .iaload, 1, 0, 0, 0, 0), (38, .ireturn, 1, 0, 0, 0, 0)]
def cd_136 : List (Nat × AI) := [(0, .aload_n 0, 1, 0, 0, 0, 0), (1, .getfield 77, 3, 8, 27, 858, 0), (4, .iload_n 1, 1, 0, 0, 0, 0), (5, .iaload, 1, 0, 0, 0, 0), (6, .iconst (-1), 1, 0, 0, 0, 0), (7, .if_icmp .eq 54, 3, 61, 0, 0, 0), (10, .iload_n 3, 1, 0, 0, 0, 0), (11, .aload_n 0, 1, 0, 0, 0, 0), (12, .getfield 77, 3, 8, 27, 858, 0), (15, .iload_n 1, 1, 0, 0, 0, 0), (16, .iaload, 1, 0, 0, 0, 0), (17, .bipush 40, 2, 0, 0, 0, 0), (19, .idiv, 1, 0, 0, 0, 0), (20, .if_icmp .ne 41, 3, 61, 0, 0, 0), (23, .iload_n 2, 1, 0, 0, 0, 0), (24, .aload_n 0, 1, 0, 0, 0, 0), (25, .getfield 77, 3, 8, 27, 858, 0), (28, .iload_n 1, 1, 0, 0, 0, 0), (29, .iaload, 1, 0, 0, 0, 0), (30, .bipush 40, 2, 0, 0, 0, 0), (32, .irem, 1, 0, 0, 0, 0), (33, .aload_n 0, 1, 0, 0, 0, 0), (34, .getfield 77, 3, 8, 27, 858, 0), (37, .iload_n 1, 1, 0, 0, 0, 0), (38, .iaload, 1, 0, 0, 0, 0), (39, .bipush 40, 2, 0, 0, 0, 0), (41, .irem, 1, 0, 0, 0, 0), (42, .aload_n 0, 1, 0, 0, 0, 0), (43, .getfield 34, 3, 8, 11, 842, 0), (46, .iload_n 1, 1, 0, 0, 0, 0), (47, .iaload, 1, 0, 0, 0, 0), (48, .iadd, 1, 0, 0, 0, 0), (49, .iconst 1, 1, 0, 0, 0, 0), (50, .isub, 1, 0, 0, 0, 0), (51, .invokestatic 84, 3, 106, 3, 928, 0), (54, .ifCond .eq 7, 3, 61, 0, 0, 0), (57, .iconst 1, 1, 0, 0, 0, 0), (58, .goto 4, 3, 62, 0, 0, 0), (61, .iconst 0, 1, 0, 0, 0, 0), (62, .ireturn, 1, 0, 0, 0, 0)]
def cd_137_0 : List (Nat × AI) := [(0, .aload_n 0, 1, 0, 0, 0, 0), (1, .iload_n 2, 1, 0, 0, 0, 0), (2, .iload_n 3, 1, 0, 0, 0, 0), (3, .invokevirtual 157, 3, 134, 3, 978, 0), (6, .istore 4, 2, 0, 0, 0, 0), (8, .aload_n 0, 1, 0, 0, 0, 0), (9, .iload_n 2, 1, 0, 0, 0, 0), (10, .iload_n 3, 1, 0, 0, 0, 0), (11, .invokevirtual 160, 3, 135, 3, 982, 0), (14, .istore 5, 2, 0, 0, 0, 0), (16, .aload_n 0, 1, 0, 0, 0, 0), (17, .iload_n 1, 1, 0, 0, 0, 0), (18, .iload 4, 2, 0, 0, 0, 0), (20, .iload 5, 2, 0, 0, 0, 0), (22, .invokevirtual 163, 3, 133, 4, 966, 0), (25, .ifCond .eq 28, 3, 53, 0, 0, 0), (28, .aload_n 0, 1, 0, 0, 0, 0), (29, .iload_n 1, 1, 0, 0, 0, 0), (30, .iload 4, 2, 0, 0, 0, 0), (32, .aload_n 0, 1, 0, 0, 0, 0), (33, .getfield 34, 3, 8, 11, 842, 0), (36, .iload_n 2, 1, 0, 0, 0, 0), (37, .iaload, 1, 0, 0, 0, 0), (38, .iadd, 1, 0, 0, 0, 0), (39, .iconst 1, 1, 0, 0, 0, 0), (40, .isub, 1, 0, 0, 0, 0), (41, .iload 5, 2, 0, 0, 0, 0), (43, .invokevirtual 163, 3, 133, 4, 966, 0), (46, .ifCond .eq 7, 3, 53, 0, 0, 0), (49, .iconst 1, 1, 0, 0, 0, 0), (50, .goto 4, 3, 54, 0, 0, 0), (53, .iconst 0, 1, 0, 0, 0, 0), (54, .istore 6, 2, 0, 0, 0, 0), (56, .iload 4, 2, 0, 0, 0, 0), (58, .istore 7, 2, 0, 0, 0, 0), (60, .iload 7, 2, 0, 0, 0, 0), (62, .iload 4, 2, 0, 0, 0, 0), (64, .aload_n 0, 1, 0, 0, 0, 0), (65, .getfield 34, 3, 8, 11, 842, 0), (68, .iload_n 2, 1, 0, 0, 0, 0), (69, .iaload, 1, 0, 0, 0, 0), (70, .iadd, 1, 0, 0, 0, 0), (71, .if_icmp .ge 75, 3, 146, 0, 0, 0), (74, .iload 6, 2, 0, 0, 0, 0), (76, .ifCond .eq 18, 3, 94, 0, 0, 0), (79, .iload 7, 2, 0, 0, 0, 0), (81, .aload_n 0, 1, 0, 0, 0, 0), (82, .getfield 55, 3, 8, 19, 850, 0), (85, .iload_n 1, 1, 0, 0, 0, 0), (86, .iaload, 1, 0, 0, 0, 0), (87, .if_icmp .eq 7, 3, 94, 0, 0, 0), (90, .iconst 1, 1, 0, 0, 0, 0), (91, .goto 4, 3, 95, 0, 0, 0), (94, .iconst 0, 1, 0, 0, 0, 0), (95, .istore 6, 2, 0, 0, 0, 0), (97, .iconst 0, 1, 0, 0, 0, 0), (98, .istore 8, 2, 0, 0, 0, 0), (100, .iload 8, 2, 0, 0, 0, 0), (102, .aload_n 0, 1, 0, 0, 0, 0), (103, .getfield 91, 3, 8, 13, 844, 0)]
def cd_137_1 : List (Nat × AI) := [(106, .if_icmp .ge 34, 3, 140, 0, 0, 0), (109, .iload 6, 2, 0, 0, 0, 0), (111, .ifCond .eq 20, 3, 131, 0, 0, 0), (114, .aload_n 0, 1, 0, 0, 0, 0), (115, .iload 8, 2, 0, 0, 0, 0), (117, .iload 7, 2, 0, 0, 0, 0), (119, .iload 5, 2, 0, 0, 0, 0), (121, .invokevirtual 166, 3, 136, 4, 986, 0), (124, .ifCond .ne 7, 3, 131, 0, 0, 0), (127, .iconst 1, 1, 0, 0, 0, 0), (128, .goto 4, 3, 132, 0, 0, 0), (131, .iconst 0, 1, 0, 0, 0, 0), (132, .istore 6, 2, 0, 0, 0, 0), (134, .iinc 8 1, 3, 0, 0, 0, 0), (137, .goto (-37), 3, 100, 0, 0, 0), (140, .iinc 7 1, 3, 0, 0, 0, 0), (143, .goto (-83), 3, 60, 0, 0, 0), (146, .iload 6, 2, 0, 0, 0, 0), (148, .ireturn, 1, 0, 0, 0, 0)]
def cd_137 : List (Nat × AI) := cd_137_0 ++ (cd_137_1)
def cd_138 : List (Nat × AI) := [(0, .iconst 0, 1, 0, 0, 0, 0), (1, .istore_n 3, 1, 0, 0, 0, 0), (2, .iload_n 3, 1, 0, 0, 0, 0), (3, .iconst 3, 1, 0, 0, 0, 0), (4, .if_icmp .gt 58, 3, 62, 0, 0, 0), (7, .aload_n 0, 1, 0, 0, 0, 0), (8, .getfield 77, 3, 8, 27, 858, 0), (11, .iload_n 2, 1, 0, 0, 0, 0), (12, .iaload, 1, 0, 0, 0, 0), (13, .iconst (-1), 1, 0, 0, 0, 0), (14, .if_icmp .ne 48, 3, 62, 0, 0, 0), (17, .aload_n 0, 1, 0, 0, 0, 0), (18, .iload_n 1, 1, 0, 0, 0, 0), (19, .iload_n 2, 1, 0, 0, 0, 0), (20, .iload_n 3, 1, 0, 0, 0, 0), (21, .invokevirtual 169, 3, 137, 4, 974, 0), (24, .ifCond .eq 32, 3, 56, 0, 0, 0), (27, .aload_n 0, 1, 0, 0, 0, 0), (28, .getfield 74, 3, 8, 26, 857, 0), (31, .iload_n 2, 1, 0, 0, 0, 0), (32, .iload_n 3, 1, 0, 0, 0, 0), (33, .iastore, 1, 0, 0, 0, 0), (34, .aload_n 0, 1, 0, 0, 0, 0), (35, .getfield 77, 3, 8, 27, 858, 0), (38, .iload_n 2, 1, 0, 0, 0, 0), (39, .bipush 40, 2, 0, 0, 0, 0), (41, .aload_n 0, 1, 0, 0, 0, 0), (42, .iload_n 2, 1, 0, 0, 0, 0), (43, .iload_n 3, 1, 0, 0, 0, 0), (44, .invokevirtual 160, 3, 135, 3, 982, 0), (47, .imul, 1, 0, 0, 0, 0), (48, .aload_n 0, 1, 0, 0, 0, 0), (49, .iload_n 2, 1, 0, 0, 0, 0), (50, .iload_n 3, 1, 0, 0, 0, 0), (51, .invokevirtual 157, 3, 134, 3, 978, 0), (54, .iadd, 1, 0, 0, 0, 0), (55, .iastore, 1, 0, 0, 0, 0), (56, .iinc 3 1, 3, 0, 0, 0, 0), (59, .goto (-57), 3, 2, 0, 0, 0), (62, .return_, 1, 0, 0, 0, 0)]
def cd_139 : List (Nat × AI) := [(0, .iconst 0, 1, 0, 0, 0, 0), (1, .istore_n 2, 1, 0, 0, 0, 0), (2, .iload_n 2, 1, 0, 0, 0, 0), (3, .bipush 10, 2, 0, 0, 0, 0), (5, .if_icmp .ge 23, 3, 28, 0, 0, 0), (8, .aload_n 0, 1, 0, 0, 0, 0), (9, .getfield 74, 3, 8, 26, 857, 0), (12, .iload_n 2, 1, 0, 0, 0, 0), (13, .iconst (-1), 1, 0, 0, 0, 0), (14, .iastore, 1, 0, 0, 0, 0), (15, .aload_n 0, 1, 0, 0, 0, 0), (16, .getfield 77, 3, 8, 27, 858, 0), (19, .iload_n 2, 1, 0, 0, 0, 0), (20, .iconst (-1), 1, 0, 0, 0, 0), (21, .iastore, 1, 0, 0, 0, 0), (22, .iinc 2 1, 3, 0, 0, 0, 0), (25, .goto (-23), 3, 2, 0, 0, 0), (28, .iconst 3, 1, 0, 0, 0, 0), (29, .istore_n 2, 1, 0, 0, 0, 0), (30, .iload_n 2, 1, 0, 0, 0, 0), (31, .aload_n 0, 1, 0, 0, 0, 0), (32, .getfield 40, 3, 8, 14, 845, 0), (35, .iload_n 1, 1, 0, 0, 0, 0), (36, .iaload, 1, 0, 0, 0, 0), (37, .if_icmp .lt 61, 3, 98, 0, 0, 0), (40, .iconst 0, 1, 0, 0, 0, 0), (41, .istore_n 3, 1, 0, 0, 0, 0), (42, .iload_n 3, 1, 0, 0, 0, 0), (43, .aload_n 0, 1, 0, 0, 0, 0), (44, .getfield 91, 3, 8, 13, 844, 0), (47, .if_icmp .ge 45, 3, 92, 0, 0, 0), (50, .aload_n 0, 1, 0, 0, 0, 0), (51, .getfield 37, 3, 8, 12, 843, 0), (54, .iload_n 3, 1, 0, 0, 0, 0), (55, .iaload, 1, 0, 0, 0, 0), (56, .iload_n 2, 1, 0, 0, 0, 0), (57, .if_icmp .ne 29, 3, 86, 0, 0, 0), (60, .aload_n 0, 1, 0, 0, 0, 0), (61, .iload_n 1, 1, 0, 0, 0, 0), (62, .aload_n 0, 1, 0, 0, 0, 0), (63, .getfield 28, 3, 8, 9, 840, 0), (66, .iload_n 3, 1, 0, 0, 0, 0), (67, .iaload, 1, 0, 0, 0, 0), (68, .aload_n 0, 1, 0, 0, 0, 0), (69, .getfield 31, 3, 8, 10, 841, 0), (72, .iload_n 3, 1, 0, 0, 0, 0), (73, .iaload, 1, 0, 0, 0, 0), (74, .invokevirtual 163, 3, 133, 4, 966, 0), (77, .ifCond .eq 9, 3, 86, 0, 0, 0), (80, .aload_n 0, 1, 0, 0, 0, 0), (81, .iload_n 1, 1, 0, 0, 0, 0), (82, .iload_n 3, 1, 0, 0, 0, 0), (83, .invokevirtual 172, 3, 138, 3, 970, 0), (86, .iinc 3 1, 3, 0, 0, 0, 0), (89, .goto (-47), 3, 42, 0, 0, 0), (92, .iinc 2 (-1), 3, 0, 0, 0, 0), (95, .goto (-65), 3, 30, 0, 0, 0), (98, .return_, 1, 0, 0, 0, 0)]
def cd_140 : List (Nat × AI) := [(0, .aload_n 0, 1, 0, 0, 0, 0), (1, .aload_n 0, 1, 0, 0, 0, 0), (2, .iload_n 1, 1, 0, 0, 0, 0), (3, .invokevirtual 176, 3, 112, 2, 1071, 0), (6, .ifCond .eq 15, 3, 21, 0, 0, 0), (9, .aload_n 0, 1, 0, 0, 0, 0), (10, .iload_n 2, 1, 0, 0, 0, 0), (11, .invokevirtual 121, 3, 111, 2, 1032, 0), (14, .ifCond .eq 7, 3, 21, 0, 0, 0), (17, .iconst 0, 1, 0, 0, 0, 0), (18, .goto 4, 3, 22, 0, 0, 0), (21, .iconst 1, 1, 0, 0, 0, 0), (22, .invokevirtual 104, 3, 105, 2, 931, 0), (25, .ifCond .ne 5, 3, 30, 0, 0, 0), (28, .iconst 0, 1, 0, 0, 0, 0), (29, .ireturn, 1, 0, 0, 0, 0), (30, .aload_n 0, 1, 0, 0, 0, 0), (31, .iload_n 1, 1, 0, 0, 0, 0), (32, .invokevirtual 179, 3, 139, 2, 962, 0), (35, .aload_n 0, 1, 0, 0, 0, 0), (36, .getfield 74, 3, 8, 26, 857, 0), (39, .iload_n 2, 1, 0, 0, 0, 0), (40, .iaload, 1, 0, 0, 0, 0), (41, .ireturn, 1, 0, 0, 0, 0)]
def cd_141 : List (Nat × AI) := [(0, .aload_n 0, 1, 0, 0, 0, 0), (1, .aload_n 0, 1, 0, 0, 0, 0), (2, .iload_n 1, 1, 0, 0, 0, 0), (3, .invokevirtual 176, 3, 112, 2, 1071, 0), (6, .ifCond .ne 7, 3, 13, 0, 0, 0), (9, .iconst 1, 1, 0, 0, 0, 0), (10, .goto 16, 3, 26, 0, 0, 0), (13, .iload_n 2, 1, 0, 0, 0, 0), (14, .iload_n 3, 1, 0, 0, 0, 0), (15, .invokestatic 100, 3, 107, 2, 925, 0), (18, .ifCond .ne 7, 3, 25, 0, 0, 0), (21, .iconst 2, 1, 0, 0, 0, 0), (22, .goto 4, 3, 26, 0, 0, 0), (25, .iconst 0, 1, 0, 0, 0, 0), (26, .invokevirtual 104, 3, 105, 2, 931, 0), (29, .ifCond .ne 5, 3, 34, 0, 0, 0), (32, .iconst 0, 1, 0, 0, 0, 0), (33, .ireturn, 1, 0, 0, 0, 0), (34, .aload_n 0, 1, 0, 0, 0, 0), (35, .iload_n 1, 1, 0, 0, 0, 0), (36, .invokevirtual 179, 3, 139, 2, 962, 0), (39, .iconst (-1), 1, 0, 0, 0, 0), (40, .istore 4, 2, 0, 0, 0, 0), (42, .iconst 0, 1, 0, 0, 0, 0), (43, .istore 5, 2, 0, 0, 0, 0), (45, .iload 5, 2, 0, 0, 0, 0), (47, .aload_n 0, 1, 0, 0, 0, 0), (48, .getfield 91, 3, 8, 13, 844, 0), (51, .if_icmp .ge 29, 3, 80, 0, 0, 0), (54, .aload_n 0, 1, 0, 0, 0, 0), (55, .iload 5, 2, 0, 0, 0, 0), (57, .iload_n 2, 1, 0, 0, 0, 0), (58, .iload_n 3, 1, 0, 0, 0, 0), (59, .invokevirtual 166, 3, 136, 4, 986, 0), (62, .ifCond .eq 8, 3, 70, 0, 0, 0), (65, .iload 5, 2, 0, 0, 0, 0), (67, .goto 5, 3, 72, 0, 0, 0), (70, .iload 4, 2, 0, 0, 0, 0), (72, .istore 4, 2, 0, 0, 0, 0), (74, .iinc 5 1, 3, 0, 0, 0, 0), (77, .goto (-32), 3, 45, 0, 0, 0), (80, .iload 4, 2, 0, 0, 0, 0), (82, .ireturn, 1, 0, 0, 0, 0)]
def cd_142 : List (Nat × AI) := [(0, .aload_n 0, 1, 0, 0, 0, 0), (1, .iload_n 2, 1, 0, 0, 0, 0), (2, .aload_n 0, 1, 0, 0, 0, 0), (3, .getfield 40, 3, 8, 14, 845, 0), (6, .iload_n 1, 1, 0, 0, 0, 0), (7, .iaload, 1, 0, 0, 0, 0), (8, .invokevirtual 143, 3, 124, 3, 998, 0), (11, .istore_n 3, 1, 0, 0, 0, 0), (12, .iconst 0, 1, 0, 0, 0, 0), (13, .istore 4, 2, 0, 0, 0, 0), (15, .iconst 0, 1, 0, 0, 0, 0), (16, .istore 5, 2, 0, 0, 0, 0), (18, .iload 5, 2, 0, 0, 0, 0), (20, .bipush 8, 2, 0, 0, 0, 0), (22, .if_icmp .ge 62, 3, 84, 0, 0, 0), (25, .iload 4, 2, 0, 0, 0, 0), (27, .ifCond .ne 44, 3, 71, 0, 0, 0), (30, .iload_n 3, 1, 0, 0, 0, 0), (31, .iload 5, 2, 0, 0, 0, 0), (33, .invokestatic 127, 3, 113, 2, 1010, 0), (36, .ifCond .eq 39, 3, 75, 0, 0, 0), (39, .aload_n 0, 1, 0, 0, 0, 0), (40, .iload_n 1, 1, 0, 0, 0, 0), (41, .aload_n 0, 1, 0, 0, 0, 0), (42, .getfield 16, 3, 8, 4, 835, 0), (45, .bipush 8, 2, 0, 0, 0, 0), (47, .iload_n 2, 1, 0, 0, 0, 0), (48, .imul, 1, 0, 0, 0, 0), (49, .iload 5, 2, 0, 0, 0, 0), (51, .iadd, 1, 0, 0, 0, 0), (52, .iaload, 1, 0, 0, 0, 0), (53, .aload_n 0, 1, 0, 0, 0, 0), (54, .getfield 19, 3, 8, 5, 836, 0), (57, .bipush 8, 2, 0, 0, 0, 0), (59, .iload_n 2, 1, 0, 0, 0, 0), (60, .imul, 1, 0, 0, 0, 0), (61, .iload 5, 2, 0, 0, 0, 0), (63, .iadd, 1, 0, 0, 0, 0), (64, .iaload, 1, 0, 0, 0, 0), (65, .invokevirtual 163, 3, 133, 4, 966, 0), (68, .ifCond .eq 7, 3, 75, 0, 0, 0), (71, .iconst 1, 1, 0, 0, 0, 0), (72, .goto 4, 3, 76, 0, 0, 0), (75, .iconst 0, 1, 0, 0, 0, 0), (76, .istore 4, 2, 0, 0, 0, 0), (78, .iinc 5 1, 3, 0, 0, 0, 0), (81, .goto (-63), 3, 18, 0, 0, 0), (84, .iload 4, 2, 0, 0, 0, 0), (86, .ifCond .eq 7, 3, 93, 0, 0, 0), (89, .iload_n 3, 1, 0, 0, 0, 0), (90, .goto 4, 3, 94, 0, 0, 0), (93, .iconst 0, 1, 0, 0, 0, 0), (94, .ireturn, 1, 0, 0, 0, 0)]
def cd_143_0 : List (Nat × AI) := [(0, .aload_n 0, 1, 0, 0, 0, 0), (1, .iload_n 1, 1, 0, 0, 0, 0), (2, .iload_n 2, 1, 0, 0, 0, 0), (3, .invokevirtual 183, 3, 142, 3, 994, 0), (6, .istore_n 3, 1, 0, 0, 0, 0), (7, .bipush 8, 2, 0, 0, 0, 0), (9, .iload_n 1, 1, 0, 0, 0, 0), (10, .imul, 1, 0, 0, 0, 0), (11, .iload_n 2, 1, 0, 0, 0, 0), (12, .iadd, 1, 0, 0, 0, 0), (13, .istore 4, 2, 0, 0, 0, 0), (15, .iload_n 3, 1, 0, 0, 0, 0), (16, .invokestatic 147, 3, 125, 1, 1021, 0), (19, .aload_n 0, 1, 0, 0, 0, 0), (20, .getfield 68, 3, 8, 24, 855, 0), (23, .iload 4, 2, 0, 0, 0, 0), (25, .iaload, 1, 0, 0, 0, 0), (26, .if_icmp .ne 7, 3, 33, 0, 0, 0), (29, .iconst 1, 1, 0, 0, 0, 0), (30, .goto 4, 3, 34, 0, 0, 0), (33, .iconst 0, 1, 0, 0, 0, 0), (34, .istore 5, 2, 0, 0, 0, 0), (36, .iconst 0, 1, 0, 0, 0, 0), (37, .istore 6, 2, 0, 0, 0, 0), (39, .iconst 0, 1, 0, 0, 0, 0), (40, .istore 7, 2, 0, 0, 0, 0), (42, .iload 7, 2, 0, 0, 0, 0), (44, .bipush 8, 2, 0, 0, 0, 0), (46, .if_icmp .ge 77, 3, 123, 0, 0, 0), (49, .iload 5, 2, 0, 0, 0, 0), (51, .ifCond .eq 72, 3, 123, 0, 0, 0), (54, .iload_n 3, 1, 0, 0, 0, 0), (55, .iload 7, 2, 0, 0, 0, 0), (57, .invokestatic 127, 3, 113, 2, 1010, 0), (60, .ifCond .eq 57, 3, 117, 0, 0, 0), (63, .aload_n 0, 1, 0, 0, 0, 0), (64, .getfield 71, 3, 8, 25, 856, 0), (67, .bipush 8, 2, 0, 0, 0, 0), (69, .iload 4, 2, 0, 0, 0, 0), (71, .imul, 1, 0, 0, 0, 0), (72, .iload 6, 2, 0, 0, 0, 0), (74, .iadd, 1, 0, 0, 0, 0), (75, .iaload, 1, 0, 0, 0, 0), (76, .bipush 40, 2, 0, 0, 0, 0), (78, .aload_n 0, 1, 0, 0, 0, 0), (79, .getfield 19, 3, 8, 5, 836, 0), (82, .bipush 8, 2, 0, 0, 0, 0), (84, .iload_n 2, 1, 0, 0, 0, 0), (85, .imul, 1, 0, 0, 0, 0), (86, .iload 7, 2, 0, 0, 0, 0), (88, .iadd, 1, 0, 0, 0, 0), (89, .iaload, 1, 0, 0, 0, 0), (90, .imul, 1, 0, 0, 0, 0), (91, .aload_n 0, 1, 0, 0, 0, 0), (92, .getfield 16, 3, 8, 4, 835, 0), (95, .bipush 8, 2, 0, 0, 0, 0), (97, .iload_n 2, 1, 0, 0, 0, 0), (98, .imul, 1, 0, 0, 0, 0), (99, .iload 7, 2, 0, 0, 0, 0), (101, .iadd, 1, 0, 0, 0, 0)]
def cd_143_1 : List (Nat × AI) := [(102, .iaload, 1, 0, 0, 0, 0), (103, .iadd, 1, 0, 0, 0, 0), (104, .if_icmp .ne 7, 3, 111, 0, 0, 0), (107, .iconst 1, 1, 0, 0, 0, 0), (108, .goto 4, 3, 112, 0, 0, 0), (111, .iconst 0, 1, 0, 0, 0, 0), (112, .istore 5, 2, 0, 0, 0, 0), (114, .iinc 6 1, 3, 0, 0, 0, 0), (117, .iinc 7 1, 3, 0, 0, 0, 0), (120, .goto (-78), 3, 42, 0, 0, 0), (123, .iload 5, 2, 0, 0, 0, 0), (125, .ireturn, 1, 0, 0, 0, 0)]
def cd_143 : List (Nat × AI) := cd_143_0 ++ (cd_143_1)
def cd_144 : List (Nat × AI) := [(0, .aload_n 0, 1, 0, 0, 0, 0), (1, .getfield 61, 3, 8, 21, 852, 0), (4, .iload_n 1, 1, 0, 0, 0, 0), (5, .baload, 1, 0, 0, 0, 0), (6, .ifCond .ne 5, 3, 11, 0, 0, 0), (9, .iconst 0, 1, 0, 0, 0, 0), (10, .ireturn, 1, 0, 0, 0, 0), (11, .aload_n 0, 1, 0, 0, 0, 0), (12, .iload_n 1, 1, 0, 0, 0, 0), (13, .invokevirtual 179, 3, 139, 2, 962, 0), (16, .iconst 0, 1, 0, 0, 0, 0), (17, .istore_n 2, 1, 0, 0, 0, 0), (18, .iconst 0, 1, 0, 0, 0, 0), (19, .istore_n 3, 1, 0, 0, 0, 0), (20, .iload_n 3, 1, 0, 0, 0, 0), (21, .aload_n 0, 1, 0, 0, 0, 0), (22, .getfield 91, 3, 8, 13, 844, 0), (25, .if_icmp .ge 37, 3, 62, 0, 0, 0), (28, .iload_n 2, 1, 0, 0, 0, 0), (29, .aload_n 0, 1, 0, 0, 0, 0), (30, .getfield 77, 3, 8, 27, 858, 0), (33, .iload_n 3, 1, 0, 0, 0, 0), (34, .iaload, 1, 0, 0, 0, 0), (35, .aload_n 0, 1, 0, 0, 0, 0), (36, .getfield 65, 3, 8, 23, 854, 0), (39, .bipush 10, 2, 0, 0, 0, 0), (41, .iload_n 1, 1, 0, 0, 0, 0), (42, .imul, 1, 0, 0, 0, 0), (43, .iload_n 3, 1, 0, 0, 0, 0), (44, .iadd, 1, 0, 0, 0, 0), (45, .iaload, 1, 0, 0, 0, 0), (46, .if_icmp .eq 7, 3, 53, 0, 0, 0), (49, .iconst 1, 1, 0, 0, 0, 0), (50, .goto 4, 3, 54, 0, 0, 0), (53, .iconst 0, 1, 0, 0, 0, 0), (54, .iadd, 1, 0, 0, 0, 0), (55, .istore_n 2, 1, 0, 0, 0, 0), (56, .iinc 3 1, 3, 0, 0, 0, 0), (59, .goto (-39), 3, 20, 0, 0, 0), (62, .iconst 0, 1, 0, 0, 0, 0), (63, .istore_n 3, 1, 0, 0, 0, 0), (64, .iload_n 3, 1, 0, 0, 0, 0), (65, .aload_n 0, 1, 0, 0, 0, 0), (66, .getfield 88, 3, 8, 8, 839, 0), (69, .if_icmp .ge 26, 3, 95, 0, 0, 0), (72, .iload_n 2, 1, 0, 0, 0, 0), (73, .aload_n 0, 1, 0, 0, 0, 0), (74, .iload_n 1, 1, 0, 0, 0, 0), (75, .iload_n 3, 1, 0, 0, 0, 0), (76, .invokevirtual 186, 3, 143, 3, 990, 0), (79, .ifCond .eq 7, 3, 86, 0, 0, 0), (82, .iconst 0, 1, 0, 0, 0, 0), (83, .goto 4, 3, 87, 0, 0, 0), (86, .iconst 1, 1, 0, 0, 0, 0), (87, .iadd, 1, 0, 0, 0, 0), (88, .istore_n 2, 1, 0, 0, 0, 0), (89, .iinc 3 1, 3, 0, 0, 0, 0), (92, .goto (-28), 3, 64, 0, 0, 0), (95, .iload_n 2, 1, 0, 0, 0, 0), (96, .ireturn, 1, 0, 0, 0, 0)]
def cd_145 : List (Nat × AI) := [(0, .iconst 0, 1, 0, 0, 0, 0), (1, .istore_n 1, 1, 0, 0, 0, 0), (2, .iconst 0, 1, 0, 0, 0, 0), (3, .istore_n 2, 1, 0, 0, 0, 0), (4, .iload_n 2, 1, 0, 0, 0, 0), (5, .aload_n 0, 1, 0, 0, 0, 0), (6, .getfield 94, 3, 8, 22, 853, 0), (9, .if_icmp .ge 25, 3, 34, 0, 0, 0), (12, .iload_n 1, 1, 0, 0, 0, 0), (13, .aload_n 0, 1, 0, 0, 0, 0), (14, .iload_n 2, 1, 0, 0, 0, 0), (15, .invokevirtual 189, 3, 144, 2, 958, 0), (18, .ifCond .le 7, 3, 25, 0, 0, 0), (21, .iconst 1, 1, 0, 0, 0, 0), (22, .goto 4, 3, 26, 0, 0, 0), (25, .iconst 0, 1, 0, 0, 0, 0), (26, .iadd, 1, 0, 0, 0, 0), (27, .istore_n 1, 1, 0, 0, 0, 0), (28, .iinc 2 1, 3, 0, 0, 0, 0), (31, .goto (-27), 3, 4, 0, 0, 0), (34, .iload_n 1, 1, 0, 0, 0, 0), (35, .ireturn, 1, 0, 0, 0, 0)]
def cd_146_0 : List (Nat × AI) := [(0, .aload_n 0, 1, 0, 0, 0, 0), (1, .iload_n 1, 1, 0, 0, 0, 0), (2, .invokevirtual 179, 3, 139, 2, 962, 0), (5, .iconst 0, 1, 0, 0, 0, 0), (6, .istore_n 2, 1, 0, 0, 0, 0), (7, .iload_n 2, 1, 0, 0, 0, 0), (8, .bipush 10, 2, 0, 0, 0, 0), (10, .if_icmp .ge 26, 3, 36, 0, 0, 0), (13, .aload_n 0, 1, 0, 0, 0, 0), (14, .getfield 65, 3, 8, 23, 854, 0), (17, .bipush 10, 2, 0, 0, 0, 0), (19, .iload_n 1, 1, 0, 0, 0, 0), (20, .imul, 1, 0, 0, 0, 0), (21, .iload_n 2, 1, 0, 0, 0, 0), (22, .iadd, 1, 0, 0, 0, 0), (23, .aload_n 0, 1, 0, 0, 0, 0), (24, .getfield 77, 3, 8, 27, 858, 0), (27, .iload_n 2, 1, 0, 0, 0, 0), (28, .iaload, 1, 0, 0, 0, 0), (29, .iastore, 1, 0, 0, 0, 0), (30, .iinc 2 1, 3, 0, 0, 0, 0), (33, .goto (-26), 3, 7, 0, 0, 0), (36, .iconst 0, 1, 0, 0, 0, 0), (37, .istore_n 2, 1, 0, 0, 0, 0), (38, .iload_n 2, 1, 0, 0, 0, 0), (39, .aload_n 0, 1, 0, 0, 0, 0), (40, .getfield 88, 3, 8, 8, 839, 0), (43, .if_icmp .ge 114, 3, 157, 0, 0, 0), (46, .aload_n 0, 1, 0, 0, 0, 0), (47, .iload_n 1, 1, 0, 0, 0, 0), (48, .iload_n 2, 1, 0, 0, 0, 0), (49, .invokevirtual 183, 3, 142, 3, 994, 0), (52, .istore_n 3, 1, 0, 0, 0, 0), (53, .bipush 8, 2, 0, 0, 0, 0), (55, .iload_n 1, 1, 0, 0, 0, 0), (56, .imul, 1, 0, 0, 0, 0), (57, .iload_n 2, 1, 0, 0, 0, 0), (58, .iadd, 1, 0, 0, 0, 0), (59, .istore 4, 2, 0, 0, 0, 0), (61, .aload_n 0, 1, 0, 0, 0, 0), (62, .getfield 68, 3, 8, 24, 855, 0), (65, .iload 4, 2, 0, 0, 0, 0), (67, .iconst 0, 1, 0, 0, 0, 0), (68, .iastore, 1, 0, 0, 0, 0), (69, .iconst 0, 1, 0, 0, 0, 0), (70, .istore 5, 2, 0, 0, 0, 0), (72, .iload 5, 2, 0, 0, 0, 0), (74, .bipush 8, 2, 0, 0, 0, 0), (76, .if_icmp .ge 75, 3, 151, 0, 0, 0), (79, .iload_n 3, 1, 0, 0, 0, 0), (80, .iload 5, 2, 0, 0, 0, 0), (82, .invokestatic 127, 3, 113, 2, 1010, 0), (85, .ifCond .eq 60, 3, 145, 0, 0, 0), (88, .aload_n 0, 1, 0, 0, 0, 0), (89, .getfield 71, 3, 8, 25, 856, 0), (92, .bipush 8, 2, 0, 0, 0, 0), (94, .iload 4, 2, 0, 0, 0, 0), (96, .imul, 1, 0, 0, 0, 0), (97, .aload_n 0, 1, 0, 0, 0, 0), (98, .getfield 68, 3, 8, 24, 855, 0)]
def cd_146_1 : List (Nat × AI) := [(101, .iload 4, 2, 0, 0, 0, 0), (103, .iaload, 1, 0, 0, 0, 0), (104, .iadd, 1, 0, 0, 0, 0), (105, .bipush 40, 2, 0, 0, 0, 0), (107, .aload_n 0, 1, 0, 0, 0, 0), (108, .getfield 19, 3, 8, 5, 836, 0), (111, .bipush 8, 2, 0, 0, 0, 0), (113, .iload_n 2, 1, 0, 0, 0, 0), (114, .imul, 1, 0, 0, 0, 0), (115, .iload 5, 2, 0, 0, 0, 0), (117, .iadd, 1, 0, 0, 0, 0), (118, .iaload, 1, 0, 0, 0, 0), (119, .imul, 1, 0, 0, 0, 0), (120, .aload_n 0, 1, 0, 0, 0, 0), (121, .getfield 16, 3, 8, 4, 835, 0), (124, .bipush 8, 2, 0, 0, 0, 0), (126, .iload_n 2, 1, 0, 0, 0, 0), (127, .imul, 1, 0, 0, 0, 0), (128, .iload 5, 2, 0, 0, 0, 0), (130, .iadd, 1, 0, 0, 0, 0), (131, .iaload, 1, 0, 0, 0, 0), (132, .iadd, 1, 0, 0, 0, 0), (133, .iastore, 1, 0, 0, 0, 0), (134, .aload_n 0, 1, 0, 0, 0, 0), (135, .getfield 68, 3, 8, 24, 855, 0), (138, .iload 4, 2, 0, 0, 0, 0), (140, .dup2, 1, 0, 0, 0, 0), (141, .iaload, 1, 0, 0, 0, 0), (142, .iconst 1, 1, 0, 0, 0, 0), (143, .iadd, 1, 0, 0, 0, 0), (144, .iastore, 1, 0, 0, 0, 0), (145, .iinc 5 1, 3, 0, 0, 0, 0), (148, .goto (-76), 3, 72, 0, 0, 0), (151, .iinc 2 1, 3, 0, 0, 0, 0), (154, .goto (-116), 3, 38, 0, 0, 0), (157, .aload_n 0, 1, 0, 0, 0, 0), (158, .getfield 61, 3, 8, 21, 852, 0), (161, .iload_n 1, 1, 0, 0, 0, 0), (162, .iconst 1, 1, 0, 0, 0, 0), (163, .bastore, 1, 0, 0, 0, 0), (164, .return_, 1, 0, 0, 0, 0)]
def cd_146 : List (Nat × AI) := cd_146_0 ++ (cd_146_1)
def cd_147_0 : List (Nat × AI) := [(0, .aload_n 0, 1, 0, 0, 0, 0), (1, .iload_n 1, 1, 0, 0, 0, 0), (2, .invokevirtual 176, 3, 112, 2, 1071, 0), (5, .istore_n 3, 1, 0, 0, 0, 0), (6, .iload_n 3, 1, 0, 0, 0, 0), (7, .ifCond .eq 17, 3, 24, 0, 0, 0), (10, .iload_n 2, 1, 0, 0, 0, 0), (11, .iconst 1, 1, 0, 0, 0, 0), (12, .bipush 100, 2, 0, 0, 0, 0), (14, .invokestatic 84, 3, 106, 3, 928, 0), (17, .ifCond .eq 7, 3, 24, 0, 0, 0), (20, .iconst 1, 1, 0, 0, 0, 0), (21, .goto 4, 3, 25, 0, 0, 0), (24, .iconst 0, 1, 0, 0, 0, 0), (25, .istore 4, 2, 0, 0, 0, 0), (27, .iload 4, 2, 0, 0, 0, 0), (29, .ifCond .eq 20, 3, 49, 0, 0, 0), (32, .aload_n 0, 1, 0, 0, 0, 0), (33, .iload_n 1, 1, 0, 0, 0, 0), (34, .invokevirtual 189, 3, 144, 2, 958, 0), (37, .ifCond .ne 12, 3, 49, 0, 0, 0), (40, .aload_n 0, 1, 0, 0, 0, 0), (41, .getfield 58, 3, 8, 20, 851, 0), (44, .iload_n 1, 1, 0, 0, 0, 0), (45, .iaload, 1, 0, 0, 0, 0), (46, .goto 4, 3, 50, 0, 0, 0), (49, .iconst 0, 1, 0, 0, 0, 0), (50, .istore 5, 2, 0, 0, 0, 0), (52, .aload_n 0, 1, 0, 0, 0, 0), (53, .iload_n 3, 1, 0, 0, 0, 0), (54, .ifCond .ne 7, 3, 61, 0, 0, 0), (57, .iconst 1, 1, 0, 0, 0, 0), (58, .goto 27, 3, 85, 0, 0, 0), (61, .iload 4, 2, 0, 0, 0, 0), (63, .ifCond .ne 7, 3, 70, 0, 0, 0), (66, .iconst 2, 1, 0, 0, 0, 0), (67, .goto 18, 3, 85, 0, 0, 0), (70, .iload 5, 2, 0, 0, 0, 0), (72, .iload_n 2, 1, 0, 0, 0, 0), (73, .iadd, 1, 0, 0, 0, 0), (74, .sipush 1000, 3, 0, 0, 0, 0), (77, .if_icmp .le 7, 3, 84, 0, 0, 0), (80, .iconst 3, 1, 0, 0, 0, 0), (81, .goto 4, 3, 85, 0, 0, 0), (84, .iconst 0, 1, 0, 0, 0, 0), (85, .invokevirtual 104, 3, 105, 2, 931, 0), (88, .ifCond .ne 5, 3, 93, 0, 0, 0), (91, .iconst 0, 1, 0, 0, 0, 0), (92, .ireturn, 1, 0, 0, 0, 0), (93, .aload_n 0, 1, 0, 0, 0, 0), (94, .iload_n 1, 1, 0, 0, 0, 0), (95, .invokevirtual 192, 3, 146, 2, 1083, 0), (98, .aload_n 0, 1, 0, 0, 0, 0), (99, .getfield 58, 3, 8, 20, 851, 0), (102, .iload_n 1, 1, 0, 0, 0, 0), (103, .iload 5, 2, 0, 0, 0, 0), (105, .iload_n 2, 1, 0, 0, 0, 0), (106, .iadd, 1, 0, 0, 0, 0), (107, .iastore, 1, 0, 0, 0, 0), (108, .aload_n 0, 1, 0, 0, 0, 0)]
def cd_147_1 : List (Nat × AI) := [(109, .getfield 58, 3, 8, 20, 851, 0), (112, .iload_n 1, 1, 0, 0, 0, 0), (113, .iaload, 1, 0, 0, 0, 0), (114, .ireturn, 1, 0, 0, 0, 0)]
def cd_147 : List (Nat × AI) := cd_147_0 ++ (cd_147_1)
def cd_148 : List (Nat × AI) := [(0, .aload_n 0, 1, 0, 0, 0, 0), (1, .iload_n 1, 1, 0, 0, 0, 0), (2, .invokevirtual 176, 3, 112, 2, 1071, 0), (5, .istore_n 3, 1, 0, 0, 0, 0), (6, .aload_n 0, 1, 0, 0, 0, 0), (7, .iload_n 3, 1, 0, 0, 0, 0), (8, .ifCond .ne 7, 3, 15, 0, 0, 0), (11, .iconst 1, 1, 0, 0, 0, 0), (12, .goto 33, 3, 45, 0, 0, 0), (15, .iload_n 2, 1, 0, 0, 0, 0), (16, .iconst 1, 1, 0, 0, 0, 0), (17, .sipush 1000, 3, 0, 0, 0, 0), (20, .invokestatic 84, 3, 106, 3, 928, 0), (23, .ifCond .ne 7, 3, 30, 0, 0, 0), (26, .iconst 2, 1, 0, 0, 0, 0), (27, .goto 18, 3, 45, 0, 0, 0), (30, .aload_n 0, 1, 0, 0, 0, 0), (31, .getfield 58, 3, 8, 20, 851, 0), (34, .iload_n 1, 1, 0, 0, 0, 0), (35, .iaload, 1, 0, 0, 0, 0), (36, .iload_n 2, 1, 0, 0, 0, 0), (37, .if_icmp .ge 7, 3, 44, 0, 0, 0), (40, .iconst 3, 1, 0, 0, 0, 0), (41, .goto 4, 3, 45, 0, 0, 0), (44, .iconst 0, 1, 0, 0, 0, 0), (45, .invokevirtual 104, 3, 105, 2, 931, 0), (48, .ifCond .ne 5, 3, 53, 0, 0, 0), (51, .iconst 0, 1, 0, 0, 0, 0), (52, .ireturn, 1, 0, 0, 0, 0), (53, .aload_n 0, 1, 0, 0, 0, 0), (54, .getfield 58, 3, 8, 20, 851, 0), (57, .iload_n 1, 1, 0, 0, 0, 0), (58, .dup2, 1, 0, 0, 0, 0), (59, .iaload, 1, 0, 0, 0, 0), (60, .iload_n 2, 1, 0, 0, 0, 0), (61, .isub, 1, 0, 0, 0, 0), (62, .iastore, 1, 0, 0, 0, 0), (63, .aload_n 0, 1, 0, 0, 0, 0), (64, .iload_n 1, 1, 0, 0, 0, 0), (65, .invokevirtual 189, 3, 144, 2, 958, 0), (68, .ireturn, 1, 0, 0, 0, 0)]
def cd_149 : List (Nat × AI) := [(0, .aload_n 0, 1, 0, 0, 0, 0), (1, .aload_n 0, 1, 0, 0, 0, 0), (2, .iload_n 1, 1, 0, 0, 0, 0), (3, .invokevirtual 176, 3, 112, 2, 1071, 0), (6, .ifCond .eq 7, 3, 13, 0, 0, 0), (9, .iconst 0, 1, 0, 0, 0, 0), (10, .goto 4, 3, 14, 0, 0, 0), (13, .iconst 1, 1, 0, 0, 0, 0), (14, .invokevirtual 104, 3, 105, 2, 931, 0), (17, .ifCond .eq 12, 3, 29, 0, 0, 0), (20, .aload_n 0, 1, 0, 0, 0, 0), (21, .getfield 58, 3, 8, 20, 851, 0), (24, .iload_n 1, 1, 0, 0, 0, 0), (25, .iaload, 1, 0, 0, 0, 0), (26, .goto 4, 3, 30, 0, 0, 0), (29, .iconst 0, 1, 0, 0, 0, 0), (30, .ireturn, 1, 0, 0, 0, 0)]
def cd_150 : List (Nat × AI) := [(0, .aload_n 0, 1, 0, 0, 0, 0), (1, .aload_n 0, 1, 0, 0, 0, 0), (2, .iload_n 1, 1, 0, 0, 0, 0), (3, .invokevirtual 176, 3, 112, 2, 1071, 0), (6, .ifCond .eq 7, 3, 13, 0, 0, 0), (9, .iconst 0, 1, 0, 0, 0, 0), (10, .goto 4, 3, 14, 0, 0, 0), (13, .iconst 1, 1, 0, 0, 0, 0), (14, .invokevirtual 104, 3, 105, 2, 931, 0), (17, .ifCond .eq 11, 3, 28, 0, 0, 0), (20, .aload_n 0, 1, 0, 0, 0, 0), (21, .iload_n 1, 1, 0, 0, 0, 0), (22, .invokevirtual 189, 3, 144, 2, 958, 0), (25, .goto 4, 3, 29, 0, 0, 0), (28, .iconst 0, 1, 0, 0, 0, 0), (29, .ireturn, 1, 0, 0, 0, 0)]
def cd_151 : List (Nat × AI) := [(0, .aload_n 3, 1, 0, 0, 0, 0), (1, .iconst 0, 1, 0, 0, 0, 0), (2, .aload_n 0, 1, 0, 0, 0, 0), (3, .iload_n 1, 1, 0, 0, 0, 0), (4, .iload_n 2, 1, 0, 0, 0, 0), (5, .invokevirtual 7, 3, 73, 3, 180, 0), (8, .i2l, 1, 0, 0, 0, 0), (9, .lastore, 1, 0, 0, 0, 0), (10, .goto 11, 3, 21, 0, 0, 0), (13, .astore 4, 2, 0, 0, 0, 0), (15, .iconst 1, 1, 0, 0, 0, 0), (16, .ireturn, 1, 0, 0, 0, 0), (17, .astore 4, 2, 0, 0, 0, 0), (19, .iconst 2, 1, 0, 0, 0, 0), (20, .ireturn, 1, 0, 0, 0, 0), (21, .iconst 0, 1, 0, 0, 0, 0), (22, .ireturn, 1, 0, 0, 0, 0)]
def cd_152 : List (Nat × AI) := [(0, .aload_n 2, 1, 0, 0, 0, 0), (1, .iconst 0, 1, 0, 0, 0, 0), (2, .aload_n 0, 1, 0, 0, 0, 0), (3, .iload_n 1, 1, 0, 0, 0, 0), (4, .invokevirtual 17, 3, 74, 2, 293, 0), (7, .i2l, 1, 0, 0, 0, 0), (8, .lastore, 1, 0, 0, 0, 0), (9, .goto 9, 3, 18, 0, 0, 0), (12, .astore_n 3, 1, 0, 0, 0, 0), (13, .iconst 1, 1, 0, 0, 0, 0), (14, .ireturn, 1, 0, 0, 0, 0), (15, .astore_n 3, 1, 0, 0, 0, 0), (16, .iconst 2, 1, 0, 0, 0, 0), (17, .ireturn, 1, 0, 0, 0, 0), (18, .iconst 0, 1, 0, 0, 0, 0), (19, .ireturn, 1, 0, 0, 0, 0)]
def cd_153 : List (Nat × AI) := [(0, .aload 5, 2, 0, 0, 0, 0), (2, .iconst 0, 1, 0, 0, 0, 0), (3, .aload_n 0, 1, 0, 0, 0, 0), (4, .iload_n 1, 1, 0, 0, 0, 0), (5, .iload_n 2, 1, 0, 0, 0, 0), (6, .iload_n 3, 1, 0, 0, 0, 0), (7, .iload 4, 2, 0, 0, 0, 0), (9, .invokevirtual 21, 3, 75, 5, 448, 0), (12, .i2l, 1, 0, 0, 0, 0), (13, .lastore, 1, 0, 0, 0, 0), (14, .goto 15, 3, 29, 0, 0, 0), (17, .astore 6, 2, 0, 0, 0, 0), (19, .iconst 1, 1, 0, 0, 0, 0), (20, .ireturn, 1, 0, 0, 0, 0), (21, .astore 6, 2, 0, 0, 0, 0), (23, .iconst 2, 1, 0, 0, 0, 0), (24, .ireturn, 1, 0, 0, 0, 0), (25, .astore 6, 2, 0, 0, 0, 0), (27, .iconst 3, 1, 0, 0, 0, 0), (28, .ireturn, 1, 0, 0, 0, 0), (29, .iconst 0, 1, 0, 0, 0, 0), (30, .ireturn, 1, 0, 0, 0, 0)]
def cd_154 : List (Nat × AI) := [(0, .aload 5, 2, 0, 0, 0, 0), (2, .iconst 0, 1, 0, 0, 0, 0), (3, .aload_n 0, 1, 0, 0, 0, 0), (4, .iload_n 1, 1, 0, 0, 0, 0), (5, .iload_n 2, 1, 0, 0, 0, 0), (6, .iload_n 3, 1, 0, 0, 0, 0), (7, .iload 4, 2, 0, 0, 0, 0), (9, .invokevirtual 27, 3, 76, 5, 601, 0), (12, .i2l, 1, 0, 0, 0, 0), (13, .lastore, 1, 0, 0, 0, 0), (14, .goto 11, 3, 25, 0, 0, 0), (17, .astore 6, 2, 0, 0, 0, 0), (19, .iconst 1, 1, 0, 0, 0, 0), (20, .ireturn, 1, 0, 0, 0, 0), (21, .astore 6, 2, 0, 0, 0, 0), (23, .iconst 2, 1, 0, 0, 0, 0), (24, .ireturn, 1, 0, 0, 0, 0), (25, .iconst 0, 1, 0, 0, 0, 0), (26, .ireturn, 1, 0, 0, 0, 0)]
def cd_155 : List (Nat × AI) := [(0, .aload 4, 2, 0, 0, 0, 0), (2, .iconst 0, 1, 0, 0, 0, 0), (3, .aload_n 0, 1, 0, 0, 0, 0), (4, .iload_n 1, 1, 0, 0, 0, 0), (5, .iload_n 2, 1, 0, 0, 0, 0), (6, .iload_n 3, 1, 0, 0, 0, 0), (7, .invokevirtual 30, 3, 77, 4, 637, 0), (10, .i2l, 1, 0, 0, 0, 0), (11, .lastore, 1, 0, 0, 0, 0), (12, .goto 11, 3, 23, 0, 0, 0), (15, .astore 5, 2, 0, 0, 0, 0), (17, .iconst 1, 1, 0, 0, 0, 0), (18, .ireturn, 1, 0, 0, 0, 0), (19, .astore 5, 2, 0, 0, 0, 0), (21, .iconst 2, 1, 0, 0, 0, 0), (22, .ireturn, 1, 0, 0, 0, 0), (23, .iconst 0, 1, 0, 0, 0, 0), (24, .ireturn, 1, 0, 0, 0, 0)]
def cd_156 : List (Nat × AI) := [(0, .aload_n 3, 1, 0, 0, 0, 0), (1, .iconst 0, 1, 0, 0, 0, 0), (2, .aload_n 0, 1, 0, 0, 0, 0), (3, .iload_n 1, 1, 0, 0, 0, 0), (4, .iload_n 2, 1, 0, 0, 0, 0), (5, .invokevirtual 34, 3, 78, 3, 657, 0), (8, .i2l, 1, 0, 0, 0, 0), (9, .lastore, 1, 0, 0, 0, 0), (10, .goto 7, 3, 17, 0, 0, 0), (13, .astore 4, 2, 0, 0, 0, 0), (15, .iconst 1, 1, 0, 0, 0, 0), (16, .ireturn, 1, 0, 0, 0, 0), (17, .iconst 0, 1, 0, 0, 0, 0), (18, .ireturn, 1, 0, 0, 0, 0)]
def cd_157 : List (Nat × AI) := [(0, .aload_n 3, 1, 0, 0, 0, 0), (1, .iconst 0, 1, 0, 0, 0, 0), (2, .aload_n 0, 1, 0, 0, 0, 0), (3, .iload_n 1, 1, 0, 0, 0, 0), (4, .iload_n 2, 1, 0, 0, 0, 0), (5, .invokevirtual 37, 3, 79, 3, 675, 0), (8, .i2l, 1, 0, 0, 0, 0), (9, .lastore, 1, 0, 0, 0, 0), (10, .goto 7, 3, 17, 0, 0, 0), (13, .astore 4, 2, 0, 0, 0, 0), (15, .iconst 1, 1, 0, 0, 0, 0), (16, .ireturn, 1, 0, 0, 0, 0), (17, .iconst 0, 1, 0, 0, 0, 0), (18, .ireturn, 1, 0, 0, 0, 0)]
def cd_158 : List (Nat × AI) := [(0, .aload_n 2, 1, 0, 0, 0, 0), (1, .iconst 0, 1, 0, 0, 0, 0), (2, .aload_n 0, 1, 0, 0, 0, 0), (3, .iload_n 1, 1, 0, 0, 0, 0), (4, .invokevirtual 40, 3, 80, 2, 682, 0), (7, .i2l, 1, 0, 0, 0, 0), (8, .lastore, 1, 0, 0, 0, 0), (9, .goto 6, 3, 15, 0, 0, 0), (12, .astore_n 3, 1, 0, 0, 0, 0), (13, .iconst 1, 1, 0, 0, 0, 0), (14, .ireturn, 1, 0, 0, 0, 0), (15, .iconst 0, 1, 0, 0, 0, 0), (16, .ireturn, 1, 0, 0, 0, 0)]
def cd_159 : List (Nat × AI) := [(0, .aload_n 2, 1, 0, 0, 0, 0), (1, .iconst 0, 1, 0, 0, 0, 0), (2, .aload_n 0, 1, 0, 0, 0, 0), (3, .iload_n 1, 1, 0, 0, 0, 0), (4, .invokevirtual 43, 3, 81, 2, 696, 0), (7, .i2l, 1, 0, 0, 0, 0), (8, .lastore, 1, 0, 0, 0, 0), (9, .goto 6, 3, 15, 0, 0, 0), (12, .astore_n 3, 1, 0, 0, 0, 0), (13, .iconst 1, 1, 0, 0, 0, 0), (14, .ireturn, 1, 0, 0, 0, 0), (15, .iconst 0, 1, 0, 0, 0, 0), (16, .ireturn, 1, 0, 0, 0, 0)]
def cd_160 : List (Nat × AI) := [(0, .aload 7, 2, 0, 0, 0, 0), (2, .iconst 0, 1, 0, 0, 0, 0), (3, .aload_n 0, 1, 0, 0, 0, 0), (4, .iload_n 1, 1, 0, 0, 0, 0), (5, .iload_n 2, 1, 0, 0, 0, 0), (6, .iload_n 3, 1, 0, 0, 0, 0), (7, .iload 4, 2, 0, 0, 0, 0), (9, .iload 5, 2, 0, 0, 0, 0), (11, .iload 6, 2, 0, 0, 0, 0), (13, .invokevirtual 46, 3, 82, 7, 707, 0), (16, .i2l, 1, 0, 0, 0, 0), (17, .lastore, 1, 0, 0, 0, 0), (18, .goto 15, 3, 33, 0, 0, 0), (21, .astore 8, 2, 0, 0, 0, 0), (23, .iconst 1, 1, 0, 0, 0, 0), (24, .ireturn, 1, 0, 0, 0, 0), (25, .astore 8, 2, 0, 0, 0, 0), (27, .iconst 2, 1, 0, 0, 0, 0), (28, .ireturn, 1, 0, 0, 0, 0), (29, .astore 8, 2, 0, 0, 0, 0), (31, .iconst 3, 1, 0, 0, 0, 0), (32, .ireturn, 1, 0, 0, 0, 0), (33, .iconst 0, 1, 0, 0, 0, 0), (34, .ireturn, 1, 0, 0, 0, 0)]
def cd_161 : List (Nat × AI) := [(0, .aload_n 3, 1, 0, 0, 0, 0), (1, .iconst 0, 1, 0, 0, 0, 0), (2, .aload_n 0, 1, 0, 0, 0, 0), (3, .iload_n 1, 1, 0, 0, 0, 0), (4, .iload_n 2, 1, 0, 0, 0, 0), (5, .invokevirtual 50, 3, 83, 3, 751, 0), (8, .i2l, 1, 0, 0, 0, 0), (9, .lastore, 1, 0, 0, 0, 0), (10, .goto 7, 3, 17, 0, 0, 0), (13, .astore 4, 2, 0, 0, 0, 0), (15, .iconst 1, 1, 0, 0, 0, 0), (16, .ireturn, 1, 0, 0, 0, 0), (17, .iconst 0, 1, 0, 0, 0, 0), (18, .ireturn, 1, 0, 0, 0, 0)]
def cd_162 : List (Nat × AI) := [(0, .aload 4, 2, 0, 0, 0, 0), (2, .iconst 0, 1, 0, 0, 0, 0), (3, .aload_n 0, 1, 0, 0, 0, 0), (4, .iload_n 1, 1, 0, 0, 0, 0), (5, .iload_n 2, 1, 0, 0, 0, 0), (6, .iload_n 3, 1, 0, 0, 0, 0), (7, .invokevirtual 53, 3, 84, 4, 767, 0), (10, .i2l, 1, 0, 0, 0, 0), (11, .lastore, 1, 0, 0, 0, 0), (12, .goto 11, 3, 23, 0, 0, 0), (15, .astore 5, 2, 0, 0, 0, 0), (17, .iconst 1, 1, 0, 0, 0, 0), (18, .ireturn, 1, 0, 0, 0, 0), (19, .astore 5, 2, 0, 0, 0, 0), (21, .iconst 2, 1, 0, 0, 0, 0), (22, .ireturn, 1, 0, 0, 0, 0), (23, .iconst 0, 1, 0, 0, 0, 0), (24, .ireturn, 1, 0, 0, 0, 0)]
def cd_163 : List (Nat × AI) := [(0, .aload_n 3, 1, 0, 0, 0, 0), (1, .iconst 0, 1, 0, 0, 0, 0), (2, .aload_n 0, 1, 0, 0, 0, 0), (3, .iload_n 1, 1, 0, 0, 0, 0), (4, .iload_n 2, 1, 0, 0, 0, 0), (5, .invokevirtual 56, 3, 85, 3, 775, 0), (8, .i2l, 1, 0, 0, 0, 0), (9, .lastore, 1, 0, 0, 0, 0), (10, .goto 15, 3, 25, 0, 0, 0), (13, .astore 4, 2, 0, 0, 0, 0), (15, .iconst 1, 1, 0, 0, 0, 0), (16, .ireturn, 1, 0, 0, 0, 0), (17, .astore 4, 2, 0, 0, 0, 0), (19, .iconst 2, 1, 0, 0, 0, 0), (20, .ireturn, 1, 0, 0, 0, 0), (21, .astore 4, 2, 0, 0, 0, 0), (23, .iconst 3, 1, 0, 0, 0, 0), (24, .ireturn, 1, 0, 0, 0, 0), (25, .iconst 0, 1, 0, 0, 0, 0), (26, .ireturn, 1, 0, 0, 0, 0)]
def cd_164 : List (Nat × AI) := [(0, .aload_n 3, 1, 0, 0, 0, 0), (1, .iconst 0, 1, 0, 0, 0, 0), (2, .aload_n 0, 1, 0, 0, 0, 0), (3, .iload_n 1, 1, 0, 0, 0, 0), (4, .iload_n 2, 1, 0, 0, 0, 0), (5, .invokevirtual 59, 3, 86, 3, 798, 0), (8, .i2l, 1, 0, 0, 0, 0), (9, .lastore, 1, 0, 0, 0, 0), (10, .goto 15, 3, 25, 0, 0, 0), (13, .astore 4, 2, 0, 0, 0, 0), (15, .iconst 1, 1, 0, 0, 0, 0), (16, .ireturn, 1, 0, 0, 0, 0), (17, .astore 4, 2, 0, 0, 0, 0), (19, .iconst 2, 1, 0, 0, 0, 0), (20, .ireturn, 1, 0, 0, 0, 0), (21, .astore 4, 2, 0, 0, 0, 0), (23, .iconst 3, 1, 0, 0, 0, 0), (24, .ireturn, 1, 0, 0, 0, 0), (25, .iconst 0, 1, 0, 0, 0, 0), (26, .ireturn, 1, 0, 0, 0, 0)]
def cd_165 : List (Nat × AI) := [(0, .aload_n 2, 1, 0, 0, 0, 0), (1, .iconst 0, 1, 0, 0, 0, 0), (2, .aload_n 0, 1, 0, 0, 0, 0), (3, .iload_n 1, 1, 0, 0, 0, 0), (4, .invokevirtual 62, 3, 87, 2, 814, 0), (7, .i2l, 1, 0, 0, 0, 0), (8, .lastore, 1, 0, 0, 0, 0), (9, .goto 6, 3, 15, 0, 0, 0), (12, .astore_n 3, 1, 0, 0, 0, 0), (13, .iconst 1, 1, 0, 0, 0, 0), (14, .ireturn, 1, 0, 0, 0, 0), (15, .iconst 0, 1, 0, 0, 0, 0), (16, .ireturn, 1, 0, 0, 0, 0)]
def cd_166 : List (Nat × AI) := [(0, .aload_n 2, 1, 0, 0, 0, 0), (1, .iconst 0, 1, 0, 0, 0, 0), (2, .aload_n 0, 1, 0, 0, 0, 0), (3, .iload_n 1, 1, 0, 0, 0, 0), (4, .invokevirtual 65, 3, 88, 2, 821, 0), (7, .i2l, 1, 0, 0, 0, 0), (8, .lastore, 1, 0, 0, 0, 0), (9, .goto 6, 3, 15, 0, 0, 0), (12, .astore_n 3, 1, 0, 0, 0, 0), (13, .iconst 1, 1, 0, 0, 0, 0), (14, .ireturn, 1, 0, 0, 0, 0), (15, .iconst 0, 1, 0, 0, 0, 0), (16, .ireturn, 1, 0, 0, 0, 0)]
def cd_167_0 : List (Nat × AI) := [(0, .new 8, 3, 7, 5, 65, 0), (3, .dup, 1, 0, 0, 0, 0), (4, .invokespecial 68, 3, 72, 1, 67, 0), (7, .astore_n 1, 1, 0, 0, 0, 0), (8, .new 69, 3, 8, 28, 825, 0), (11, .dup, 1, 0, 0, 0, 0), (12, .invokespecial 71, 3, 103, 1, 827, 0), (15, .astore_n 2, 1, 0, 0, 0, 0), (16, .iconst 1, 1, 0, 0, 0, 0), (17, .newarray .long, 2, 2, 0, 0, 0), (19, .astore_n 3, 1, 0, 0, 0, 0), (20, .iconst 0, 1, 0, 0, 0, 0), (21, .istore 4, 2, 0, 0, 0, 0), (23, .iload 4, 2, 0, 0, 0, 0), (25, .aload_n 0, 1, 0, 0, 0, 0), (26, .arraylength, 1, 0, 0, 0, 0), (27, .bipush 7, 2, 0, 0, 0, 0), (29, .isub, 1, 0, 0, 0, 0), (30, .if_icmp .gt 1246, 3, 1276, 0, 0, 0), (33, .aload_n 0, 1, 0, 0, 0, 0), (34, .iload 4, 2, 0, 0, 0, 0), (36, .iaload, 1, 0, 0, 0, 0), (37, .bipush 15, 2, 0, 0, 0, 0), (39, .iand, 1, 0, 0, 0, 0), (40, .tableswitch 1230 0 15 #[80, 148, 204, 296, 388, 468, 536, 604, 660, 716, 834, 902, 982, 1050, 1118, 1174], 80, 0, 0, 0, 0), (120, .aload_n 1, 1, 0, 0, 0, 0), (121, .aload_n 0, 1, 0, 0, 0, 0), (122, .iload 4, 2, 0, 0, 0, 0), (124, .iconst 1, 1, 0, 0, 0, 0), (125, .iadd, 1, 0, 0, 0, 0), (126, .iaload, 1, 0, 0, 0, 0), (127, .aload_n 0, 1, 0, 0, 0, 0), (128, .iload 4, 2, 0, 0, 0, 0), (130, .iconst 2, 1, 0, 0, 0, 0), (131, .iadd, 1, 0, 0, 0, 0), (132, .iaload, 1, 0, 0, 0, 0), (133, .aload_n 3, 1, 0, 0, 0, 0), (134, .invokestatic 72, 3, 151, 4, 175, 0), (137, .istore 5, 2, 0, 0, 0, 0), (139, .aload_n 2, 1, 0, 0, 0, 0), (140, .aload_n 0, 1, 0, 0, 0, 0), (141, .iload 4, 2, 0, 0, 0, 0), (143, .iconst 1, 1, 0, 0, 0, 0), (144, .iadd, 1, 0, 0, 0, 0), (145, .iaload, 1, 0, 0, 0, 0), (146, .aload_n 0, 1, 0, 0, 0, 0), (147, .iload 4, 2, 0, 0, 0, 0), (149, .iconst 2, 1, 0, 0, 0, 0), (150, .iadd, 1, 0, 0, 0, 0), (151, .iaload, 1, 0, 0, 0, 0), (152, .invokevirtual 77, 3, 114, 3, 921, 0), (155, .istore 6, 2, 0, 0, 0, 0), (157, .aload_n 2, 1, 0, 0, 0, 0), (158, .invokevirtual 78, 3, 104, 1, 917, 0), (161, .iload 5, 2, 0, 0, 0, 0), (163, .if_icmp .eq 5, 3, 168, 0, 0, 0), (166, .iconst 0, 1, 0, 0, 0, 0), (167, .ireturn, 1, 0, 0, 0, 0), (168, .iload 5, 2, 0, 0, 0, 0), (170, .ifCond .ne 15, 3, 185, 0, 0, 0)]
def cd_167_1 : List (Nat × AI) := [(173, .aload_n 3, 1, 0, 0, 0, 0), (174, .iconst 0, 1, 0, 0, 0, 0), (175, .laload, 1, 0, 0, 0, 0), (176, .iload 6, 2, 0, 0, 0, 0), (178, .i2l, 1, 0, 0, 0, 0), (179, .lcmp, 1, 0, 0, 0, 0), (180, .ifCond .eq 5, 3, 185, 0, 0, 0), (183, .iconst 0, 1, 0, 0, 0, 0), (184, .ireturn, 1, 0, 0, 0, 0), (185, .goto 1085, 3, 1270, 0, 0, 0), (188, .aload_n 1, 1, 0, 0, 0, 0), (189, .aload_n 0, 1, 0, 0, 0, 0), (190, .iload 4, 2, 0, 0, 0, 0), (192, .iconst 1, 1, 0, 0, 0, 0), (193, .iadd, 1, 0, 0, 0, 0), (194, .iaload, 1, 0, 0, 0, 0), (195, .aload_n 3, 1, 0, 0, 0, 0), (196, .invokestatic 82, 3, 152, 3, 290, 0), (199, .istore 5, 2, 0, 0, 0, 0), (201, .aload_n 2, 1, 0, 0, 0, 0), (202, .aload_n 0, 1, 0, 0, 0, 0), (203, .iload 4, 2, 0, 0, 0, 0), (205, .iconst 1, 1, 0, 0, 0, 0), (206, .iadd, 1, 0, 0, 0, 0), (207, .iaload, 1, 0, 0, 0, 0), (208, .invokevirtual 85, 3, 115, 2, 935, 0), (211, .istore 6, 2, 0, 0, 0, 0), (213, .aload_n 2, 1, 0, 0, 0, 0), (214, .invokevirtual 78, 3, 104, 1, 917, 0), (217, .iload 5, 2, 0, 0, 0, 0), (219, .if_icmp .eq 5, 3, 224, 0, 0, 0), (222, .iconst 0, 1, 0, 0, 0, 0), (223, .ireturn, 1, 0, 0, 0, 0), (224, .iload 5, 2, 0, 0, 0, 0), (226, .ifCond .ne 15, 3, 241, 0, 0, 0), (229, .aload_n 3, 1, 0, 0, 0, 0), (230, .iconst 0, 1, 0, 0, 0, 0), (231, .laload, 1, 0, 0, 0, 0), (232, .iload 6, 2, 0, 0, 0, 0), (234, .i2l, 1, 0, 0, 0, 0), (235, .lcmp, 1, 0, 0, 0, 0), (236, .ifCond .eq 5, 3, 241, 0, 0, 0), (239, .iconst 0, 1, 0, 0, 0, 0), (240, .ireturn, 1, 0, 0, 0, 0), (241, .goto 1029, 3, 1270, 0, 0, 0), (244, .aload_n 1, 1, 0, 0, 0, 0), (245, .aload_n 0, 1, 0, 0, 0, 0), (246, .iload 4, 2, 0, 0, 0, 0), (248, .iconst 1, 1, 0, 0, 0, 0), (249, .iadd, 1, 0, 0, 0, 0), (250, .iaload, 1, 0, 0, 0, 0), (251, .aload_n 0, 1, 0, 0, 0, 0), (252, .iload 4, 2, 0, 0, 0, 0), (254, .iconst 2, 1, 0, 0, 0, 0), (255, .iadd, 1, 0, 0, 0, 0), (256, .iaload, 1, 0, 0, 0, 0), (257, .aload_n 0, 1, 0, 0, 0, 0), (258, .iload 4, 2, 0, 0, 0, 0), (260, .iconst 3, 1, 0, 0, 0, 0), (261, .iadd, 1, 0, 0, 0, 0)]
def cd_167_2 : List (Nat × AI) := [(262, .iaload, 1, 0, 0, 0, 0), (263, .aload_n 0, 1, 0, 0, 0, 0), (264, .iload 4, 2, 0, 0, 0, 0), (266, .iconst 4, 1, 0, 0, 0, 0), (267, .iadd, 1, 0, 0, 0, 0), (268, .iaload, 1, 0, 0, 0, 0), (269, .aload_n 3, 1, 0, 0, 0, 0), (270, .invokestatic 86, 3, 153, 6, 444, 0), (273, .istore 5, 2, 0, 0, 0, 0), (275, .aload_n 2, 1, 0, 0, 0, 0), (276, .aload_n 0, 1, 0, 0, 0, 0), (277, .iload 4, 2, 0, 0, 0, 0), (279, .iconst 1, 1, 0, 0, 0, 0), (280, .iadd, 1, 0, 0, 0, 0), (281, .iaload, 1, 0, 0, 0, 0), (282, .aload_n 0, 1, 0, 0, 0, 0), (283, .iload 4, 2, 0, 0, 0, 0), (285, .iconst 2, 1, 0, 0, 0, 0), (286, .iadd, 1, 0, 0, 0, 0), (287, .iaload, 1, 0, 0, 0, 0), (288, .aload_n 0, 1, 0, 0, 0, 0), (289, .iload 4, 2, 0, 0, 0, 0), (291, .iconst 3, 1, 0, 0, 0, 0), (292, .iadd, 1, 0, 0, 0, 0), (293, .iaload, 1, 0, 0, 0, 0), (294, .aload_n 0, 1, 0, 0, 0, 0), (295, .iload 4, 2, 0, 0, 0, 0), (297, .iconst 4, 1, 0, 0, 0, 0), (298, .iadd, 1, 0, 0, 0, 0), (299, .iaload, 1, 0, 0, 0, 0), (300, .invokevirtual 89, 3, 117, 5, 942, 0), (303, .istore 6, 2, 0, 0, 0, 0), (305, .aload_n 2, 1, 0, 0, 0, 0), (306, .invokevirtual 78, 3, 104, 1, 917, 0), (309, .iload 5, 2, 0, 0, 0, 0), (311, .if_icmp .eq 5, 3, 316, 0, 0, 0), (314, .iconst 0, 1, 0, 0, 0, 0), (315, .ireturn, 1, 0, 0, 0, 0), (316, .iload 5, 2, 0, 0, 0, 0), (318, .ifCond .ne 15, 3, 333, 0, 0, 0), (321, .aload_n 3, 1, 0, 0, 0, 0), (322, .iconst 0, 1, 0, 0, 0, 0), (323, .laload, 1, 0, 0, 0, 0), (324, .iload 6, 2, 0, 0, 0, 0), (326, .i2l, 1, 0, 0, 0, 0), (327, .lcmp, 1, 0, 0, 0, 0), (328, .ifCond .eq 5, 3, 333, 0, 0, 0), (331, .iconst 0, 1, 0, 0, 0, 0), (332, .ireturn, 1, 0, 0, 0, 0), (333, .goto 937, 3, 1270, 0, 0, 0), (336, .aload_n 1, 1, 0, 0, 0, 0), (337, .aload_n 0, 1, 0, 0, 0, 0), (338, .iload 4, 2, 0, 0, 0, 0), (340, .iconst 1, 1, 0, 0, 0, 0), (341, .iadd, 1, 0, 0, 0, 0), (342, .iaload, 1, 0, 0, 0, 0), (343, .aload_n 0, 1, 0, 0, 0, 0), (344, .iload 4, 2, 0, 0, 0, 0), (346, .iconst 2, 1, 0, 0, 0, 0), (347, .iadd, 1, 0, 0, 0, 0)]
def cd_167_3 : List (Nat × AI) := [(348, .iaload, 1, 0, 0, 0, 0), (349, .aload_n 0, 1, 0, 0, 0, 0), (350, .iload 4, 2, 0, 0, 0, 0), (352, .iconst 3, 1, 0, 0, 0, 0), (353, .iadd, 1, 0, 0, 0, 0), (354, .iaload, 1, 0, 0, 0, 0), (355, .aload_n 0, 1, 0, 0, 0, 0), (356, .iload 4, 2, 0, 0, 0, 0), (358, .iconst 4, 1, 0, 0, 0, 0), (359, .iadd, 1, 0, 0, 0, 0), (360, .iaload, 1, 0, 0, 0, 0), (361, .aload_n 3, 1, 0, 0, 0, 0), (362, .invokestatic 90, 3, 154, 6, 598, 0), (365, .istore 5, 2, 0, 0, 0, 0), (367, .aload_n 2, 1, 0, 0, 0, 0), (368, .aload_n 0, 1, 0, 0, 0, 0), (369, .iload 4, 2, 0, 0, 0, 0), (371, .iconst 1, 1, 0, 0, 0, 0), (372, .iadd, 1, 0, 0, 0, 0), (373, .iaload, 1, 0, 0, 0, 0), (374, .aload_n 0, 1, 0, 0, 0, 0), (375, .iload 4, 2, 0, 0, 0, 0), (377, .iconst 2, 1, 0, 0, 0, 0), (378, .iadd, 1, 0, 0, 0, 0), (379, .iaload, 1, 0, 0, 0, 0), (380, .aload_n 0, 1, 0, 0, 0, 0), (381, .iload 4, 2, 0, 0, 0, 0), (383, .iconst 3, 1, 0, 0, 0, 0), (384, .iadd, 1, 0, 0, 0, 0), (385, .iaload, 1, 0, 0, 0, 0), (386, .aload_n 0, 1, 0, 0, 0, 0), (387, .iload 4, 2, 0, 0, 0, 0), (389, .iconst 4, 1, 0, 0, 0, 0), (390, .iadd, 1, 0, 0, 0, 0), (391, .iaload, 1, 0, 0, 0, 0), (392, .invokevirtual 92, 3, 118, 5, 1024, 0), (395, .istore 6, 2, 0, 0, 0, 0), (397, .aload_n 2, 1, 0, 0, 0, 0), (398, .invokevirtual 78, 3, 104, 1, 917, 0), (401, .iload 5, 2, 0, 0, 0, 0), (403, .if_icmp .eq 5, 3, 408, 0, 0, 0), (406, .iconst 0, 1, 0, 0, 0, 0), (407, .ireturn, 1, 0, 0, 0, 0), (408, .iload 5, 2, 0, 0, 0, 0), (410, .ifCond .ne 15, 3, 425, 0, 0, 0), (413, .aload_n 3, 1, 0, 0, 0, 0), (414, .iconst 0, 1, 0, 0, 0, 0), (415, .laload, 1, 0, 0, 0, 0), (416, .iload 6, 2, 0, 0, 0, 0), (418, .i2l, 1, 0, 0, 0, 0), (419, .lcmp, 1, 0, 0, 0, 0), (420, .ifCond .eq 5, 3, 425, 0, 0, 0), (423, .iconst 0, 1, 0, 0, 0, 0), (424, .ireturn, 1, 0, 0, 0, 0), (425, .goto 845, 3, 1270, 0, 0, 0), (428, .aload_n 1, 1, 0, 0, 0, 0), (429, .aload_n 0, 1, 0, 0, 0, 0), (430, .iload 4, 2, 0, 0, 0, 0), (432, .iconst 1, 1, 0, 0, 0, 0), (433, .iadd, 1, 0, 0, 0, 0)]
def cd_167_4 : List (Nat × AI) := [(434, .iaload, 1, 0, 0, 0, 0), (435, .aload_n 0, 1, 0, 0, 0, 0), (436, .iload 4, 2, 0, 0, 0, 0), (438, .iconst 2, 1, 0, 0, 0, 0), (439, .iadd, 1, 0, 0, 0, 0), (440, .iaload, 1, 0, 0, 0, 0), (441, .aload_n 0, 1, 0, 0, 0, 0), (442, .iload 4, 2, 0, 0, 0, 0), (444, .iconst 3, 1, 0, 0, 0, 0), (445, .iadd, 1, 0, 0, 0, 0), (446, .iaload, 1, 0, 0, 0, 0), (447, .aload_n 3, 1, 0, 0, 0, 0), (448, .invokestatic 93, 3, 155, 5, 634, 0), (451, .istore 5, 2, 0, 0, 0, 0), (453, .aload_n 2, 1, 0, 0, 0, 0), (454, .aload_n 0, 1, 0, 0, 0, 0), (455, .iload 4, 2, 0, 0, 0, 0), (457, .iconst 1, 1, 0, 0, 0, 0), (458, .iadd, 1, 0, 0, 0, 0), (459, .iaload, 1, 0, 0, 0, 0), (460, .aload_n 0, 1, 0, 0, 0, 0), (461, .iload 4, 2, 0, 0, 0, 0), (463, .iconst 2, 1, 0, 0, 0, 0), (464, .iadd, 1, 0, 0, 0, 0), (465, .iaload, 1, 0, 0, 0, 0), (466, .aload_n 0, 1, 0, 0, 0, 0), (467, .iload 4, 2, 0, 0, 0, 0), (469, .iconst 3, 1, 0, 0, 0, 0), (470, .iadd, 1, 0, 0, 0, 0), (471, .iaload, 1, 0, 0, 0, 0), (472, .invokevirtual 96, 3, 119, 4, 1028, 0), (475, .istore 6, 2, 0, 0, 0, 0), (477, .aload_n 2, 1, 0, 0, 0, 0), (478, .invokevirtual 78, 3, 104, 1, 917, 0), (481, .iload 5, 2, 0, 0, 0, 0), (483, .if_icmp .eq 5, 3, 488, 0, 0, 0), (486, .iconst 0, 1, 0, 0, 0, 0), (487, .ireturn, 1, 0, 0, 0, 0), (488, .iload 5, 2, 0, 0, 0, 0), (490, .ifCond .ne 15, 3, 505, 0, 0, 0), (493, .aload_n 3, 1, 0, 0, 0, 0), (494, .iconst 0, 1, 0, 0, 0, 0), (495, .laload, 1, 0, 0, 0, 0), (496, .iload 6, 2, 0, 0, 0, 0), (498, .i2l, 1, 0, 0, 0, 0), (499, .lcmp, 1, 0, 0, 0, 0), (500, .ifCond .eq 5, 3, 505, 0, 0, 0), (503, .iconst 0, 1, 0, 0, 0, 0), (504, .ireturn, 1, 0, 0, 0, 0), (505, .goto 765, 3, 1270, 0, 0, 0), (508, .aload_n 1, 1, 0, 0, 0, 0), (509, .aload_n 0, 1, 0, 0, 0, 0), (510, .iload 4, 2, 0, 0, 0, 0), (512, .iconst 1, 1, 0, 0, 0, 0), (513, .iadd, 1, 0, 0, 0, 0), (514, .iaload, 1, 0, 0, 0, 0), (515, .aload_n 0, 1, 0, 0, 0, 0), (516, .iload 4, 2, 0, 0, 0, 0), (518, .iconst 2, 1, 0, 0, 0, 0), (519, .iadd, 1, 0, 0, 0, 0)]
def cd_167_5 : List (Nat × AI) := [(520, .iaload, 1, 0, 0, 0, 0), (521, .aload_n 3, 1, 0, 0, 0, 0), (522, .invokestatic 97, 3, 156, 4, 654, 0), (525, .istore 5, 2, 0, 0, 0, 0), (527, .aload_n 2, 1, 0, 0, 0, 0), (528, .aload_n 0, 1, 0, 0, 0, 0), (529, .iload 4, 2, 0, 0, 0, 0), (531, .iconst 1, 1, 0, 0, 0, 0), (532, .iadd, 1, 0, 0, 0, 0), (533, .iaload, 1, 0, 0, 0, 0), (534, .aload_n 0, 1, 0, 0, 0, 0), (535, .iload 4, 2, 0, 0, 0, 0), (537, .iconst 2, 1, 0, 0, 0, 0), (538, .iadd, 1, 0, 0, 0, 0), (539, .iaload, 1, 0, 0, 0, 0), (540, .invokevirtual 99, 3, 126, 3, 1036, 0), (543, .istore 6, 2, 0, 0, 0, 0), (545, .aload_n 2, 1, 0, 0, 0, 0), (546, .invokevirtual 78, 3, 104, 1, 917, 0), (549, .iload 5, 2, 0, 0, 0, 0), (551, .if_icmp .eq 5, 3, 556, 0, 0, 0), (554, .iconst 0, 1, 0, 0, 0, 0), (555, .ireturn, 1, 0, 0, 0, 0), (556, .iload 5, 2, 0, 0, 0, 0), (558, .ifCond .ne 15, 3, 573, 0, 0, 0), (561, .aload_n 3, 1, 0, 0, 0, 0), (562, .iconst 0, 1, 0, 0, 0, 0), (563, .laload, 1, 0, 0, 0, 0), (564, .iload 6, 2, 0, 0, 0, 0), (566, .i2l, 1, 0, 0, 0, 0), (567, .lcmp, 1, 0, 0, 0, 0), (568, .ifCond .eq 5, 3, 573, 0, 0, 0), (571, .iconst 0, 1, 0, 0, 0, 0), (572, .ireturn, 1, 0, 0, 0, 0), (573, .goto 697, 3, 1270, 0, 0, 0), (576, .aload_n 1, 1, 0, 0, 0, 0), (577, .aload_n 0, 1, 0, 0, 0, 0), (578, .iload 4, 2, 0, 0, 0, 0), (580, .iconst 1, 1, 0, 0, 0, 0), (581, .iadd, 1, 0, 0, 0, 0), (582, .iaload, 1, 0, 0, 0, 0), (583, .aload_n 0, 1, 0, 0, 0, 0), (584, .iload 4, 2, 0, 0, 0, 0), (586, .iconst 2, 1, 0, 0, 0, 0), (587, .iadd, 1, 0, 0, 0, 0), (588, .iaload, 1, 0, 0, 0, 0), (589, .aload_n 3, 1, 0, 0, 0, 0), (590, .invokestatic 100, 3, 157, 4, 672, 0), (593, .istore 5, 2, 0, 0, 0, 0), (595, .aload_n 2, 1, 0, 0, 0, 0), (596, .aload_n 0, 1, 0, 0, 0, 0), (597, .iload 4, 2, 0, 0, 0, 0), (599, .iconst 1, 1, 0, 0, 0, 0), (600, .iadd, 1, 0, 0, 0, 0), (601, .iaload, 1, 0, 0, 0, 0), (602, .aload_n 0, 1, 0, 0, 0, 0), (603, .iload 4, 2, 0, 0, 0, 0), (605, .iconst 2, 1, 0, 0, 0, 0), (606, .iadd, 1, 0, 0, 0, 0), (607, .iaload, 1, 0, 0, 0, 0)]
def cd_167_6 : List (Nat × AI) := [(608, .invokevirtual 102, 3, 127, 3, 1043, 0), (611, .istore 6, 2, 0, 0, 0, 0), (613, .aload_n 2, 1, 0, 0, 0, 0), (614, .invokevirtual 78, 3, 104, 1, 917, 0), (617, .iload 5, 2, 0, 0, 0, 0), (619, .if_icmp .eq 5, 3, 624, 0, 0, 0), (622, .iconst 0, 1, 0, 0, 0, 0), (623, .ireturn, 1, 0, 0, 0, 0), (624, .iload 5, 2, 0, 0, 0, 0), (626, .ifCond .ne 15, 3, 641, 0, 0, 0), (629, .aload_n 3, 1, 0, 0, 0, 0), (630, .iconst 0, 1, 0, 0, 0, 0), (631, .laload, 1, 0, 0, 0, 0), (632, .iload 6, 2, 0, 0, 0, 0), (634, .i2l, 1, 0, 0, 0, 0), (635, .lcmp, 1, 0, 0, 0, 0), (636, .ifCond .eq 5, 3, 641, 0, 0, 0), (639, .iconst 0, 1, 0, 0, 0, 0), (640, .ireturn, 1, 0, 0, 0, 0), (641, .goto 629, 3, 1270, 0, 0, 0), (644, .aload_n 1, 1, 0, 0, 0, 0), (645, .aload_n 0, 1, 0, 0, 0, 0), (646, .iload 4, 2, 0, 0, 0, 0), (648, .iconst 1, 1, 0, 0, 0, 0), (649, .iadd, 1, 0, 0, 0, 0), (650, .iaload, 1, 0, 0, 0, 0), (651, .aload_n 3, 1, 0, 0, 0, 0), (652, .invokestatic 103, 3, 158, 3, 679, 0), (655, .istore 5, 2, 0, 0, 0, 0), (657, .aload_n 2, 1, 0, 0, 0, 0), (658, .aload_n 0, 1, 0, 0, 0, 0), (659, .iload 4, 2, 0, 0, 0, 0), (661, .iconst 1, 1, 0, 0, 0, 0), (662, .iadd, 1, 0, 0, 0, 0), (663, .iaload, 1, 0, 0, 0, 0), (664, .invokevirtual 105, 3, 130, 2, 1047, 0), (667, .istore 6, 2, 0, 0, 0, 0), (669, .aload_n 2, 1, 0, 0, 0, 0), (670, .invokevirtual 78, 3, 104, 1, 917, 0), (673, .iload 5, 2, 0, 0, 0, 0), (675, .if_icmp .eq 5, 3, 680, 0, 0, 0), (678, .iconst 0, 1, 0, 0, 0, 0), (679, .ireturn, 1, 0, 0, 0, 0), (680, .iload 5, 2, 0, 0, 0, 0), (682, .ifCond .ne 15, 3, 697, 0, 0, 0), (685, .aload_n 3, 1, 0, 0, 0, 0), (686, .iconst 0, 1, 0, 0, 0, 0), (687, .laload, 1, 0, 0, 0, 0), (688, .iload 6, 2, 0, 0, 0, 0), (690, .i2l, 1, 0, 0, 0, 0), (691, .lcmp, 1, 0, 0, 0, 0), (692, .ifCond .eq 5, 3, 697, 0, 0, 0), (695, .iconst 0, 1, 0, 0, 0, 0), (696, .ireturn, 1, 0, 0, 0, 0), (697, .goto 573, 3, 1270, 0, 0, 0), (700, .aload_n 1, 1, 0, 0, 0, 0), (701, .aload_n 0, 1, 0, 0, 0, 0), (702, .iload 4, 2, 0, 0, 0, 0), (704, .iconst 1, 1, 0, 0, 0, 0), (705, .iadd, 1, 0, 0, 0, 0)]
def cd_167_7 : List (Nat × AI) := [(706, .iaload, 1, 0, 0, 0, 0), (707, .aload_n 3, 1, 0, 0, 0, 0), (708, .invokestatic 106, 3, 159, 3, 693, 0), (711, .istore 5, 2, 0, 0, 0, 0), (713, .aload_n 2, 1, 0, 0, 0, 0), (714, .aload_n 0, 1, 0, 0, 0, 0), (715, .iload 4, 2, 0, 0, 0, 0), (717, .iconst 1, 1, 0, 0, 0, 0), (718, .iadd, 1, 0, 0, 0, 0), (719, .iaload, 1, 0, 0, 0, 0), (720, .invokevirtual 108, 3, 131, 2, 1059, 0), (723, .istore 6, 2, 0, 0, 0, 0), (725, .aload_n 2, 1, 0, 0, 0, 0), (726, .invokevirtual 78, 3, 104, 1, 917, 0), (729, .iload 5, 2, 0, 0, 0, 0), (731, .if_icmp .eq 5, 3, 736, 0, 0, 0), (734, .iconst 0, 1, 0, 0, 0, 0), (735, .ireturn, 1, 0, 0, 0, 0), (736, .iload 5, 2, 0, 0, 0, 0), (738, .ifCond .ne 15, 3, 753, 0, 0, 0), (741, .aload_n 3, 1, 0, 0, 0, 0), (742, .iconst 0, 1, 0, 0, 0, 0), (743, .laload, 1, 0, 0, 0, 0), (744, .iload 6, 2, 0, 0, 0, 0), (746, .i2l, 1, 0, 0, 0, 0), (747, .lcmp, 1, 0, 0, 0, 0), (748, .ifCond .eq 5, 3, 753, 0, 0, 0), (751, .iconst 0, 1, 0, 0, 0, 0), (752, .ireturn, 1, 0, 0, 0, 0), (753, .goto 517, 3, 1270, 0, 0, 0), (756, .aload_n 1, 1, 0, 0, 0, 0), (757, .aload_n 0, 1, 0, 0, 0, 0), (758, .iload 4, 2, 0, 0, 0, 0), (760, .iconst 1, 1, 0, 0, 0, 0), (761, .iadd, 1, 0, 0, 0, 0), (762, .iaload, 1, 0, 0, 0, 0), (763, .aload_n 0, 1, 0, 0, 0, 0), (764, .iload 4, 2, 0, 0, 0, 0), (766, .iconst 2, 1, 0, 0, 0, 0), (767, .iadd, 1, 0, 0, 0, 0), (768, .iaload, 1, 0, 0, 0, 0), (769, .aload_n 0, 1, 0, 0, 0, 0), (770, .iload 4, 2, 0, 0, 0, 0), (772, .iconst 3, 1, 0, 0, 0, 0), (773, .iadd, 1, 0, 0, 0, 0), (774, .iaload, 1, 0, 0, 0, 0), (775, .aload_n 0, 1, 0, 0, 0, 0), (776, .iload 4, 2, 0, 0, 0, 0), (778, .iconst 4, 1, 0, 0, 0, 0), (779, .iadd, 1, 0, 0, 0, 0), (780, .iaload, 1, 0, 0, 0, 0), (781, .aload_n 0, 1, 0, 0, 0, 0), (782, .iload 4, 2, 0, 0, 0, 0), (784, .iconst 5, 1, 0, 0, 0, 0), (785, .iadd, 1, 0, 0, 0, 0), (786, .iaload, 1, 0, 0, 0, 0), (787, .aload_n 0, 1, 0, 0, 0, 0), (788, .iload 4, 2, 0, 0, 0, 0), (790, .bipush 6, 2, 0, 0, 0, 0), (792, .iadd, 1, 0, 0, 0, 0)]
def cd_167_8 : List (Nat × AI) := [(793, .iaload, 1, 0, 0, 0, 0), (794, .aload_n 3, 1, 0, 0, 0, 0), (795, .invokestatic 109, 3, 160, 8, 704, 0), (798, .istore 5, 2, 0, 0, 0, 0), (800, .aload_n 2, 1, 0, 0, 0, 0), (801, .aload_n 0, 1, 0, 0, 0, 0), (802, .iload 4, 2, 0, 0, 0, 0), (804, .iconst 1, 1, 0, 0, 0, 0), (805, .iadd, 1, 0, 0, 0, 0), (806, .iaload, 1, 0, 0, 0, 0), (807, .aload_n 0, 1, 0, 0, 0, 0), (808, .iload 4, 2, 0, 0, 0, 0), (810, .iconst 2, 1, 0, 0, 0, 0), (811, .iadd, 1, 0, 0, 0, 0), (812, .iaload, 1, 0, 0, 0, 0), (813, .aload_n 0, 1, 0, 0, 0, 0), (814, .iload 4, 2, 0, 0, 0, 0), (816, .iconst 3, 1, 0, 0, 0, 0), (817, .iadd, 1, 0, 0, 0, 0), (818, .iaload, 1, 0, 0, 0, 0), (819, .aload_n 0, 1, 0, 0, 0, 0), (820, .iload 4, 2, 0, 0, 0, 0), (822, .iconst 4, 1, 0, 0, 0, 0), (823, .iadd, 1, 0, 0, 0, 0), (824, .iaload, 1, 0, 0, 0, 0), (825, .aload_n 0, 1, 0, 0, 0, 0), (826, .iload 4, 2, 0, 0, 0, 0), (828, .iconst 5, 1, 0, 0, 0, 0), (829, .iadd, 1, 0, 0, 0, 0), (830, .iaload, 1, 0, 0, 0, 0), (831, .aload_n 0, 1, 0, 0, 0, 0), (832, .iload 4, 2, 0, 0, 0, 0), (834, .bipush 6, 2, 0, 0, 0, 0), (836, .iadd, 1, 0, 0, 0, 0), (837, .iaload, 1, 0, 0, 0, 0), (838, .invokevirtual 112, 3, 132, 7, 1063, 0), (841, .istore 6, 2, 0, 0, 0, 0), (843, .aload_n 2, 1, 0, 0, 0, 0), (844, .invokevirtual 78, 3, 104, 1, 917, 0), (847, .iload 5, 2, 0, 0, 0, 0), (849, .if_icmp .eq 5, 3, 854, 0, 0, 0), (852, .iconst 0, 1, 0, 0, 0, 0), (853, .ireturn, 1, 0, 0, 0, 0), (854, .iload 5, 2, 0, 0, 0, 0), (856, .ifCond .ne 15, 3, 871, 0, 0, 0), (859, .aload_n 3, 1, 0, 0, 0, 0), (860, .iconst 0, 1, 0, 0, 0, 0), (861, .laload, 1, 0, 0, 0, 0), (862, .iload 6, 2, 0, 0, 0, 0), (864, .i2l, 1, 0, 0, 0, 0), (865, .lcmp, 1, 0, 0, 0, 0), (866, .ifCond .eq 5, 3, 871, 0, 0, 0), (869, .iconst 0, 1, 0, 0, 0, 0), (870, .ireturn, 1, 0, 0, 0, 0), (871, .goto 399, 3, 1270, 0, 0, 0), (874, .aload_n 1, 1, 0, 0, 0, 0), (875, .aload_n 0, 1, 0, 0, 0, 0), (876, .iload 4, 2, 0, 0, 0, 0), (878, .iconst 1, 1, 0, 0, 0, 0), (879, .iadd, 1, 0, 0, 0, 0)]
def cd_167_9 : List (Nat × AI) := [(880, .iaload, 1, 0, 0, 0, 0), (881, .aload_n 0, 1, 0, 0, 0, 0), (882, .iload 4, 2, 0, 0, 0, 0), (884, .iconst 2, 1, 0, 0, 0, 0), (885, .iadd, 1, 0, 0, 0, 0), (886, .iaload, 1, 0, 0, 0, 0), (887, .aload_n 3, 1, 0, 0, 0, 0), (888, .invokestatic 113, 3, 161, 4, 748, 0), (891, .istore 5, 2, 0, 0, 0, 0), (893, .aload_n 2, 1, 0, 0, 0, 0), (894, .aload_n 0, 1, 0, 0, 0, 0), (895, .iload 4, 2, 0, 0, 0, 0), (897, .iconst 1, 1, 0, 0, 0, 0), (898, .iadd, 1, 0, 0, 0, 0), (899, .iaload, 1, 0, 0, 0, 0), (900, .aload_n 0, 1, 0, 0, 0, 0), (901, .iload 4, 2, 0, 0, 0, 0), (903, .iconst 2, 1, 0, 0, 0, 0), (904, .iadd, 1, 0, 0, 0, 0), (905, .iaload, 1, 0, 0, 0, 0), (906, .invokevirtual 115, 3, 140, 3, 1067, 0), (909, .istore 6, 2, 0, 0, 0, 0), (911, .aload_n 2, 1, 0, 0, 0, 0), (912, .invokevirtual 78, 3, 104, 1, 917, 0), (915, .iload 5, 2, 0, 0, 0, 0), (917, .if_icmp .eq 5, 3, 922, 0, 0, 0), (920, .iconst 0, 1, 0, 0, 0, 0), (921, .ireturn, 1, 0, 0, 0, 0), (922, .iload 5, 2, 0, 0, 0, 0), (924, .ifCond .ne 15, 3, 939, 0, 0, 0), (927, .aload_n 3, 1, 0, 0, 0, 0), (928, .iconst 0, 1, 0, 0, 0, 0), (929, .laload, 1, 0, 0, 0, 0), (930, .iload 6, 2, 0, 0, 0, 0), (932, .i2l, 1, 0, 0, 0, 0), (933, .lcmp, 1, 0, 0, 0, 0), (934, .ifCond .eq 5, 3, 939, 0, 0, 0), (937, .iconst 0, 1, 0, 0, 0, 0), (938, .ireturn, 1, 0, 0, 0, 0), (939, .goto 331, 3, 1270, 0, 0, 0), (942, .aload_n 1, 1, 0, 0, 0, 0), (943, .aload_n 0, 1, 0, 0, 0, 0), (944, .iload 4, 2, 0, 0, 0, 0), (946, .iconst 1, 1, 0, 0, 0, 0), (947, .iadd, 1, 0, 0, 0, 0), (948, .iaload, 1, 0, 0, 0, 0), (949, .aload_n 0, 1, 0, 0, 0, 0), (950, .iload 4, 2, 0, 0, 0, 0), (952, .iconst 2, 1, 0, 0, 0, 0), (953, .iadd, 1, 0, 0, 0, 0), (954, .iaload, 1, 0, 0, 0, 0), (955, .aload_n 0, 1, 0, 0, 0, 0), (956, .iload 4, 2, 0, 0, 0, 0), (958, .iconst 3, 1, 0, 0, 0, 0), (959, .iadd, 1, 0, 0, 0, 0), (960, .iaload, 1, 0, 0, 0, 0), (961, .aload_n 3, 1, 0, 0, 0, 0), (962, .invokestatic 116, 3, 162, 5, 764, 0), (965, .istore 5, 2, 0, 0, 0, 0), (967, .aload_n 2, 1, 0, 0, 0, 0)]
def cd_167_10 : List (Nat × AI) := [(968, .aload_n 0, 1, 0, 0, 0, 0), (969, .iload 4, 2, 0, 0, 0, 0), (971, .iconst 1, 1, 0, 0, 0, 0), (972, .iadd, 1, 0, 0, 0, 0), (973, .iaload, 1, 0, 0, 0, 0), (974, .aload_n 0, 1, 0, 0, 0, 0), (975, .iload 4, 2, 0, 0, 0, 0), (977, .iconst 2, 1, 0, 0, 0, 0), (978, .iadd, 1, 0, 0, 0, 0), (979, .iaload, 1, 0, 0, 0, 0), (980, .aload_n 0, 1, 0, 0, 0, 0), (981, .iload 4, 2, 0, 0, 0, 0), (983, .iconst 3, 1, 0, 0, 0, 0), (984, .iadd, 1, 0, 0, 0, 0), (985, .iaload, 1, 0, 0, 0, 0), (986, .invokevirtual 118, 3, 141, 4, 1075, 0), (989, .istore 6, 2, 0, 0, 0, 0), (991, .aload_n 2, 1, 0, 0, 0, 0), (992, .invokevirtual 78, 3, 104, 1, 917, 0), (995, .iload 5, 2, 0, 0, 0, 0), (997, .if_icmp .eq 5, 3, 1002, 0, 0, 0), (1000, .iconst 0, 1, 0, 0, 0, 0), (1001, .ireturn, 1, 0, 0, 0, 0), (1002, .iload 5, 2, 0, 0, 0, 0), (1004, .ifCond .ne 15, 3, 1019, 0, 0, 0), (1007, .aload_n 3, 1, 0, 0, 0, 0), (1008, .iconst 0, 1, 0, 0, 0, 0), (1009, .laload, 1, 0, 0, 0, 0), (1010, .iload 6, 2, 0, 0, 0, 0), (1012, .i2l, 1, 0, 0, 0, 0), (1013, .lcmp, 1, 0, 0, 0, 0), (1014, .ifCond .eq 5, 3, 1019, 0, 0, 0), (1017, .iconst 0, 1, 0, 0, 0, 0), (1018, .ireturn, 1, 0, 0, 0, 0), (1019, .goto 251, 3, 1270, 0, 0, 0), (1022, .aload_n 1, 1, 0, 0, 0, 0), (1023, .aload_n 0, 1, 0, 0, 0, 0), (1024, .iload 4, 2, 0, 0, 0, 0), (1026, .iconst 1, 1, 0, 0, 0, 0), (1027, .iadd, 1, 0, 0, 0, 0), (1028, .iaload, 1, 0, 0, 0, 0), (1029, .aload_n 0, 1, 0, 0, 0, 0), (1030, .iload 4, 2, 0, 0, 0, 0), (1032, .iconst 2, 1, 0, 0, 0, 0), (1033, .iadd, 1, 0, 0, 0, 0), (1034, .iaload, 1, 0, 0, 0, 0), (1035, .aload_n 3, 1, 0, 0, 0, 0), (1036, .invokestatic 119, 3, 163, 4, 772, 0), (1039, .istore 5, 2, 0, 0, 0, 0), (1041, .aload_n 2, 1, 0, 0, 0, 0), (1042, .aload_n 0, 1, 0, 0, 0, 0), (1043, .iload 4, 2, 0, 0, 0, 0), (1045, .iconst 1, 1, 0, 0, 0, 0), (1046, .iadd, 1, 0, 0, 0, 0), (1047, .iaload, 1, 0, 0, 0, 0), (1048, .aload_n 0, 1, 0, 0, 0, 0), (1049, .iload 4, 2, 0, 0, 0, 0), (1051, .iconst 2, 1, 0, 0, 0, 0), (1052, .iadd, 1, 0, 0, 0, 0), (1053, .iaload, 1, 0, 0, 0, 0)]
def cd_167_11 : List (Nat × AI) := [(1054, .invokevirtual 121, 3, 147, 3, 1079, 0), (1057, .istore 6, 2, 0, 0, 0, 0), (1059, .aload_n 2, 1, 0, 0, 0, 0), (1060, .invokevirtual 78, 3, 104, 1, 917, 0), (1063, .iload 5, 2, 0, 0, 0, 0), (1065, .if_icmp .eq 5, 3, 1070, 0, 0, 0), (1068, .iconst 0, 1, 0, 0, 0, 0), (1069, .ireturn, 1, 0, 0, 0, 0), (1070, .iload 5, 2, 0, 0, 0, 0), (1072, .ifCond .ne 15, 3, 1087, 0, 0, 0), (1075, .aload_n 3, 1, 0, 0, 0, 0), (1076, .iconst 0, 1, 0, 0, 0, 0), (1077, .laload, 1, 0, 0, 0, 0), (1078, .iload 6, 2, 0, 0, 0, 0), (1080, .i2l, 1, 0, 0, 0, 0), (1081, .lcmp, 1, 0, 0, 0, 0), (1082, .ifCond .eq 5, 3, 1087, 0, 0, 0), (1085, .iconst 0, 1, 0, 0, 0, 0), (1086, .ireturn, 1, 0, 0, 0, 0), (1087, .goto 183, 3, 1270, 0, 0, 0), (1090, .aload_n 1, 1, 0, 0, 0, 0), (1091, .aload_n 0, 1, 0, 0, 0, 0), (1092, .iload 4, 2, 0, 0, 0, 0), (1094, .iconst 1, 1, 0, 0, 0, 0), (1095, .iadd, 1, 0, 0, 0, 0), (1096, .iaload, 1, 0, 0, 0, 0), (1097, .aload_n 0, 1, 0, 0, 0, 0), (1098, .iload 4, 2, 0, 0, 0, 0), (1100, .iconst 2, 1, 0, 0, 0, 0), (1101, .iadd, 1, 0, 0, 0, 0), (1102, .iaload, 1, 0, 0, 0, 0), (1103, .aload_n 3, 1, 0, 0, 0, 0), (1104, .invokestatic 122, 3, 164, 4, 795, 0), (1107, .istore 5, 2, 0, 0, 0, 0), (1109, .aload_n 2, 1, 0, 0, 0, 0), (1110, .aload_n 0, 1, 0, 0, 0, 0), (1111, .iload 4, 2, 0, 0, 0, 0), (1113, .iconst 1, 1, 0, 0, 0, 0), (1114, .iadd, 1, 0, 0, 0, 0), (1115, .iaload, 1, 0, 0, 0, 0), (1116, .aload_n 0, 1, 0, 0, 0, 0), (1117, .iload 4, 2, 0, 0, 0, 0), (1119, .iconst 2, 1, 0, 0, 0, 0), (1120, .iadd, 1, 0, 0, 0, 0), (1121, .iaload, 1, 0, 0, 0, 0), (1122, .invokevirtual 124, 3, 148, 3, 1087, 0), (1125, .istore 6, 2, 0, 0, 0, 0), (1127, .aload_n 2, 1, 0, 0, 0, 0), (1128, .invokevirtual 78, 3, 104, 1, 917, 0), (1131, .iload 5, 2, 0, 0, 0, 0), (1133, .if_icmp .eq 5, 3, 1138, 0, 0, 0), (1136, .iconst 0, 1, 0, 0, 0, 0), (1137, .ireturn, 1, 0, 0, 0, 0), (1138, .iload 5, 2, 0, 0, 0, 0), (1140, .ifCond .ne 15, 3, 1155, 0, 0, 0), (1143, .aload_n 3, 1, 0, 0, 0, 0), (1144, .iconst 0, 1, 0, 0, 0, 0), (1145, .laload, 1, 0, 0, 0, 0), (1146, .iload 6, 2, 0, 0, 0, 0), (1148, .i2l, 1, 0, 0, 0, 0)]
def cd_167_12 : List (Nat × AI) := [(1149, .lcmp, 1, 0, 0, 0, 0), (1150, .ifCond .eq 5, 3, 1155, 0, 0, 0), (1153, .iconst 0, 1, 0, 0, 0, 0), (1154, .ireturn, 1, 0, 0, 0, 0), (1155, .goto 115, 3, 1270, 0, 0, 0), (1158, .aload_n 1, 1, 0, 0, 0, 0), (1159, .aload_n 0, 1, 0, 0, 0, 0), (1160, .iload 4, 2, 0, 0, 0, 0), (1162, .iconst 1, 1, 0, 0, 0, 0), (1163, .iadd, 1, 0, 0, 0, 0), (1164, .iaload, 1, 0, 0, 0, 0), (1165, .aload_n 3, 1, 0, 0, 0, 0), (1166, .invokestatic 125, 3, 165, 3, 811, 0), (1169, .istore 5, 2, 0, 0, 0, 0), (1171, .aload_n 2, 1, 0, 0, 0, 0), (1172, .aload_n 0, 1, 0, 0, 0, 0), (1173, .iload 4, 2, 0, 0, 0, 0), (1175, .iconst 1, 1, 0, 0, 0, 0), (1176, .iadd, 1, 0, 0, 0, 0), (1177, .iaload, 1, 0, 0, 0, 0), (1178, .invokevirtual 127, 3, 149, 2, 1091, 0), (1181, .istore 6, 2, 0, 0, 0, 0), (1183, .aload_n 2, 1, 0, 0, 0, 0), (1184, .invokevirtual 78, 3, 104, 1, 917, 0), (1187, .iload 5, 2, 0, 0, 0, 0), (1189, .if_icmp .eq 5, 3, 1194, 0, 0, 0), (1192, .iconst 0, 1, 0, 0, 0, 0), (1193, .ireturn, 1, 0, 0, 0, 0), (1194, .iload 5, 2, 0, 0, 0, 0), (1196, .ifCond .ne 15, 3, 1211, 0, 0, 0), (1199, .aload_n 3, 1, 0, 0, 0, 0), (1200, .iconst 0, 1, 0, 0, 0, 0), (1201, .laload, 1, 0, 0, 0, 0), (1202, .iload 6, 2, 0, 0, 0, 0), (1204, .i2l, 1, 0, 0, 0, 0), (1205, .lcmp, 1, 0, 0, 0, 0), (1206, .ifCond .eq 5, 3, 1211, 0, 0, 0), (1209, .iconst 0, 1, 0, 0, 0, 0), (1210, .ireturn, 1, 0, 0, 0, 0), (1211, .goto 59, 3, 1270, 0, 0, 0), (1214, .aload_n 1, 1, 0, 0, 0, 0), (1215, .aload_n 0, 1, 0, 0, 0, 0), (1216, .iload 4, 2, 0, 0, 0, 0), (1218, .iconst 1, 1, 0, 0, 0, 0), (1219, .iadd, 1, 0, 0, 0, 0), (1220, .iaload, 1, 0, 0, 0, 0), (1221, .aload_n 3, 1, 0, 0, 0, 0), (1222, .invokestatic 128, 3, 166, 3, 818, 0), (1225, .istore 5, 2, 0, 0, 0, 0), (1227, .aload_n 2, 1, 0, 0, 0, 0), (1228, .aload_n 0, 1, 0, 0, 0, 0), (1229, .iload 4, 2, 0, 0, 0, 0), (1231, .iconst 1, 1, 0, 0, 0, 0), (1232, .iadd, 1, 0, 0, 0, 0), (1233, .iaload, 1, 0, 0, 0, 0), (1234, .invokevirtual 130, 3, 150, 2, 1095, 0), (1237, .istore 6, 2, 0, 0, 0, 0), (1239, .aload_n 2, 1, 0, 0, 0, 0), (1240, .invokevirtual 78, 3, 104, 1, 917, 0), (1243, .iload 5, 2, 0, 0, 0, 0)]
def cd_167_13 : List (Nat × AI) := [(1245, .if_icmp .eq 5, 3, 1250, 0, 0, 0), (1248, .iconst 0, 1, 0, 0, 0, 0), (1249, .ireturn, 1, 0, 0, 0, 0), (1250, .iload 5, 2, 0, 0, 0, 0), (1252, .ifCond .ne 15, 3, 1267, 0, 0, 0), (1255, .aload_n 3, 1, 0, 0, 0, 0), (1256, .iconst 0, 1, 0, 0, 0, 0), (1257, .laload, 1, 0, 0, 0, 0), (1258, .iload 6, 2, 0, 0, 0, 0), (1260, .i2l, 1, 0, 0, 0, 0), (1261, .lcmp, 1, 0, 0, 0, 0), (1262, .ifCond .eq 5, 3, 1267, 0, 0, 0), (1265, .iconst 0, 1, 0, 0, 0, 0), (1266, .ireturn, 1, 0, 0, 0, 0), (1267, .goto 3, 3, 1270, 0, 0, 0), (1270, .iinc 4 7, 3, 0, 0, 0, 0), (1273, .goto (-1250), 3, 23, 0, 0, 0), (1276, .iconst 1, 1, 0, 0, 0, 0), (1277, .ireturn, 1, 0, 0, 0, 0)]
def cd_167 : List (Nat × AI) := cd_167_0 ++ (cd_167_1 ++ (cd_167_2 ++ (cd_167_3 ++ (cd_167_4 ++ (cd_167_5 ++ (cd_167_6 ++ (cd_167_7 ++ (cd_167_8 ++ (cd_167_9 ++ (cd_167_10 ++ (cd_167_11 ++ (cd_167_12 ++ (cd_167_13)))))))))))))
def cdL : List (List (Nat × AI)) := [cd_0, cd_1, cd_2, cd_3, cd_4, cd_5, cd_6, cd_7, cd_8, cd_9, cd_10, cd_11, cd_12, cd_13, cd_14, cd_15, cd_16, cd_17, cd_18, cd_19, cd_20, cd_21, cd_22, cd_23, cd_24, cd_25, cd_26, cd_27, cd_28, cd_29, cd_30, cd_31, cd_32, cd_33, cd_34, cd_35, cd_36, cd_37, cd_38, cd_39, cd_40, cd_41, cd_42, cd_43, cd_44, cd_45, cd_46, cd_47, cd_48, cd_49, cd_50, cd_51, cd_52, cd_53, cd_54, cd_55, cd_56, cd_57, cd_58, cd_59, cd_60, cd_61, cd_62, cd_63, cd_64, cd_65, cd_66, cd_67, cd_68, cd_69, cd_70, cd_71, cd_72, cd_73, cd_74, cd_75, cd_76, cd_77, cd_78, cd_79, cd_80, cd_81, cd_82, cd_83, cd_84, cd_85, cd_86, cd_87, cd_88, cd_89, cd_90, cd_91, cd_92, cd_93, cd_94, cd_95, cd_96, cd_97, cd_98, cd_99, cd_100, cd_101, cd_102, cd_103, cd_104, cd_105, cd_106, cd_107, cd_108, cd_109, cd_110, cd_111, cd_112, cd_113, cd_114, cd_115, cd_116, cd_117, cd_118, cd_119, cd_120, cd_121, cd_122, cd_123, cd_124, cd_125, cd_126, cd_127, cd_128, cd_129, cd_130, cd_131, cd_132, cd_133, cd_134, cd_135, cd_136, cd_137, cd_138, cd_139, cd_140, cd_141, cd_142, cd_143, cd_144, cd_145, cd_146, cd_147, cd_148, cd_149, cd_150, cd_151, cd_152, cd_153, cd_154, cd_155, cd_156, cd_157, cd_158, cd_159, cd_160, cd_161, cd_162, cd_163, cd_164, cd_165, cd_166, cd_167]
def mB (m : Nat) : ByteArray := mBL.getD m ⟨#[]⟩
def mY (m : Nat) : MethodName := mYL.getD m ⟨"", "", ""⟩
def mR (m : Nat) : Option FieldType := mRL.getD m none
def mL (m : Nat) : Nat := mLL.getD m 0
def mH (m : Nat) : List (Nat × Nat × Nat × Nat) := mHL.getD m []
def mF (m : Nat) : Nat := mFL.getD m 0
def mO (m : Nat) : Nat := mOL.getD m 0
def mMC (m : Nat) : Nat := mCL.getD m 0
def mMS (m : Nat) : Nat := mSL.getD m 0
def mI (m : Nat) : Nat := mIL.getD m 99
def mT (m : Nat) : Bool := mTL.getD m false
def mJ (m : Nat) : Nat × Nat × Nat × Nat := mJL.getD m (0, 0, 0, 0)
def cdAt (m pc : Nat) : Option AI := (cdL.getD m []).lookup pc
end
section
/-! What the tables say of the code above: checked by the kernel, once for each method. -/
def nstW : List Cond := [.methodLinkNest "SheetMaker" (9 : Nat) ({ cls := "SheetMaker$Roads", name := "<init>", desc := "()V" } : Jvm.MethodName) "SheetMaker", .methodLinkNest "SheetMaker" (18 : Nat) ({ cls := "SheetMaker$Names", name := "<init>", desc := "()V" } : Jvm.MethodName) "SheetMaker", .methodLinkNest "SheetMaker" (32 : Nat) ({ cls := "SheetMaker$Picture", name := "<init>", desc := "()V" } : Jvm.MethodName) "SheetMaker", .methodLinkNest "SheetMaker" (39 : Nat) ({ cls := "SheetMaker$Road", name := "<init>", desc := "()V" } : Jvm.MethodName) "SheetMaker", .methodLinkNest "SheetMaker$Roads" (52 : Nat) ({ cls := "SheetMaker", name := "has", desc := "(II)Z" } : Jvm.MethodName) "SheetMaker", .methodLinkNest "SheetMaker$Road" (25 : Nat) ({ cls := "SheetMaker", name := "has", desc := "(II)Z" } : Jvm.MethodName) "SheetMaker", .methodLinkNest "SheetMaker$Road" (39 : Nat) ({ cls := "SheetMaker", name := "xOf", desc := "(I)I" } : Jvm.MethodName) "SheetMaker", .methodLinkNest "SheetMaker$Road" (42 : Nat) ({ cls := "SheetMaker", name := "yOf", desc := "(I)I" } : Jvm.MethodName) "SheetMaker", .methodLinkNest "SheetMaker$Name" (24 : Nat) ({ cls := "SheetMaker", name := "placeOf", desc := "(II)I" } : Jvm.MethodName) "SheetMaker", .methodLinkNest "SheetMaker$Sheet" (42 : Nat) ({ cls := "SheetMaker", name := "xOf", desc := "(I)I" } : Jvm.MethodName) "SheetMaker", .methodLinkNest "SheetMaker$Sheet" (48 : Nat) ({ cls := "SheetMaker", name := "yOf", desc := "(I)I" } : Jvm.MethodName) "SheetMaker", .methodLinkNest "SheetMaker$Names" (70 : Nat) ({ cls := "SheetMaker", name := "placeOf", desc := "(II)I" } : Jvm.MethodName) "SheetMaker", .methodLinkNest "SheetMaker$Sheet" (9 : Nat) ({ cls := "SheetMaker$Picture", name := "<init>", desc := "()V" } : Jvm.MethodName) "SheetMaker", .castable "java/lang/IllegalArgumentException" "java/lang/IllegalArgumentException", .castable "java/lang/IllegalStateException" "java/lang/IllegalStateException", .castable "java/lang/IndexOutOfBoundsException" "java/lang/IndexOutOfBoundsException", .castable "SheetMaker" "java/lang/Object", .castable "SheetMaker$Roads" "java/lang/Object", .castable "java/util/ArrayList" "java/lang/Object", .castable "SheetMaker$Names" "java/lang/Object", .castable "SheetMaker$Picture" "java/lang/Object", .castable "SheetMaker$Road" "java/lang/Object", .castable "SheetMakerModel" "java/lang/Object", .castable "java/lang/IllegalArgumentException" "java/lang/Object", .castable "java/lang/IllegalStateException" "java/lang/Object", .castable "java/lang/IndexOutOfBoundsException" "java/lang/Object", .castable "SheetMaker$Name" "java/lang/Object", .castable "SheetMaker$Sheet" "java/lang/Object", .castable "java/lang/Throwable" "java/lang/Object", .castable "java/lang/String" "java/lang/Object", .castable "[I" "java/lang/Object", .castable "[B" "java/lang/Object", .castable "[Ljava/lang/Object;" "java/lang/Object", .castable "[Z" "java/lang/Object", .castable "[J" "java/lang/Object"]
def strW : List (Nat × String) := [(218, "an argument is out of range"), (58, "the draft is full"), (67, "the draft ends at this place"), (76, "the draft is too short"), (79, "there are as many roads as there may be"), (204, "no such road"), (97, "no such point"), (100, "the point ahead or behind is at this place"), (113, "there are as many names as there may be"), (208, "no such name"), (214, "no such scale"), (146, "there are as many sheets as there may be"), (212, "no such sheet"), (182, "the stock would be too large"), (188, "the stock is less")]
def exN (e : Nat) : String := if e = 1 then "java/lang/IndexOutOfBoundsException" else if e = 2 then "java/lang/IllegalArgumentException" else "java/lang/IllegalStateException"
def exU : List String := ["java/lang/RuntimeException", "java/lang/Exception"]
def ncW : List (String × String) := [(exN 1, exN 2), (exN 1, exN 3), (exN 2, exN 1), (exN 2, exN 3), (exN 3, exN 1), (exN 3, exN 2)]
abbrev Tb : List Cond := lw_tbl.filter goodWord
def tb (j : Nat) (w : Cond) : Bool := decide (lw_tbl[j]? = some w) && goodWord w
theorem tb_mem {j : Nat} {w : Cond} (h : tb j w = true) : w ∈ Tb := by
  simp only [tb, Bool.and_eq_true, decide_eq_true_eq] at h
  exact List.mem_filter.mpr ⟨List.mem_of_getElem? h.1, h.2⟩
def codeW (k : Nat) : Cond := if mH k = [] then .code (mY k) (mB k) (mL k) (mR k) else .codeWith (mY k) (mB k) (mL k) (mR k) (mH k)
def okC (k : Nat) : Bool := tb (mJ k).1 (codeW k) && tb (mJ k).2.1 (.initialized (mY k).cls) && (if mT k then tb (mJ k).2.2.1 (.static (mY k)) else (tb (mJ k).2.2.1 (.instanceMethod (mY k)) && ((mY k).name == "<init>" || tb (mJ k).2.2.2 (.selects (mY k).cls (mY k) (mY k))))) && decide ((mY k).cls ≠ "java/lang/invoke/MethodHandle") && decide ((mY k).cls ≠ "java/lang/invoke/VarHandle") && plainName (mY k).cls
def okRoom (m k : Nat) : Bool := decide (mF k + 1 ≤ mF m) && decide (8 + (mL k + 11) + mO k ≤ mO m)
def okPar (k n : Nat) : Bool := decide ((parseMethodDescriptor (mY k).desc).map (fun d => d.parameters.length) = some n)
def okF (m a b j e idx : Nat) (put : Bool) : Bool := match vwCl[a]? with
  | some r => decide (b < r.2.2) && tb j (.fieldLink (mY m).cls idx (if e = 10 then RJx4a65c else (r.2.1 b).1) (r.2.1 b).2.1 (r.2.1 b).2.2.1) && (decide (e ≠ 10) || decide (a = 0 ∧ b = 0)) && (!put || !(r.2.1 b).2.2.2 || (decide ((mY m).name = "<init>") && decide ((r.2.1 b).1 = (mY m).cls)))
  | none => false
def okN (m a b j idx : Nat) : Bool := match vwCl[a]? with
  | some r => decide (r.2.2 = b) && tb j (.classLink (mY m).cls idx r.1)
  | none => false
def okCast (m a j idx : Nat) : Bool := match vwCl[a]? with
  | some r => tb j (.classLink (mY m).cls idx r.1)
  | none => false
def okX (m pc a b j idx : Nat) : Bool := decide (mH m = []) && decide ((mY m).cls = "SheetMaker") && tb j (.classLink (mY m).cls idx (exN a)) && decide (decode (mB m) (pc + 3) = .ok (.dup, 1)) && decide (decode (mB m) (pc + 4) = .ok (.ldc (b % 1000), 2)) && decide (decode (mB m) (pc + 6) = .ok (.invokespecial (b / 1000), 3)) && decide (decode (mB m) (pc + 9) = .ok (.athrow, 1))
  && decide (6 ≤ mF m) && decide (90 ≤ mO m) && decide ((a, b / 1000) = (1, 99) ∨ (a, b / 1000) = (2, 220) ∨ (a, b / 1000) = (3, 60)) && (strW.any fun q => decide (q.1 = b % 1000))
def okW (m pc : Nat) (q : AI) : Bool := match q with
  | (i, len, a, b, j, e) => match i with
    | .getfield idx => decide (len = 3) && okF m a b j e idx false
    | .putfield idx => decide (len = 3) && okF m a b j e idx true
    | .invokevirtual idx => decide (len = 3) && decide (1 ≤ b) && decide (a < 167) && okC a && tb j (.methodLink (mY m).cls idx (mY a)) && !mT a && !((mY a).name == "<init>") && okPar a (b - 1) && okRoom m a && decide ((vwCl[mI a]?).map (fun r => r.1) = some (mY a).cls) && decide (mH a = [])
    | .invokespecial idx => decide (len = 3) && (if e = 2 then tb j (.methodLink (mY m).cls idx Lib.objectInit) && decide (1 ≤ mF m) && decide (20 ≤ mO m) else
        decide (1 ≤ b) && decide (a < 167) && okC a && (if e = 1 then decide (Cond.methodLinkNest (mY m).cls idx (mY a) "SheetMaker" ∈ nstW) else tb j (.methodLink (mY m).cls idx (mY a))) && !mT a && ((mY a).name == "<init>") && okPar a (b - 1) && okRoom m a && decide (mH a = []) && decide (mR a = none))
    | .invokestatic idx => decide (len = 3) && (if e = 3 then tb j (.methodLink (mY m).cls idx Lib.Math.abs.name) && decide (1 ≤ mF m) && decide (21 ≤ mO m) else if e = 4 then tb j (.methodLink (mY m).cls idx Lib.Math.max.name) && decide (1 ≤ mF m) && decide (21 ≤ mO m) else decide (a < 167) && okC a && (if e = 1 then decide (Cond.methodLinkNest (mY m).cls idx (mY a) "SheetMaker" ∈ nstW) && decide (mH a = []) else tb j (.methodLink (mY m).cls idx (mY a))) && mT a && okPar a b && okRoom m a)
    | .new idx => decide (len = 3) && (if e = 1 then okX m pc a b j idx else okN m a b j idx)
    | .anewarray idx => decide (len = 3) && tb j (.classLink (mY m).cls idx "java/lang/Object")
    | .ldc idx => decide (len = 2) && tb j (.constant (mY m).cls idx (nI a))
    | .ldc_w idx => decide (len = 3) && tb j (.constant (mY m).cls idx (nI a))
    | .getstatic idx => decide (len = 3) && tb j (.fieldLink (mY m).cls idx "java/util/ArrayList" "DEFAULTCAPACITY_EMPTY_ELEMENTDATA" "[Ljava/lang/Object;")
    | .checkcast idx => decide (len = 3) && okCast m a j idx
    | .ifCond _ off => decide (len = 3) && decide ((pc : Int) + off = (a : Int))
    | .if_icmp _ off => decide (len = 3) && decide ((pc : Int) + off = (a : Int))
    | .if_acmp _ off => decide (len = 3) && decide ((pc : Int) + off = (a : Int))
    | .goto off => decide (len = 3) && decide ((pc : Int) + off = (a : Int))
    | .newarray _ => decide (len = 2)
    | .iinc _ _ | .sipush _ => decide (len = 3)
    | .iload _ | .aload _ | .istore _ | .astore _ | .bipush _ => decide (len = 2)
    | .tableswitch dflt _ _ offs => decide (0 ≤ (pc : Int) + dflt) && offs.toList.all (fun o => decide (0 ≤ (pc : Int) + o))
    | .areturn => decide (len = 1) && (match mR m with | some (.object _) => true | some (.array _) => true | _ => false)
    | _ => decide (len = 1)
def okA (m pc : Nat) (q : AI) : Bool := decide (decode (mB m) pc = .ok (q.1, q.2.1)) && okW m pc q
def okM (m : Nat) : Bool := (cdL.getD m []).all (fun q => okA m q.1 q.2)
set_option maxRecDepth 100000 in
theorem okM_0 : okM 0 = true := by decide +kernel
set_option maxRecDepth 100000 in
theorem okM_1 : okM 1 = true := by decide +kernel
set_option maxRecDepth 100000 in
theorem okM_2 : okM 2 = true := by decide +kernel
set_option maxRecDepth 100000 in
theorem okM_3 : okM 3 = true := by decide +kernel
set_option maxRecDepth 100000 in
theorem okM_4 : okM 4 = true := by decide +kernel
set_option maxRecDepth 100000 in
theorem okM_5 : okM 5 = true := by decide +kernel
set_option maxRecDepth 100000 in
theorem okM_6 : okM 6 = true := by decide +kernel
set_option maxRecDepth 100000 in
theorem okM_7 : okM 7 = true := by decide +kernel
set_option maxRecDepth 100000 in
theorem okM_8 : okM 8 = true := by decide +kernel
set_option maxRecDepth 100000 in
theorem okM_9 : okM 9 = true := by decide +kernel
set_option maxRecDepth 100000 in
theorem okM_10 : okM 10 = true := by decide +kernel
set_option maxRecDepth 100000 in
theorem okM_11 : okM 11 = true := by decide +kernel
set_option maxRecDepth 100000 in
theorem okM_12 : okM 12 = true := by decide +kernel
set_option maxRecDepth 100000 in
theorem okM_13 : okM 13 = true := by decide +kernel
set_option maxRecDepth 100000 in
theorem okM_14 : okM 14 = true := by decide +kernel
set_option maxRecDepth 100000 in
theorem okM_15 : okM 15 = true := by decide +kernel
set_option maxRecDepth 100000 in
theorem okM_16 : okM 16 = true := by decide +kernel
set_option maxRecDepth 100000 in
theorem okM_17 : okM 17 = true := by decide +kernel
set_option maxRecDepth 100000 in
theorem okM_18 : okM 18 = true := by decide +kernel
set_option maxRecDepth 100000 in
theorem okM_19 : okM 19 = true := by decide +kernel
set_option maxRecDepth 100000 in
theorem okM_20 : okM 20 = true := by decide +kernel
set_option maxRecDepth 100000 in
theorem okM_21 : okM 21 = true := by decide +kernel
set_option maxRecDepth 100000 in
theorem okM_22 : okM 22 = true := by decide +kernel
set_option maxRecDepth 100000 in
theorem okM_23 : okM 23 = true := by decide +kernel
set_option maxRecDepth 100000 in
theorem okM_24 : okM 24 = true := by decide +kernel
set_option maxRecDepth 100000 in
theorem okM_25 : okM 25 = true := by decide +kernel
set_option maxRecDepth 100000 in
theorem okM_26 : okM 26 = true := by decide +kernel
set_option maxRecDepth 100000 in
theorem okM_27 : okM 27 = true := by decide +kernel
set_option maxRecDepth 100000 in
theorem okM_28 : okM 28 = true := by decide +kernel
set_option maxRecDepth 100000 in
theorem okM_29 : okM 29 = true := by decide +kernel
set_option maxRecDepth 100000 in
theorem okM_30 : okM 30 = true := by decide +kernel
set_option maxRecDepth 100000 in
theorem okM_31 : okM 31 = true := by decide +kernel
set_option maxRecDepth 100000 in
theorem okM_32 : okM 32 = true := by decide +kernel
set_option maxRecDepth 100000 in
theorem okM_33 : okM 33 = true := by decide +kernel
set_option maxRecDepth 100000 in
theorem okM_34 : okM 34 = true := by decide +kernel
set_option maxRecDepth 100000 in
theorem okM_35 : okM 35 = true := by decide +kernel
set_option maxRecDepth 100000 in
theorem okM_36 : okM 36 = true := by decide +kernel
set_option maxRecDepth 100000 in
theorem okM_37 : okM 37 = true := by decide +kernel
set_option maxRecDepth 100000 in
theorem okM_38 : okM 38 = true := by decide +kernel
set_option maxRecDepth 100000 in
theorem okM_39 : okM 39 = true := by decide +kernel
set_option maxRecDepth 100000 in
theorem okM_40 : okM 40 = true := by decide +kernel
set_option maxRecDepth 100000 in
theorem okM_41 : okM 41 = true := by decide +kernel
set_option maxRecDepth 100000 in
theorem okM_42 : okM 42 = true := by decide +kernel
set_option maxRecDepth 100000 in
theorem okM_43 : okM 43 = true := by decide +kernel
set_option maxRecDepth 100000 in
theorem okM_44 : okM 44 = true := by decide +kernel
set_option maxRecDepth 100000 in
theorem okM_45 : okM 45 = true := by decide +kernel
set_option maxRecDepth 100000 in
theorem okM_46 : okM 46 = true := by decide +kernel
set_option maxRecDepth 100000 in
theorem okM_47 : okM 47 = true := by decide +kernel
set_option maxRecDepth 100000 in
theorem okM_48 : okM 48 = true := by decide +kernel
set_option maxRecDepth 100000 in
theorem okM_49 : okM 49 = true := by decide +kernel
set_option maxRecDepth 100000 in
theorem okM_50 : okM 50 = true := by decide +kernel
set_option maxRecDepth 100000 in
theorem okM_51 : okM 51 = true := by decide +kernel
set_option maxRecDepth 100000 in
theorem okM_52 : okM 52 = true := by decide +kernel
set_option maxRecDepth 100000 in
theorem okM_53 : okM 53 = true := by decide +kernel
set_option maxRecDepth 100000 in
theorem okM_54 : okM 54 = true := by decide +kernel
set_option maxRecDepth 100000 in
theorem okM_55 : okM 55 = true := by decide +kernel
set_option maxRecDepth 100000 in
theorem okM_56 : okM 56 = true := by decide +kernel
set_option maxRecDepth 100000 in
theorem okM_57 : okM 57 = true := by decide +kernel
set_option maxRecDepth 100000 in
theorem okM_58 : okM 58 = true := by decide +kernel
set_option maxRecDepth 100000 in
theorem okM_59 : okM 59 = true := by decide +kernel
set_option maxRecDepth 100000 in
theorem okM_60 : okM 60 = true := by decide +kernel
set_option maxRecDepth 100000 in
theorem okM_61 : okM 61 = true := by decide +kernel
set_option maxRecDepth 100000 in
theorem okM_62 : okM 62 = true := by decide +kernel
set_option maxRecDepth 100000 in
theorem okM_63 : okM 63 = true := by decide +kernel
set_option maxRecDepth 100000 in
theorem okM_64 : okM 64 = true := by decide +kernel
set_option maxRecDepth 100000 in
theorem okM_65 : okM 65 = true := by decide +kernel
set_option maxRecDepth 100000 in
theorem okM_66 : okM 66 = true := by decide +kernel
set_option maxRecDepth 100000 in
theorem okM_67 : okM 67 = true := by decide +kernel
set_option maxRecDepth 100000 in
theorem okM_68 : okM 68 = true := by decide +kernel
set_option maxRecDepth 100000 in
theorem okM_69 : okM 69 = true := by decide +kernel
set_option maxRecDepth 100000 in
theorem okM_70 : okM 70 = true := by decide +kernel
set_option maxRecDepth 100000 in
theorem okM_71 : okM 71 = true := by decide +kernel
set_option maxRecDepth 100000 in
theorem okM_72 : okM 72 = true := by decide +kernel
set_option maxRecDepth 100000 in
theorem okM_73 : okM 73 = true := by decide +kernel
set_option maxRecDepth 100000 in
theorem okM_74 : okM 74 = true := by decide +kernel
set_option maxRecDepth 100000 in
theorem okM_75 : okM 75 = true := by decide +kernel
set_option maxRecDepth 100000 in
theorem okM_76 : okM 76 = true := by decide +kernel
set_option maxRecDepth 100000 in
theorem okM_77 : okM 77 = true := by decide +kernel
set_option maxRecDepth 100000 in
theorem okM_78 : okM 78 = true := by decide +kernel
set_option maxRecDepth 100000 in
theorem okM_79 : okM 79 = true := by decide +kernel
set_option maxRecDepth 100000 in
theorem okM_80 : okM 80 = true := by decide +kernel
set_option maxRecDepth 100000 in
theorem okM_81 : okM 81 = true := by decide +kernel
set_option maxRecDepth 100000 in
theorem okM_82 : okM 82 = true := by decide +kernel
set_option maxRecDepth 100000 in
theorem okM_83 : okM 83 = true := by decide +kernel
set_option maxRecDepth 100000 in
theorem okM_84 : okM 84 = true := by decide +kernel
set_option maxRecDepth 100000 in
theorem okM_85 : okM 85 = true := by decide +kernel
set_option maxRecDepth 100000 in
theorem okM_86 : okM 86 = true := by decide +kernel
set_option maxRecDepth 100000 in
theorem okM_87 : okM 87 = true := by decide +kernel
set_option maxRecDepth 100000 in
theorem okM_88 : okM 88 = true := by decide +kernel
set_option maxRecDepth 100000 in
theorem okM_89 : okM 89 = true := by decide +kernel
set_option maxRecDepth 100000 in
theorem okM_90 : okM 90 = true := by decide +kernel
set_option maxRecDepth 100000 in
theorem okM_91 : okM 91 = true := by decide +kernel
set_option maxRecDepth 100000 in
theorem okM_92 : okM 92 = true := by decide +kernel
set_option maxRecDepth 100000 in
theorem okM_93 : okM 93 = true := by decide +kernel
set_option maxRecDepth 100000 in
theorem okM_94 : okM 94 = true := by decide +kernel
set_option maxRecDepth 100000 in
theorem okM_95 : okM 95 = true := by decide +kernel
set_option maxRecDepth 100000 in
theorem okM_96 : okM 96 = true := by decide +kernel
set_option maxRecDepth 100000 in
theorem okM_97 : okM 97 = true := by decide +kernel
set_option maxRecDepth 100000 in
theorem okM_98 : okM 98 = true := by decide +kernel
set_option maxRecDepth 100000 in
theorem okM_99 : okM 99 = true := by decide +kernel
set_option maxRecDepth 100000 in
theorem okM_100 : okM 100 = true := by decide +kernel
set_option maxRecDepth 100000 in
theorem okM_101 : okM 101 = true := by decide +kernel
set_option maxRecDepth 100000 in
theorem okM_102 : okM 102 = true := by decide +kernel
set_option maxRecDepth 100000 in
theorem okM_103 : okM 103 = true := by decide +kernel
set_option maxRecDepth 100000 in
theorem okM_104 : okM 104 = true := by decide +kernel
set_option maxRecDepth 100000 in
theorem okM_105 : okM 105 = true := by decide +kernel
set_option maxRecDepth 100000 in
theorem okM_106 : okM 106 = true := by decide +kernel
set_option maxRecDepth 100000 in
theorem okM_107 : okM 107 = true := by decide +kernel
set_option maxRecDepth 100000 in
theorem okM_108 : okM 108 = true := by decide +kernel
set_option maxRecDepth 100000 in
theorem okM_109 : okM 109 = true := by decide +kernel
set_option maxRecDepth 100000 in
theorem okM_110 : okM 110 = true := by decide +kernel
set_option maxRecDepth 100000 in
theorem okM_111 : okM 111 = true := by decide +kernel
set_option maxRecDepth 100000 in
theorem okM_112 : okM 112 = true := by decide +kernel
set_option maxRecDepth 100000 in
theorem okM_113 : okM 113 = true := by decide +kernel
set_option maxRecDepth 100000 in
theorem okM_114 : okM 114 = true := by decide +kernel
set_option maxRecDepth 100000 in
theorem okM_115 : okM 115 = true := by decide +kernel
set_option maxRecDepth 100000 in
theorem okM_116 : okM 116 = true := by decide +kernel
set_option maxRecDepth 100000 in
theorem okM_117 : okM 117 = true := by decide +kernel
set_option maxRecDepth 100000 in
theorem okM_118 : okM 118 = true := by decide +kernel
set_option maxRecDepth 100000 in
theorem okM_119 : okM 119 = true := by decide +kernel
set_option maxRecDepth 100000 in
theorem okM_120 : okM 120 = true := by decide +kernel
set_option maxRecDepth 100000 in
theorem okM_121 : okM 121 = true := by decide +kernel
set_option maxRecDepth 100000 in
theorem okM_122 : okM 122 = true := by decide +kernel
set_option maxRecDepth 100000 in
theorem okM_123 : okM 123 = true := by decide +kernel
set_option maxRecDepth 100000 in
theorem okM_124 : okM 124 = true := by decide +kernel
set_option maxRecDepth 100000 in
theorem okM_125 : okM 125 = true := by decide +kernel
set_option maxRecDepth 100000 in
theorem okM_126 : okM 126 = true := by decide +kernel
set_option maxRecDepth 100000 in
theorem okM_127 : okM 127 = true := by decide +kernel
set_option maxRecDepth 100000 in
theorem okM_128 : okM 128 = true := by decide +kernel
set_option maxRecDepth 100000 in
theorem okM_129 : okM 129 = true := by decide +kernel
set_option maxRecDepth 100000 in
theorem okM_130 : okM 130 = true := by decide +kernel
set_option maxRecDepth 100000 in
theorem okM_131 : okM 131 = true := by decide +kernel
set_option maxRecDepth 100000 in
theorem okM_132 : okM 132 = true := by decide +kernel
set_option maxRecDepth 100000 in
theorem okM_133 : okM 133 = true := by decide +kernel
set_option maxRecDepth 100000 in
theorem okM_134 : okM 134 = true := by decide +kernel
set_option maxRecDepth 100000 in
theorem okM_135 : okM 135 = true := by decide +kernel
set_option maxRecDepth 100000 in
theorem okM_136 : okM 136 = true := by decide +kernel
set_option maxRecDepth 100000 in
theorem okM_137 : okM 137 = true := by decide +kernel
set_option maxRecDepth 100000 in
theorem okM_138 : okM 138 = true := by decide +kernel
set_option maxRecDepth 100000 in
theorem okM_139 : okM 139 = true := by decide +kernel
set_option maxRecDepth 100000 in
theorem okM_140 : okM 140 = true := by decide +kernel
set_option maxRecDepth 100000 in
theorem okM_141 : okM 141 = true := by decide +kernel
set_option maxRecDepth 100000 in
theorem okM_142 : okM 142 = true := by decide +kernel
set_option maxRecDepth 100000 in
theorem okM_143 : okM 143 = true := by decide +kernel
set_option maxRecDepth 100000 in
theorem okM_144 : okM 144 = true := by decide +kernel
set_option maxRecDepth 100000 in
theorem okM_145 : okM 145 = true := by decide +kernel
set_option maxRecDepth 100000 in
theorem okM_146 : okM 146 = true := by decide +kernel
set_option maxRecDepth 100000 in
theorem okM_147 : okM 147 = true := by decide +kernel
set_option maxRecDepth 100000 in
theorem okM_148 : okM 148 = true := by decide +kernel
set_option maxRecDepth 100000 in
theorem okM_149 : okM 149 = true := by decide +kernel
set_option maxRecDepth 100000 in
theorem okM_150 : okM 150 = true := by decide +kernel
set_option maxRecDepth 100000 in
theorem okM_151 : okM 151 = true := by decide +kernel
set_option maxRecDepth 100000 in
theorem okM_152 : okM 152 = true := by decide +kernel
set_option maxRecDepth 100000 in
theorem okM_153 : okM 153 = true := by decide +kernel
set_option maxRecDepth 100000 in
theorem okM_154 : okM 154 = true := by decide +kernel
set_option maxRecDepth 100000 in
theorem okM_155 : okM 155 = true := by decide +kernel
set_option maxRecDepth 100000 in
theorem okM_156 : okM 156 = true := by decide +kernel
set_option maxRecDepth 100000 in
theorem okM_157 : okM 157 = true := by decide +kernel
set_option maxRecDepth 100000 in
theorem okM_158 : okM 158 = true := by decide +kernel
set_option maxRecDepth 100000 in
theorem okM_159 : okM 159 = true := by decide +kernel
set_option maxRecDepth 100000 in
theorem okM_160 : okM 160 = true := by decide +kernel
set_option maxRecDepth 100000 in
theorem okM_161 : okM 161 = true := by decide +kernel
set_option maxRecDepth 100000 in
theorem okM_162 : okM 162 = true := by decide +kernel
set_option maxRecDepth 100000 in
theorem okM_163 : okM 163 = true := by decide +kernel
set_option maxRecDepth 100000 in
theorem okM_164 : okM 164 = true := by decide +kernel
set_option maxRecDepth 100000 in
theorem okM_165 : okM 165 = true := by decide +kernel
set_option maxRecDepth 100000 in
theorem okM_166 : okM 166 = true := by decide +kernel
set_option maxRecDepth 100000 in
theorem okM_167_0 : cd_167_0.all (fun q => okA 167 q.1 q.2) = true := by decide +kernel
set_option maxRecDepth 100000 in
theorem okM_167_1 : cd_167_1.all (fun q => okA 167 q.1 q.2) = true := by decide +kernel
set_option maxRecDepth 100000 in
theorem okM_167_2 : cd_167_2.all (fun q => okA 167 q.1 q.2) = true := by decide +kernel
set_option maxRecDepth 100000 in
theorem okM_167_3 : cd_167_3.all (fun q => okA 167 q.1 q.2) = true := by decide +kernel
set_option maxRecDepth 100000 in
theorem okM_167_4 : cd_167_4.all (fun q => okA 167 q.1 q.2) = true := by decide +kernel
set_option maxRecDepth 100000 in
theorem okM_167_5 : cd_167_5.all (fun q => okA 167 q.1 q.2) = true := by decide +kernel
set_option maxRecDepth 100000 in
theorem okM_167_6 : cd_167_6.all (fun q => okA 167 q.1 q.2) = true := by decide +kernel
set_option maxRecDepth 100000 in
theorem okM_167_7 : cd_167_7.all (fun q => okA 167 q.1 q.2) = true := by decide +kernel
set_option maxRecDepth 100000 in
theorem okM_167_8 : cd_167_8.all (fun q => okA 167 q.1 q.2) = true := by decide +kernel
set_option maxRecDepth 100000 in
theorem okM_167_9 : cd_167_9.all (fun q => okA 167 q.1 q.2) = true := by decide +kernel
set_option maxRecDepth 100000 in
theorem okM_167_10 : cd_167_10.all (fun q => okA 167 q.1 q.2) = true := by decide +kernel
set_option maxRecDepth 100000 in
theorem okM_167_11 : cd_167_11.all (fun q => okA 167 q.1 q.2) = true := by decide +kernel
set_option maxRecDepth 100000 in
theorem okM_167_12 : cd_167_12.all (fun q => okA 167 q.1 q.2) = true := by decide +kernel
set_option maxRecDepth 100000 in
theorem okM_167_13 : cd_167_13.all (fun q => okA 167 q.1 q.2) = true := by decide +kernel
theorem okM_167 : okM 167 = true := by
  have e : cdL.getD 167 [] = cd_167 := rfl
  unfold okM
  rw [e]
  simp only [cd_167, List.all_append, okM_167_0, okM_167_1, okM_167_2, okM_167_3, okM_167_4, okM_167_5, okM_167_6, okM_167_7, okM_167_8, okM_167_9, okM_167_10, okM_167_11, okM_167_12, okM_167_13, Bool.and_self]
theorem okM_all : ∀ m, okM m = true := by
  intro m
  by_cases h : m < 168
  · match m, h with
    | 0, _ => exact okM_0
    | 1, _ => exact okM_1
    | 2, _ => exact okM_2
    | 3, _ => exact okM_3
    | 4, _ => exact okM_4
    | 5, _ => exact okM_5
    | 6, _ => exact okM_6
    | 7, _ => exact okM_7
    | 8, _ => exact okM_8
    | 9, _ => exact okM_9
    | 10, _ => exact okM_10
    | 11, _ => exact okM_11
    | 12, _ => exact okM_12
    | 13, _ => exact okM_13
    | 14, _ => exact okM_14
    | 15, _ => exact okM_15
    | 16, _ => exact okM_16
    | 17, _ => exact okM_17
    | 18, _ => exact okM_18
    | 19, _ => exact okM_19
    | 20, _ => exact okM_20
    | 21, _ => exact okM_21
    | 22, _ => exact okM_22
    | 23, _ => exact okM_23
    | 24, _ => exact okM_24
    | 25, _ => exact okM_25
    | 26, _ => exact okM_26
    | 27, _ => exact okM_27
    | 28, _ => exact okM_28
    | 29, _ => exact okM_29
    | 30, _ => exact okM_30
    | 31, _ => exact okM_31
    | 32, _ => exact okM_32
    | 33, _ => exact okM_33
    | 34, _ => exact okM_34
    | 35, _ => exact okM_35
    | 36, _ => exact okM_36
    | 37, _ => exact okM_37
    | 38, _ => exact okM_38
    | 39, _ => exact okM_39
    | 40, _ => exact okM_40
    | 41, _ => exact okM_41
    | 42, _ => exact okM_42
    | 43, _ => exact okM_43
    | 44, _ => exact okM_44
    | 45, _ => exact okM_45
    | 46, _ => exact okM_46
    | 47, _ => exact okM_47
    | 48, _ => exact okM_48
    | 49, _ => exact okM_49
    | 50, _ => exact okM_50
    | 51, _ => exact okM_51
    | 52, _ => exact okM_52
    | 53, _ => exact okM_53
    | 54, _ => exact okM_54
    | 55, _ => exact okM_55
    | 56, _ => exact okM_56
    | 57, _ => exact okM_57
    | 58, _ => exact okM_58
    | 59, _ => exact okM_59
    | 60, _ => exact okM_60
    | 61, _ => exact okM_61
    | 62, _ => exact okM_62
    | 63, _ => exact okM_63
    | 64, _ => exact okM_64
    | 65, _ => exact okM_65
    | 66, _ => exact okM_66
    | 67, _ => exact okM_67
    | 68, _ => exact okM_68
    | 69, _ => exact okM_69
    | 70, _ => exact okM_70
    | 71, _ => exact okM_71
    | 72, _ => exact okM_72
    | 73, _ => exact okM_73
    | 74, _ => exact okM_74
    | 75, _ => exact okM_75
    | 76, _ => exact okM_76
    | 77, _ => exact okM_77
    | 78, _ => exact okM_78
    | 79, _ => exact okM_79
    | 80, _ => exact okM_80
    | 81, _ => exact okM_81
    | 82, _ => exact okM_82
    | 83, _ => exact okM_83
    | 84, _ => exact okM_84
    | 85, _ => exact okM_85
    | 86, _ => exact okM_86
    | 87, _ => exact okM_87
    | 88, _ => exact okM_88
    | 89, _ => exact okM_89
    | 90, _ => exact okM_90
    | 91, _ => exact okM_91
    | 92, _ => exact okM_92
    | 93, _ => exact okM_93
    | 94, _ => exact okM_94
    | 95, _ => exact okM_95
    | 96, _ => exact okM_96
    | 97, _ => exact okM_97
    | 98, _ => exact okM_98
    | 99, _ => exact okM_99
    | 100, _ => exact okM_100
    | 101, _ => exact okM_101
    | 102, _ => exact okM_102
    | 103, _ => exact okM_103
    | 104, _ => exact okM_104
    | 105, _ => exact okM_105
    | 106, _ => exact okM_106
    | 107, _ => exact okM_107
    | 108, _ => exact okM_108
    | 109, _ => exact okM_109
    | 110, _ => exact okM_110
    | 111, _ => exact okM_111
    | 112, _ => exact okM_112
    | 113, _ => exact okM_113
    | 114, _ => exact okM_114
    | 115, _ => exact okM_115
    | 116, _ => exact okM_116
    | 117, _ => exact okM_117
    | 118, _ => exact okM_118
    | 119, _ => exact okM_119
    | 120, _ => exact okM_120
    | 121, _ => exact okM_121
    | 122, _ => exact okM_122
    | 123, _ => exact okM_123
    | 124, _ => exact okM_124
    | 125, _ => exact okM_125
    | 126, _ => exact okM_126
    | 127, _ => exact okM_127
    | 128, _ => exact okM_128
    | 129, _ => exact okM_129
    | 130, _ => exact okM_130
    | 131, _ => exact okM_131
    | 132, _ => exact okM_132
    | 133, _ => exact okM_133
    | 134, _ => exact okM_134
    | 135, _ => exact okM_135
    | 136, _ => exact okM_136
    | 137, _ => exact okM_137
    | 138, _ => exact okM_138
    | 139, _ => exact okM_139
    | 140, _ => exact okM_140
    | 141, _ => exact okM_141
    | 142, _ => exact okM_142
    | 143, _ => exact okM_143
    | 144, _ => exact okM_144
    | 145, _ => exact okM_145
    | 146, _ => exact okM_146
    | 147, _ => exact okM_147
    | 148, _ => exact okM_148
    | 149, _ => exact okM_149
    | 150, _ => exact okM_150
    | 151, _ => exact okM_151
    | 152, _ => exact okM_152
    | 153, _ => exact okM_153
    | 154, _ => exact okM_154
    | 155, _ => exact okM_155
    | 156, _ => exact okM_156
    | 157, _ => exact okM_157
    | 158, _ => exact okM_158
    | 159, _ => exact okM_159
    | 160, _ => exact okM_160
    | 161, _ => exact okM_161
    | 162, _ => exact okM_162
    | 163, _ => exact okM_163
    | 164, _ => exact okM_164
    | 165, _ => exact okM_165
    | 166, _ => exact okM_166
    | 167, _ => exact okM_167
    | _ + 168, h => exact absurd h (by omega)
  · have e : cdL.getD m [] = [] := by
      rw [List.getD_eq_getElem?_getD, List.getElem?_eq_none (by have : cdL.length = 168 := by decide +kernel
                                                                omega)]
      rfl
    unfold okM
    rw [e]
    rfl
theorem mw_abs : ∀ w ∈ [Cond.static Lib.Math.abs.name, Cond.initialized "java/lang/Math", Cond.code Lib.Math.abs.name Lib.Math.abs.code 1 (some .int)], w ∈ Tb := by
  have h : ([Cond.static Lib.Math.abs.name, Cond.initialized "java/lang/Math", Cond.code Lib.Math.abs.name Lib.Math.abs.code 1 (some .int)].all fun w => decide (w ∈ lw_tbl) && goodWord w) = true := by decide +kernel
  intro w hw
  have h2 := List.all_eq_true.mp h w hw
  simp only [Bool.and_eq_true, decide_eq_true_eq] at h2
  exact List.mem_filter.mpr h2
theorem mw_max : ∀ w ∈ [Cond.static Lib.Math.max.name, Cond.initialized "java/lang/Math", Cond.code Lib.Math.max.name Lib.Math.max.code 2 (some .int)], w ∈ Tb := by
  have h : ([Cond.static Lib.Math.max.name, Cond.initialized "java/lang/Math", Cond.code Lib.Math.max.name Lib.Math.max.code 2 (some .int)].all fun w => decide (w ∈ lw_tbl) && goodWord w) = true := by decide +kernel
  intro w hw
  have h2 := List.all_eq_true.mp h w hw
  simp only [Bool.and_eq_true, decide_eq_true_eq] at h2
  exact List.mem_filter.mpr h2
theorem lookup_mem {α : Type} : ∀ (l : List (Nat × α)) (k : Nat) (a : α), l.lookup k = some a → (k, a) ∈ l
  | [], k, a, h => by cases h
  | (k', a') :: l, k, a, h => by
    rw [List.lookup_cons] at h
    by_cases e : k = k'
    · subst e
      simp at h
      rw [h]
      exact List.mem_cons_self
    · rw [show (k == k') = false from beq_false_of_ne e] at h
      exact List.mem_cons_of_mem _ (lookup_mem l k a h)
theorem ok_at {m pc : Nat} {q : AI} (h : cdAt m pc = some q) : decode (mB m) pc = .ok (q.1, q.2.1) ∧ okW m pc q = true := by
  have h1 := List.all_eq_true.mp (okM_all m) _ (lookup_mem _ _ _ h)
  simp only [okA, Bool.and_eq_true, decide_eq_true_eq] at h1
  exact h1
end
section
/-! A small machine over worlds: what the methods' code does to locals, stack and the cells that are known. -/
abbrev Wd : Type := Nat → Option va_E
abbrev Lc : Type := List (Option Value)
abbrev Rt : Type := Option Value ⊕ Nat
abbrev Po : Type := Rt → Wd → Prop
abbrev Cx : Type := (ClassId × ClassId × ClassId × ClassId) × (Nat × Nat × Nat × (Nat → Int32))
abbrev FT : Type := Nat → Nat → Lc → List Value → Wd → Nat → Nat → Po → Prop
/-- the array types' numbers: ints, booleans, longs, objects -/
def aK (x : Cx) (k : Nat) : ClassId := match k with
  | 0 => x.1.1
  | 1 => x.1.2.1
  | 2 => x.1.2.2.1
  | _ => x.1.2.2.2
abbrev xE (x : Cx) : Nat := x.2.1
abbrev xB (x : Cx) : Nat := x.2.2.1
abbrev xN (x : Cx) : Nat := x.2.2.2.1
abbrev xS (x : Cx) : Nat → Int32 := x.2.2.2.2
abbrev eI (x : Cx) (n : Nat) (f : Nat → Int32) : va_E := .inl (x.1.1, n, .inl f)
abbrev eZ (x : Cx) (n : Nat) (f : Nat → Int32) : va_E := .inl (x.1.2.1, n, .inl f)
abbrev eJ (x : Cx) (n : Nat) (f : Nat → Int64) : va_E := .inl (x.1.2.2.1, n, .inr (.inl f))
abbrev eQ (x : Cx) (n : Nat) (f : Nat → Option Nat) : va_E := .inl (x.1.2.2.2, n, .inr (.inr (.inr (.inr f))))
abbrev eO (ci : Nat) (fs : List Value) : va_E := .inr (ci, fs)
def qs1 (S : List Value) (K : Int32 → List Value → Prop) : Prop := match S with
  | .int a :: S => K a S
  | _ => False
def qs2 (S : List Value) (K : Int32 → Int32 → List Value → Prop) : Prop := match S with
  | .int b :: .int a :: S => K a b S
  | _ => False
def qsr (S : List Value) (K : Nat → List Value → Prop) : Prop := match S with
  | .ref a :: S => K a S
  | _ => False
def qsv (S : List Value) (K : Value → List Value → Prop) : Prop := match S with
  | .int a :: S => K (.int a) S
  | .ref a :: S => K (.ref a) S
  | .null :: S => K .null S
  | _ => False
def qsir (S : List Value) (K : Int32 → Nat → List Value → Prop) : Prop := match S with
  | .int i :: .ref o :: S => K i o S
  | _ => False
def qsiir (S : List Value) (K : Int32 → Int32 → Nat → List Value → Prop) : Prop := match S with
  | .int v :: .int i :: .ref o :: S => K v i o S
  | _ => False
def qslir (S : List Value) (K : Int64 → Int32 → Nat → List Value → Prop) : Prop := match S with
  | .long v :: .int i :: .ref o :: S => K v i o S
  | _ => False
def qsrir (S : List Value) (K : Nat → Int32 → Nat → List Value → Prop) : Prop := match S with
  | .ref v :: .int i :: .ref o :: S => K v i o S
  | _ => False
def qsvr (S : List Value) (K : Value → Nat → List Value → Prop) : Prop := match S with
  | v :: .ref o :: S => K v o S
  | _ => False
def qsrr (S : List Value) (K : Nat → Nat → List Value → Prop) : Prop := match S with
  | .ref b :: .ref a :: S => K a b S
  | _ => False
def qsll (S : List Value) (K : Int64 → Int64 → List Value → Prop) : Prop := match S with
  | .long b :: .long a :: S => K a b S
  | _ => False
def qsn (S : List Value) (P : Prop) : Prop := match S with
  | [] => P
  | _ => False
def qlI (L : Lc) (i : Nat) (K : Int32 → Prop) : Prop := match L[i]? with
  | some (some (.int x)) => K x
  | _ => False
def qlA (L : Lc) (i : Nat) (K : Value → Prop) : Prop := match L[i]? with
  | some (some (.ref a)) => K (.ref a)
  | some (some .null) => K .null
  | _ => False
/-- an object of the class ci -/
def qwO (e : Option va_E) (ci : Nat) (K : List Value → Prop) : Prop := match e with
  | some (.inr (c, fs)) => c = ci ∧ K fs
  | _ => False
def qwK (e : Option va_E) (ci : Nat) : Prop := match e with
  | some (.inr (c, _)) => c = ci
  | _ => False
def qwV (fs : List Value) (k : Nat) (K : Value → Prop) : Prop := match fs[k]? with
  | some v => K v
  | none => False
def qwI (e : Option va_E) (c : ClassId) (K : Nat → (Nat → Int32) → Prop) : Prop := match e with
  | some (.inl (c', n, .inl f)) => c' = c ∧ K n f
  | _ => False
/-- a row of ints, or the script -/
def qwL (x : Cx) (e : Option va_E) (o : Nat) (K : Nat → (Nat → Int32) → Prop) : Prop := match e with
  | none => o = xB x ∧ K (xN x) (xS x)
  | some (.inl (c', n, .inl f)) => c' = aK x 0 ∧ K n f
  | _ => False
def qwJ (e : Option va_E) (c : ClassId) (K : Nat → (Nat → Int64) → Prop) : Prop := match e with
  | some (.inl (c', n, .inr (.inl f))) => c' = c ∧ K n f
  | _ => False
def qwQ (e : Option va_E) (c : ClassId) (K : Nat → (Nat → Option Nat) → Prop) : Prop := match e with
  | some (.inl (c', n, .inr (.inr (.inr (.inr f))))) => c' = c ∧ K n f
  | _ => False
def qwA (x : Cx) (e : Option va_E) (o : Nat) (K : Nat → Prop) : Prop := match e with
  | none => if o = xE x then K 0 else (o = xB x ∧ K (xN x))
  | some (.inl (c, n, .inl _)) => (c = aK x 0 ∨ c = aK x 1) ∧ K n
  | some (.inl (c, n, .inr (.inr (.inr (.inr _))))) => c = aK x 3 ∧ K n
  | _ => False
def qty (ty : FieldType) (v : Value) (P : Prop) : Prop := match ty, v with
  | .int, .int _ => P
  | .boolean, .int y => (y = 0 ∨ y = 1) ∧ P
  | .object _, .ref _ => P
  | .object _, .null => P
  | .array _, .ref _ => P
  | .array _, .null => P
  | _, _ => False
def qrt (r : Option FieldType) (v : Int32) (P : Prop) : Prop := match r with
  | some .int => P
  | some .boolean => (v = 0 ∨ v = 1) ∧ P
  | _ => False
def qtk : Nat → List Value → List Value → (List Value → List Value → Prop) → Prop
  | 0, S, acc, K => K acc S
  | n + 1, v :: S, acc, K => qtk n S (v :: acc) K
  | _ + 1, [], _, _ => False
def fty (ci k : Nat) : FieldType := match ci with
  | 0 => tyJx4a65c k
  | 1 => tyX0 k
  | 2 => tyX1 k
  | 3 => tyX2 k
  | 4 => tyX3 k
  | 5 => tyX4 k
  | 6 => tyX5 k
  | 7 => tyX6 k
  | _ => tyX7 k
def fN (ci : Nat) : Nat := match ci with
  | 0 => 3
  | 1 => 4
  | 2 => 1
  | 3 => 3
  | 4 => 4
  | 5 => 1
  | 6 => 9
  | 7 => 5
  | _ => 28
def dfl (ci : Nat) : List Value := (List.range (fN ci)).map (fun k => defaultValue (fty ci k))
/-- the kind of a caught class: by its number in the law's pool -/
def hxk (c : Nat) : Nat := if c = 25 then 1 else if c = 13 then 2 else 3
def hnd (m pc : Nat) : List (Nat × Nat) := (mH m).filterMap (fun q => if q.1 ≤ pc ∧ pc < q.2.1 then some (hxk q.2.2.2, q.2.2.1) else none)
def cat1 : Value → Bool
  | .int _ => true
  | .ref _ => true
  | .null => true
  | _ => false
def CLF (F : FT) (k : Nat) (args : List Value) (w : Wd) (K : Po) : Prop :=
  (args.all cat1 = true ∧ args.length ≤ mL k) ∧ ∃ R : Po, F k 0 (args.map some ++ List.replicate (mL k - args.length) none) [] w (mMC k) (mMS k) R ∧ ∀ r w', R r w' → K r w'
def aftF (F : FT) (m pc pc' : Nat) (L : Lc) (S : List Value) (mc ms : Nat) (post : Po) : Po := fun r w' => match r with
  | .inl v => F m pc' L (v.toList ++ S) w' mc ms post
  | .inr e => match (hnd m pc).lookup e with
    | some h => ∀ q : Nat, F m h L [.ref q] w' mc ms post
    | none => post (.inr e) w'
/-- behind a call that can't throw -/
def aftN (F : FT) (m pc' : Nat) (L : Lc) (S : List Value) (mc ms : Nat) (post : Po) : Po := fun r w' => match r with
  | .inl v => F m pc' L (v.toList ++ S) w' mc ms post
  | .inr _ => False
def rcv (w : Wd) (args : List Value) (ci : Nat) : Prop := match args with
  | .ref o :: _ => qwK (w o) ci
  | _ => False
def rcI (args : List Value) : Prop := match args with
  | .ref _ :: _ => True
  | _ => False
def frs (x : Cx) (w : Wd) (o : Nat) : Prop := w o = none ∧ o ≠ xE x ∧ o ≠ xB x
def stepI (x : Cx) (ai : AI) (F : FT) (m pc : Nat) (L : Lc) (S : List Value) (w : Wd) (mc ms : Nat) (post : Po) : Prop :=
  match ai.1 with
  | .iconst n => F m (pc + 1) L (.int (Int32.ofInt n) :: S) w mc ms post
  | .bipush n => F m (pc + 2) L (.int ((Int8.ofInt n).toInt32) :: S) w mc ms post
  | .sipush n => F m (pc + 3) L (.int ((Int16.ofInt n).toInt32) :: S) w mc ms post
  | .aconst_null => F m (pc + 1) L (.null :: S) w mc ms post
  | .ldc _ => F m (pc + 2) L (.int (nI ai.2.2.1) :: S) w mc ms post
  | .ldc_w _ => F m (pc + 3) L (.int (nI ai.2.2.1) :: S) w mc ms post
  | .iload_n k => qlI L k fun v => F m (pc + 1) L (.int v :: S) w mc ms post
  | .iload k => qlI L k fun v => F m (pc + 2) L (.int v :: S) w mc ms post
  | .aload_n k => qlA L k fun v => F m (pc + 1) L (v :: S) w mc ms post
  | .aload k => qlA L k fun v => F m (pc + 2) L (v :: S) w mc ms post
  | .istore_n k => qs1 S fun v S => (k : Nat) < L.length ∧ F m (pc + 1) (L.set k (some (.int v))) S w mc ms post
  | .istore k => qs1 S fun v S => k < L.length ∧ F m (pc + 2) (L.set k (some (.int v))) S w mc ms post
  | .astore_n k => qsr S fun v S => (k : Nat) < L.length ∧ F m (pc + 1) (L.set k (some (.ref v))) S w mc ms post
  | .astore k => qsr S fun v S => k < L.length ∧ F m (pc + 2) (L.set k (some (.ref v))) S w mc ms post
  | .iinc k n => qlI L k fun v => k < L.length ∧ F m (pc + 3) (L.set k (some (.int (v + Int32.ofInt n)))) S w mc ms post
  | .iadd => qs2 S fun a b S => F m (pc + 1) L (.int (a + b) :: S) w mc ms post
  | .isub => qs2 S fun a b S => F m (pc + 1) L (.int (a - b) :: S) w mc ms post
  | .imul => qs2 S fun a b S => F m (pc + 1) L (.int (a * b) :: S) w mc ms post
  | .idiv => qs2 S fun a b S => (¬ b = 0) ∧ F m (pc + 1) L (.int (a / b) :: S) w mc ms post
  | .irem => qs2 S fun a b S => (¬ b = 0) ∧ F m (pc + 1) L (.int (a - a / b * b) :: S) w mc ms post
  | .ineg => qs1 S fun a S => F m (pc + 1) L (.int (-a) :: S) w mc ms post
  | .iand => qs2 S fun a b S => F m (pc + 1) L (.int (a &&& b) :: S) w mc ms post
  | .ixor => qs2 S fun a b S => F m (pc + 1) L (.int (a ^^^ b) :: S) w mc ms post
  | .ishl => qs2 S fun a b S => F m (pc + 1) L (.int (a <<< (b &&& 31)) :: S) w mc ms post
  | .ishr => qs2 S fun a b S => F m (pc + 1) L (.int (a >>> (b &&& 31)) :: S) w mc ms post
  | .iushr => qs2 S fun a b S => F m (pc + 1) L (.int ((a.toUInt32 >>> (b.toUInt32 &&& Int32.toUInt32 31)).toInt32) :: S) w mc ms post
  | .i2l => qs1 S fun a S => F m (pc + 1) L (.long a.toInt64 :: S) w mc ms post
  | .lcmp => qsll S fun a b S => F m (pc + 1) L (.int (lg_cmp a b) :: S) w mc ms post
  | .dup => qsv S fun v S => F m (pc + 1) L (v :: v :: S) w mc ms post
  | .pop => qsv S fun _ S => F m (pc + 1) L S w mc ms post
  | .dup_x1 => qsv S fun v S => qsv S fun u S => F m (pc + 1) L (v :: u :: v :: S) w mc ms post
  | .dup2 => qsv S fun v S => qsv S fun u S => F m (pc + 1) L (v :: u :: v :: u :: S) w mc ms post
  | .goto _ => F m ai.2.2.1 L S w mc ms post
  | .ifCond c _ => qs1 S fun a S => match c with
    | .eq => if a = 0 then F m ai.2.2.1 L S w mc ms post else F m (pc + 3) L S w mc ms post
    | .ne => if a = 0 then F m (pc + 3) L S w mc ms post else F m ai.2.2.1 L S w mc ms post
    | .lt => if a < 0 then F m ai.2.2.1 L S w mc ms post else F m (pc + 3) L S w mc ms post
    | .ge => if 0 ≤ a then F m ai.2.2.1 L S w mc ms post else F m (pc + 3) L S w mc ms post
    | .gt => if 0 < a then F m ai.2.2.1 L S w mc ms post else F m (pc + 3) L S w mc ms post
    | .le => if a ≤ 0 then F m ai.2.2.1 L S w mc ms post else F m (pc + 3) L S w mc ms post
  | .if_icmp c _ => qs2 S fun a b S => match c with
    | .eq => if a = b then F m ai.2.2.1 L S w mc ms post else F m (pc + 3) L S w mc ms post
    | .ne => if a = b then F m (pc + 3) L S w mc ms post else F m ai.2.2.1 L S w mc ms post
    | .lt => if a < b then F m ai.2.2.1 L S w mc ms post else F m (pc + 3) L S w mc ms post
    | .ge => if b ≤ a then F m ai.2.2.1 L S w mc ms post else F m (pc + 3) L S w mc ms post
    | .gt => if b < a then F m ai.2.2.1 L S w mc ms post else F m (pc + 3) L S w mc ms post
    | .le => if a ≤ b then F m ai.2.2.1 L S w mc ms post else F m (pc + 3) L S w mc ms post
  | .if_acmp c _ => qsrr S fun a b S => match c with
    | .eq => if a = b then F m ai.2.2.1 L S w mc ms post else F m (pc + 3) L S w mc ms post
    | .ne => if a = b then F m (pc + 3) L S w mc ms post else F m ai.2.2.1 L S w mc ms post
  | .getfield _ => qsr S fun o S => qwO (w o) ai.2.2.1 fun fs => qwV fs ai.2.2.2.1 fun v => F m (pc + 3) L (v :: S) w mc ms post
  | .putfield _ => qsvr S fun v o S => qwO (w o) ai.2.2.1 fun fs => ai.2.2.2.1 < fs.length ∧ qty (fty ai.2.2.1 ai.2.2.2.1) v (F m (pc + 3) L S (va_up w o (some (eO ai.2.2.1 (fs.set ai.2.2.2.1 v)))) mc ms post)
  | .iaload => qsir S fun i o S => qwL x (w o) o fun n f => vp_in i n ∧ F m (pc + 1) L (.int (f i.toNatClampNeg) :: S) w mc ms post
  | .baload => qsir S fun i o S => qwI (w o) (aK x 1) fun n f => vp_in i n ∧ F m (pc + 1) L (.int (f i.toNatClampNeg) :: S) w mc ms post
  | .laload => qsir S fun i o S => qwJ (w o) (aK x 2) fun n f => vp_in i n ∧ F m (pc + 1) L (.long (f i.toNatClampNeg) :: S) w mc ms post
  | .aaload => qsir S fun i o S => qwQ (w o) (aK x 3) fun n f => vp_in i n ∧ F m (pc + 1) L (va_rf (f i.toNatClampNeg) :: S) w mc ms post
  | .iastore => qsiir S fun v i o S => qwI (w o) (aK x 0) fun n f => vp_in i n ∧ F m (pc + 1) L S (va_up w o (some (eI x n (upd f i.toNatClampNeg v)))) mc ms post
  | .bastore => qsiir S fun v i o S => (v = 0 ∨ v = 1) ∧ qwI (w o) (aK x 1) fun n f => vp_in i n ∧ F m (pc + 1) L S (va_up w o (some (eZ x n (upd f i.toNatClampNeg v)))) mc ms post
  | .lastore => qslir S fun v i o S => qwJ (w o) (aK x 2) fun n f => vp_in i n ∧ F m (pc + 1) L S (va_up w o (some (eJ x n (vp_updL f i.toNatClampNeg v)))) mc ms post
  | .aastore => qsrir S fun v i o S => (qwK (w v) 4 ∨ qwK (w v) 1 ∨ qwK (w v) 6) ∧ qwQ (w o) (aK x 3) fun n f => vp_in i n ∧ F m (pc + 1) L S (va_up w o (some (eQ x n (va_up f i.toNatClampNeg (some v))))) mc ms post
  | .arraylength => qsr S fun o S => qwA x (w o) o fun n => F m (pc + 1) L (.int (nI n) :: S) w mc ms post
  | .newarray t => qs1 S fun n S => (¬ n < 0) ∧ n.toNatClampNeg ≤ 1000 ∧ 1 ≤ mc ∧ n.toNatClampNeg ≤ ms ∧ ∀ o : Nat, frs x w o → match t with
    | .int => F m (pc + 2) L (.ref o :: S) (va_up w o (some (eI x n.toNatClampNeg (fun _ => 0)))) (mc - 1) (ms - n.toNatClampNeg) post
    | .boolean => F m (pc + 2) L (.ref o :: S) (va_up w o (some (eZ x n.toNatClampNeg (fun _ => 0)))) (mc - 1) (ms - n.toNatClampNeg) post
    | .long => F m (pc + 2) L (.ref o :: S) (va_up w o (some (eJ x n.toNatClampNeg (fun _ => 0)))) (mc - 1) (ms - n.toNatClampNeg) post
    | _ => False
  | .anewarray _ => qs1 S fun n S => (¬ n < 0) ∧ n.toNatClampNeg ≤ 1000 ∧ 1 ≤ mc ∧ n.toNatClampNeg ≤ ms ∧ ∀ o : Nat, frs x w o →
      F m (pc + 3) L (.ref o :: S) (va_up w o (some (eQ x n.toNatClampNeg (fun _ => none)))) (mc - 1) (ms - n.toNatClampNeg) post
  | .new _ => if ai.2.2.2.2.2 = 1 then (1 ≤ mc ∧ 6 ≤ ms ∧ S.length ≤ 4 ∧ post (.inr ai.2.2.1) w) else
      1 ≤ mc ∧ ai.2.2.2.1 ≤ ms ∧ ∀ o : Nat, frs x w o → F m (pc + 3) L (.ref o :: S) (va_up w o (some (eO ai.2.2.1 (dfl ai.2.2.1)))) (mc - 1) (ms - ai.2.2.2.1) post
  | .invokestatic _ => if ai.2.2.2.2.2 = 3 then qs1 S fun a S => S.length ≤ 4 ∧ F m (pc + 3) L (.int (if 0 ≤ a then a else 0 - a) :: S) w mc ms post else
      if ai.2.2.2.2.2 = 4 then qs2 S fun a b S => S.length ≤ 4 ∧ F m (pc + 3) L (.int (if a < b then b else a) :: S) w mc ms post else
      if ai.2.2.2.2.2 = 1 ∨ mH ai.2.2.1 ≠ [] then qtk ai.2.2.2.1 S [] fun args rest => rest.length ≤ 4 ∧ mMC ai.2.2.1 ≤ mc ∧ mMS ai.2.2.1 ≤ ms ∧
      CLF F ai.2.2.1 args w (aftN F m (pc + 3) L rest (mc - mMC ai.2.2.1) (ms - mMS ai.2.2.1) post) else qtk ai.2.2.2.1 S [] fun args rest => rest.length ≤ 4 ∧ mMC ai.2.2.1 ≤ mc ∧ mMS ai.2.2.1 ≤ ms ∧
      CLF F ai.2.2.1 args w (aftF F m pc (pc + 3) L rest (mc - mMC ai.2.2.1) (ms - mMS ai.2.2.1) post)
  | .invokevirtual _ => qtk ai.2.2.2.1 S [] fun args rest => rcv w args (mI ai.2.2.1) ∧ rest.length ≤ 4 ∧ mMC ai.2.2.1 ≤ mc ∧ mMS ai.2.2.1 ≤ ms ∧
      CLF F ai.2.2.1 args w (aftF F m pc (pc + 3) L rest (mc - mMC ai.2.2.1) (ms - mMS ai.2.2.1) post)
  | .invokespecial _ => if ai.2.2.2.2.2 = 2 then qsr S fun _ S => S.length ≤ 4 ∧ F m (pc + 3) L S w mc ms post else
      qtk ai.2.2.2.1 S [] fun args rest => rcI args ∧ rest.length ≤ 4 ∧ mMC ai.2.2.1 ≤ mc ∧ mMS ai.2.2.1 ≤ ms ∧
      CLF F ai.2.2.1 args w (aftN F m (pc + 3) L rest (mc - mMC ai.2.2.1) (ms - mMS ai.2.2.1) post)
  | .return_ => qsn S (mR m = none ∧ post (.inl none) w)
  | .ireturn => qs1 S fun v S => qsn S (qrt (mR m) v (post (.inl (some (.int v))) w))
  | .areturn => qsv S fun v S => qsn S (v.isRef = true ∧ post (.inl (some v)) w)
  | .checkcast _ => qsr S fun o S => qwK (w o) ai.2.2.1 ∧ F m (pc + 3) L (.ref o :: S) w mc ms post
  | .getstatic _ => F m (pc + 3) L (.ref (xE x) :: S) w mc ms post
  | .tableswitch dflt lo hi offs => qs1 S fun v S => if v.toInt < lo ∨ hi < v.toInt then F m ((pc : Int) + dflt).toNat L S w mc ms post else
      match offs[(v.toInt - lo).toNat]? with
      | some off => F m ((pc : Int) + off).toNat L S w mc ms post
      | none => False
  | _ => False
def stepP (x : Cx) (F : FT) (m pc : Nat) (L : Lc) (S : List Value) (w : Wd) (mc ms : Nat) (post : Po) : Prop := match cdAt m pc with
  | none => False
  | some ai => stepI x ai F m pc L S w mc ms post
section
variable {S : List Value} {L : Lc} {i : Nat}
theorem qs1_m {K K' : Int32 → List Value → Prop} (h : ∀ a S, K a S → K' a S) : qs1 S K → qs1 S K' := by unfold qs1; split <;> first | exact h _ _ | exact id
theorem qs2_m {K K' : Int32 → Int32 → List Value → Prop} (h : ∀ a b S, K a b S → K' a b S) : qs2 S K → qs2 S K' := by unfold qs2; split <;> first | exact h _ _ _ | exact id
theorem qsr_m {K K' : Nat → List Value → Prop} (h : ∀ a S, K a S → K' a S) : qsr S K → qsr S K' := by unfold qsr; split <;> first | exact h _ _ | exact id
theorem qsv_m {K K' : Value → List Value → Prop} (h : ∀ a S, K a S → K' a S) : qsv S K → qsv S K' := by unfold qsv; split <;> first | exact h _ _ | exact id
theorem qsir_m {K K' : Int32 → Nat → List Value → Prop} (h : ∀ a b S, K a b S → K' a b S) : qsir S K → qsir S K' := by unfold qsir; split <;> first | exact h _ _ _ | exact id
theorem qsiir_m {K K' : Int32 → Int32 → Nat → List Value → Prop} (h : ∀ a b c S, K a b c S → K' a b c S) : qsiir S K → qsiir S K' := by unfold qsiir; split <;> first | exact h _ _ _ _ | exact id
theorem qslir_m {K K' : Int64 → Int32 → Nat → List Value → Prop} (h : ∀ a b c S, K a b c S → K' a b c S) : qslir S K → qslir S K' := by unfold qslir; split <;> first | exact h _ _ _ _ | exact id
theorem qsrir_m {K K' : Nat → Int32 → Nat → List Value → Prop} (h : ∀ a b c S, K a b c S → K' a b c S) : qsrir S K → qsrir S K' := by unfold qsrir; split <;> first | exact h _ _ _ _ | exact id
theorem qsvr_m {K K' : Value → Nat → List Value → Prop} (h : ∀ a b S, K a b S → K' a b S) : qsvr S K → qsvr S K' := by unfold qsvr; split <;> first | exact h _ _ _ | exact id
theorem qsrr_m {K K' : Nat → Nat → List Value → Prop} (h : ∀ a b S, K a b S → K' a b S) : qsrr S K → qsrr S K' := by unfold qsrr; split <;> first | exact h _ _ _ | exact id
theorem qsll_m {K K' : Int64 → Int64 → List Value → Prop} (h : ∀ a b S, K a b S → K' a b S) : qsll S K → qsll S K' := by unfold qsll; split <;> first | exact h _ _ _ | exact id
theorem qsn_m {P P' : Prop} (h : P → P') : qsn S P → qsn S P' := by unfold qsn; split <;> first | exact h | exact id
theorem qlI_m {K K' : Int32 → Prop} (h : ∀ a, K a → K' a) : qlI L i K → qlI L i K' := by unfold qlI; split <;> first | exact h _ | exact id
theorem qlA_m {K K' : Value → Prop} (h : ∀ a, K a → K' a) : qlA L i K → qlA L i K' := by unfold qlA; split <;> first | exact h _ | exact id
theorem qwO_m {e : Option va_E} {ci : Nat} {K K' : List Value → Prop} (h : ∀ a, K a → K' a) : qwO e ci K → qwO e ci K' := by unfold qwO; split <;> first | exact And.imp_right (h _) | exact id
theorem qwV_m {fs : List Value} {k : Nat} {K K' : Value → Prop} (h : ∀ a, K a → K' a) : qwV fs k K → qwV fs k K' := by unfold qwV; split <;> first | exact h _ | exact id
theorem qwI_m {e : Option va_E} {c : ClassId} {K K' : Nat → (Nat → Int32) → Prop} (h : ∀ a b, K a b → K' a b) : qwI e c K → qwI e c K' := by unfold qwI; split <;> first | exact And.imp_right (h _ _) | exact id
theorem qwL_m {x : Cx} {e : Option va_E} {o : Nat} {K K' : Nat → (Nat → Int32) → Prop} (h : ∀ a b, K a b → K' a b) : qwL x e o K → qwL x e o K' := by unfold qwL; split <;> first | exact And.imp_right (h _ _) | exact id
theorem qwJ_m {e : Option va_E} {c : ClassId} {K K' : Nat → (Nat → Int64) → Prop} (h : ∀ a b, K a b → K' a b) : qwJ e c K → qwJ e c K' := by unfold qwJ; split <;> first | exact And.imp_right (h _ _) | exact id
theorem qwQ_m {e : Option va_E} {c : ClassId} {K K' : Nat → (Nat → Option Nat) → Prop} (h : ∀ a b, K a b → K' a b) : qwQ e c K → qwQ e c K' := by unfold qwQ; split <;> first | exact And.imp_right (h _ _) | exact id
theorem qif_m {c : Prop} [Decidable c] {A B A' B' : Prop} (h1 : A → A') (h2 : B → B') : (if c then A else B) → (if c then A' else B') := by split <;> assumption
theorem qwA_m {x : Cx} {e : Option va_E} {o : Nat} {K K' : Nat → Prop} (h : ∀ a, K a → K' a) : qwA x e o K → qwA x e o K' := by
  unfold qwA; split <;> first | exact qif_m (h _) (And.imp_right (h _)) | exact And.imp_right (h _) | exact id
theorem qty_m {ty : FieldType} {v : Value} {P P' : Prop} (h : P → P') : qty ty v P → qty ty v P' := by unfold qty; split <;> first | exact h | exact And.imp_right h | exact id
theorem qrt_m {r : Option FieldType} {v : Int32} {P P' : Prop} (h : P → P') : qrt r v P → qrt r v P' := by unfold qrt; split <;> first | exact h | exact And.imp_right h | exact id
theorem qtk_m {K K' : List Value → List Value → Prop} (h : ∀ a b, K a b → K' a b) : ∀ (n : Nat) (S acc : List Value), qtk n S acc K → qtk n S acc K'
  | 0, S, acc => h _ _
  | n + 1, v :: S, acc => qtk_m h n S (v :: acc)
  | _ + 1, [], _ => id
theorem qal_m {α : Type} {P P' : α → Prop} (h : ∀ a, P a → P' a) : (∀ a, P a) → ∀ a, P' a := fun g a => h a (g a)
theorem qim_m {A B B' : Prop} (h : B → B') : (A → B) → A → B' := fun g a => h (g a)
end
end
section
section
variable {x : Cx} {F G : FT} {post post' : Po}
theorem CLF_m (hC : ∀ k L S w mc ms R, F k 0 L S w mc ms R → G k 0 L S w mc ms R) {k : Nat} {args : List Value} {w : Wd} {K K' : Po} (hK : ∀ r w', K r w' → K' r w') : CLF F k args w K → CLF G k args w K' := by
  rintro ⟨h0, R, h1, h2⟩
  exact ⟨h0, R, hC _ _ _ _ _ _ _ h1, fun r w' h => hK r w' (h2 r w' h)⟩
theorem aftF_m (hF : ∀ m pc L S w mc ms, F m pc L S w mc ms post → G m pc L S w mc ms post') (hp : ∀ r w, post r w → post' r w) {m pc pc' : Nat} {L : Lc} {S : List Value} {mc ms : Nat} : ∀ r w', aftF F m pc pc' L S mc ms post r w' → aftF G m pc pc' L S mc ms post' r w' := by
  intro r w'
  cases r with
  | inl v => exact hF _ _ _ _ _ _ _
  | inr e =>
    simp only [aftF]
    split
    · exact qal_m fun q => hF _ _ _ _ _ _ _
    · exact hp _ _
theorem aftN_m (hF : ∀ m pc L S w mc ms, F m pc L S w mc ms post → G m pc L S w mc ms post') {m pc' : Nat} {L : Lc} {S : List Value} {mc ms : Nat} : ∀ r w', aftN F m pc' L S mc ms post r w' → aftN G m pc' L S mc ms post' r w' := by
  intro r w'
  cases r with
  | inl v => exact hF _ _ _ _ _ _ _
  | inr e => exact id
set_option maxHeartbeats 4000000 in
theorem stepI_m (hF : ∀ m pc L S w mc ms, F m pc L S w mc ms post → G m pc L S w mc ms post') (hC : ∀ k L S w mc ms R, F k 0 L S w mc ms R → G k 0 L S w mc ms R) (hp : ∀ r w, post r w → post' r w)
    {ai : AI} {m pc : Nat} {L : Lc} {S : List Value} {w : Wd} {mc ms : Nat} : stepI x ai F m pc L S w mc ms post → stepI x ai G m pc L S w mc ms post' := by
  unfold stepI
  split <;>
  repeat' (first
    | exact id
    | exact hF _ _ _ _ _ _ _
    | exact hp _ _
    | exact CLF_m hC (aftF_m hF hp)
    | exact CLF_m hC (aftN_m hF)
    | refine qs1_m fun _ _ => ?_
    | refine qs2_m fun _ _ _ => ?_
    | refine qsr_m fun _ _ => ?_
    | refine qsv_m fun _ _ => ?_
    | refine qsir_m fun _ _ _ => ?_
    | refine qsiir_m fun _ _ _ _ => ?_
    | refine qslir_m fun _ _ _ _ => ?_
    | refine qsrir_m fun _ _ _ _ => ?_
    | refine qsvr_m fun _ _ _ => ?_
    | refine qsrr_m fun _ _ _ => ?_
    | refine qsll_m fun _ _ _ => ?_
    | refine qsn_m ?_
    | refine qlI_m fun _ => ?_
    | refine qlA_m fun _ => ?_
    | refine qwO_m fun _ => ?_
    | refine qwV_m fun _ => ?_
    | refine qwI_m fun _ _ => ?_
    | refine qwL_m fun _ _ => ?_
    | refine qwJ_m fun _ _ => ?_
    | refine qwQ_m fun _ _ => ?_
    | refine qwA_m fun _ => ?_
    | refine qty_m ?_
    | refine qrt_m ?_
    | refine qtk_m (fun _ _ => ?_) _ _ _
    | refine And.imp_right ?_
    | refine qif_m ?_ ?_
    | refine qal_m fun _ => ?_
    | refine qim_m ?_
    | split)
theorem stepP_m (hF : ∀ m pc L S w mc ms, F m pc L S w mc ms post → G m pc L S w mc ms post') (hC : ∀ k L S w mc ms R, F k 0 L S w mc ms R → G k 0 L S w mc ms R) (hp : ∀ r w, post r w → post' r w)
    {m pc : Nat} {L : Lc} {S : List Value} {w : Wd} {mc ms : Nat} : stepP x F m pc L S w mc ms post → stepP x G m pc L S w mc ms post' := by
  unfold stepP
  split
  · exact id
  · exact stepI_m hF hC hp
end
/-- what a run from here comes to: the least such word -/
def WP (x : Cx) : FT := fun m pc L S w mc ms post => ∀ F : FT, (∀ m pc L S w mc ms post, stepP x F m pc L S w mc ms post → F m pc L S w mc ms post) → F m pc L S w mc ms post
theorem WP_fold {x : Cx} {m pc : Nat} {L : Lc} {S : List Value} {w : Wd} {mc ms : Nat} {post : Po} (h : stepP x (WP x) m pc L S w mc ms post) : WP x m pc L S w mc ms post := by
  intro F hF
  exact hF _ _ _ _ _ _ _ _ (stepP_m (fun _ _ _ _ _ _ _ h => h F hF) (fun _ _ _ _ _ _ _ h => h F hF) (fun _ _ h => h) h)
theorem WP_unf (x : Cx) (m pc : Nat) (L : Lc) (S : List Value) (w : Wd) (mc ms : Nat) (post : Po) : WP x m pc L S w mc ms post = stepP x (WP x) m pc L S w mc ms post :=
  propext ⟨fun h => h (fun m pc L S w mc ms post => stepP x (WP x) m pc L S w mc ms post) (fun _ _ _ _ _ _ _ _ h => stepP_m (fun _ _ _ _ _ _ _ h => WP_fold h) (fun _ _ _ _ _ _ _ h => WP_fold h) (fun _ _ h => h) h), WP_fold⟩
theorem WP_go {x : Cx} {m pc : Nat} {ai : AI} (hc : cdAt m pc = some ai) {L : Lc} {S : List Value} {w : Wd} {mc ms : Nat} {post : Po} : WP x m pc L S w mc ms post = stepI x ai (WP x) m pc L S w mc ms post := by
  rw [WP_unf, stepP, hc]
/-- a weaker end -/
theorem WP_mono {x : Cx} {m pc : Nat} {L : Lc} {S : List Value} {w : Wd} {mc ms : Nat} {post post' : Po} (h : WP x m pc L S w mc ms post) (hp : ∀ r w, post r w → post' r w) : WP x m pc L S w mc ms post' := by
  refine h (fun m pc L S w mc ms post => ∀ post' : Po, (∀ r w, post r w → post' r w) → WP x m pc L S w mc ms post') ?_ post' hp
  intro m pc L S w mc ms post h post' hp
  exact WP_fold (stepP_m (fun _ _ _ _ _ _ _ h => h _ hp) (fun _ _ _ _ _ _ _ h => h _ (fun _ _ z => z)) hp h)
/-- a call of the method k -/
def CL (x : Cx) (k : Nat) (args : List Value) (w : Wd) (K : Po) : Prop := WP x k 0 (args.map some ++ List.replicate (mL k - args.length) none) [] w (mMC k) (mMS k) K
abbrev aft (x : Cx) : Nat → Nat → Nat → Lc → List Value → Nat → Nat → Po → Po := aftF (WP x)
theorem CLF_eq {x : Cx} {k : Nat} {args : List Value} {w : Wd} {K : Po} (h0 : args.all cat1 = true ∧ args.length ≤ mL k) : CLF (WP x) k args w K = CL x k args w K := propext ⟨fun ⟨_, _, h1, h2⟩ => WP_mono h1 h2, fun h => ⟨h0, K, h, fun _ _ z => z⟩⟩
theorem CL_mono {x : Cx} {k : Nat} {args : List Value} {w : Wd} {K K' : Po} (h : CL x k args w K) (hp : ∀ r w, K r w → K' r w) : CL x k args w K' := WP_mono h hp
theorem aft_v {x : Cx} {m pc pc' : Nat} {L : Lc} {S : List Value} {mc ms : Nat} {post : Po} {v : Value} {w : Wd} : aftF (WP x) m pc pc' L S mc ms post (.inl (some v)) w = WP x m pc' L (v :: S) w mc ms post := rfl
theorem aft_n {x : Cx} {m pc pc' : Nat} {L : Lc} {S : List Value} {mc ms : Nat} {post : Po} {w : Wd} : aftF (WP x) m pc pc' L S mc ms post (.inl none) w = WP x m pc' L S w mc ms post := rfl
theorem aftN_v {x : Cx} {m pc' : Nat} {L : Lc} {S : List Value} {mc ms : Nat} {post : Po} {v : Value} {w : Wd} : aftN (WP x) m pc' L S mc ms post (.inl (some v)) w = WP x m pc' L (v :: S) w mc ms post := rfl
theorem aftN_n {x : Cx} {m pc' : Nat} {L : Lc} {S : List Value} {mc ms : Nat} {post : Po} {w : Wd} : aftN (WP x) m pc' L S mc ms post (.inl none) w = WP x m pc' L S w mc ms post := rfl
theorem aft_x {x : Cx} {m pc pc' : Nat} {L : Lc} {S : List Value} {mc ms : Nat} {post : Po} {e : Nat} {w : Wd} (h : mH m = []) : aftF (WP x) m pc pc' L S mc ms post (.inr e) w = post (.inr e) w := by
  simp [aftF, hnd, h]
/-- a call without makings -/
theorem tc0 {x : Cx} {k : Nat} {args : List Value} {w : Wd} {m pc pc' : Nat} {L : Lc} {S : List Value} {mc ms : Nat} {post : Po} (h0 : S.length ≤ 4) (ha : args.all cat1 = true ∧ args.length ≤ mL k) (h1 : mMC k = 0) (h2 : mMS k = 0) :
    (S.length ≤ 4 ∧ mMC k ≤ mc ∧ mMS k ≤ ms ∧ CLF (WP x) k args w (aftF (WP x) m pc pc' L S (mc - mMC k) (ms - mMS k) post)) = CL x k args w (aftF (WP x) m pc pc' L S mc ms post) := by
  rw [h1, h2, CLF_eq ha]
  simp [h0]
theorem tc1 {x : Cx} {k : Nat} {args : List Value} {w : Wd} {m pc pc' : Nat} {L : Lc} {S : List Value} {mc ms : Nat} {post : Po} (h0 : S.length ≤ 4) (ha : args.all cat1 = true ∧ args.length ≤ mL k) {a b : Nat} (h1 : mMC k = a) (h2 : mMS k = b) :
    (S.length ≤ 4 ∧ mMC k ≤ mc ∧ mMS k ≤ ms ∧ CLF (WP x) k args w (aftF (WP x) m pc pc' L S (mc - mMC k) (ms - mMS k) post)) = (a ≤ mc ∧ b ≤ ms ∧ CL x k args w (aftF (WP x) m pc pc' L S (mc - a) (ms - b) post)) := by
  rw [h1, h2, CLF_eq ha]
  simp [h0]
theorem tcN0 {x : Cx} {k : Nat} {args : List Value} {w : Wd} {m pc' : Nat} {L : Lc} {S : List Value} {mc ms : Nat} {post : Po} (h0 : S.length ≤ 4) (ha : args.all cat1 = true ∧ args.length ≤ mL k) (h1 : mMC k = 0) (h2 : mMS k = 0) :
    (S.length ≤ 4 ∧ mMC k ≤ mc ∧ mMS k ≤ ms ∧ CLF (WP x) k args w (aftN (WP x) m pc' L S (mc - mMC k) (ms - mMS k) post)) = CL x k args w (aftN (WP x) m pc' L S mc ms post) := by
  rw [h1, h2, CLF_eq ha]
  simp [h0]
theorem tcN1 {x : Cx} {k : Nat} {args : List Value} {w : Wd} {m pc' : Nat} {L : Lc} {S : List Value} {mc ms : Nat} {post : Po} (h0 : S.length ≤ 4) (ha : args.all cat1 = true ∧ args.length ≤ mL k) {a b : Nat} (h1 : mMC k = a) (h2 : mMS k = b) :
    (S.length ≤ 4 ∧ mMC k ≤ mc ∧ mMS k ≤ ms ∧ CLF (WP x) k args w (aftN (WP x) m pc' L S (mc - mMC k) (ms - mMS k) post)) = (a ≤ mc ∧ b ≤ ms ∧ CL x k args w (aftN (WP x) m pc' L S (mc - a) (ms - b) post)) := by
  rw [h1, h2, CLF_eq ha]
  simp [h0]
end
section
/-! What holds of the machine's tables and of the cells that nobody writes; worlds in the heap; locals. -/
abbrev AA (B0 : Nat) : Nat → Prop := fun q => B0 ≤ q
def GW (D : va_G) (B0 : Nat) (w : Wd) (H : Heap) : Prop := ∀ (a : Nat) (e : va_E), w a = some e → va_at D vwCl (a, e) H ∧ B0 ≤ a
abbrev tysX (x : Cx) : List (ClassId × FieldType) := [(x.1.1, .int), (x.1.2.1, .boolean), (x.1.2.2.1, .long), (x.1.2.2.2, .object "java/lang/Object")]
def dcW : List Cond := [.declares ({ cls := "java/lang/RuntimeException", name := "<init>", desc := "()V" } : Jvm.MethodName), .declares ({ cls := "java/lang/RuntimeException", name := "<init>", desc := "(Ljava/lang/String;)V" } : Jvm.MethodName), .declares ({ cls := "java/lang/Exception", name := "<init>", desc := "()V" } : Jvm.MethodName), .declares ({ cls := "java/lang/Exception", name := "<init>", desc := "(Ljava/lang/String;)V" } : Jvm.MethodName), .declares ({ cls := "java/lang/Throwable", name := "<init>", desc := "()V" } : Jvm.MethodName), .declares ({ cls := "java/lang/Throwable", name := "<init>", desc := "(Ljava/lang/String;)V" } : Jvm.MethodName), .declares ({ cls := "java/lang/Object", name := "getClass", desc := "()Ljava/lang/Class;" } : Jvm.MethodName)]
def WEnv (x : Cx) (D : va_G) (B0 : Nat) (U : State) : Prop :=
  va_K D vwCl (tysX x) U ∧ (∀ w, w ∈ nstW ∨ w ∈ dcW → va_Nw w U) ∧ (∀ q ∈ strW, ∃ a, vk_R "SheetMaker" q.1 q.2 a U) ∧ va_AO "java/lang/Object" U ∧ (∀ q ∈ ncW, va_Nc q.1 q.2 U) ∧
  vx_Zq Bundle.tN "UNASSIGNED_STACK" Bundle.steD (AA B0) U U.heap ∧ vx_Zq Bundle.tN "SUPPRESSED_SENTINEL" Bundle.listD (AA B0) U U.heap ∧
  va_Z "java/util/ArrayList" "DEFAULTCAPACITY_EMPTY_ELEMENTDATA" "[Ljava/lang/Object;" (.ref (xE x)) (AA B0) U U.heap ∧
  va_T (.object "java/lang/Object") (xE x) 0 (fun _ => .null) (AA B0) U U.heap ∧ va_X (xB x) (xN x) (xS x) U U.heap ∧ xB x < B0 ∧ B0 ≤ U.heap.size
def isNC : Cond → Bool
  | .methodLinkNest .. => true
  | .castable .. => true
  | .declares _ => true
  | _ => false
theorem nstW_NC : (nstW ++ dcW).all isNC = true := by decide +kernel
theorem va_Nw.warmNC {w : Cond} (hw : isNC w = true) {s U : State} (hW : s.WarmedH U.vm) (h : va_Nw w s) : va_Nw w U := by
  cases w <;> first | exact va_Nw.warmM hW h | exact va_Nw.warmC hW h | exact va_Nw.warmD hW h | cases hw
theorem WEnv.move {x : Cx} {D : va_G} {B0 : Nat} {s U : State} (h : WEnv x D B0 s) (hW : s.WarmedH U.vm) (hz : s.heap.size ≤ U.heap.size) (hq : ∀ q : Nat, q < s.heap.size → ¬ B0 ≤ q → U.heap[q]? = s.heap[q]?) : WEnv x D B0 U := by
  obtain ⟨a1, a2, a3, a4, a5, a6, a7, a8, a9, a10, a11, a12⟩ := h
  have hal := hW.alike
  refine ⟨a1.moved hal, fun w hw => va_Nw.warmNC (List.all_eq_true.mp nstW_NC w (List.mem_append.mpr hw)) hW (a2 w hw), fun q hq => ?_, a4.moved hal, fun q hq => (a5 q hq).moved hal, (a6.moved hal).kept hq, (a7.moved hal).kept hq, (a8.moved hal).kept hq, (a9.moved hal).kept hq, (a10.moved hal).kept (hq _ (Nat.lt_of_lt_of_le a11 a12) (Nat.not_le.mpr a11)), a11, Nat.le_trans a12 hz⟩
  obtain ⟨a, ha⟩ := a3 q hq
  exact ⟨a, ha.warm hW⟩
section
variable {D : va_G} {B0 : Nat} {w : Wd} {H H1 : Heap}
theorem GW.lt (h : GW D B0 w H) {a : Nat} {e : va_E} (ha : w a = some e) : a < H.size := (h a e ha).1.lt
theorem GW.set (h : GW D B0 w H) {a : Nat} {e : va_E} (hb : B0 ≤ a) (he : va_at D vwCl (a, e) H1) (oq : ∀ q : Nat, q ≠ a → H1[q]? = H[q]?) : GW D B0 (va_up w a (some e)) H1 := by
  intro b f hf
  by_cases hba : b = a
  · subst hba
    simp only [va_up, if_true] at hf
    cases hf
    exact ⟨he, hb⟩
  · simp only [va_up, if_neg hba] at hf
    exact ⟨(h b f hf).1.kept (oq b hba), (h b f hf).2⟩
theorem GW.add (h : GW D B0 w H) {e : va_E} (hb : B0 ≤ H.size) (he : va_at D vwCl (H.size, e) H1) (oq : ∀ q : Nat, q < H.size → H1[q]? = H[q]?) : GW D B0 (va_up w H.size (some e)) H1 := by
  intro b f hf
  by_cases hba : b = H.size
  · subst hba
    simp only [va_up, if_true] at hf
    cases hf
    exact ⟨he, hb⟩
  · simp only [va_up, if_neg hba] at hf
    exact ⟨(h b f hf).1.kept (oq b (h.lt hf)), (h b f hf).2⟩
theorem GW.new (h : GW D B0 w H) : w H.size = none := by
  cases hw : w H.size with
  | none => rfl
  | some e => exact absurd (h.lt hw) (Nat.lt_irrefl _)
end
/-- the locals: as many as the method has; those that are known -/
def lvR (ls : Array Slot) (nL : Nat) (L : Lc) : Prop := L.length = nL ∧ ls.size = nL ∧ lv_wf ls ∧ ∀ (i : Nat) (v : Value), L[i]? = some (some v) → v.category = 1 ∧ ls[i]? = some (.val v)
def lvP (L : Lc) : List (Nat × Value) := (List.range L.length).filterMap fun i => match L[i]? with
  | some (some v) => some (i, v)
  | _ => none
theorem lvP_mem {L : Lc} {i : Nat} {v : Value} : (i, v) ∈ lvP L ↔ L[i]? = some (some v) := by
  unfold lvP
  rw [List.mem_filterMap]
  constructor
  · rintro ⟨j, -, hj⟩
    split at hj
    · rename_i u hu
      cases hj
      exact hu
    · cases hj
  · intro h
    exact ⟨i, List.mem_range.mpr (List.getElem?_eq_some_iff.mp h).1, by rw [h]⟩
theorem lvR.has {ls : Array Slot} {nL : Nat} {L : Lc} (h : lvR ls nL L) : lv_has ls nL (lvP L) := ⟨h.2.1, h.2.2.1, fun q hq => (h.2.2.2 q.1 q.2 (lvP_mem.mp hq)).2⟩
theorem lvR.put {ls ls' : Array Slot} {nL : Nat} {L : Lc} {i : Nat} {v : Value} (h : lvR ls nL L) (hc : v.category = 1) (h' : lv_has ls' nL ((i, v) :: (lvP L).filter (fun q => !(q.1 == i) && !(q.1 + 1 == i && q.2.category == 2)))) : lvR ls' nL (L.set i (some v)) := by
  refine ⟨by rw [List.length_set]; exact h.1, h'.1, h'.2.1, fun j u hj => ?_⟩
  by_cases e : i = j
  · subst e
    have hl : i < L.length := by
      have := (List.getElem?_eq_some_iff.mp hj).1
      simpa using this
    rw [List.getElem?_set_self hl] at hj
    cases hj
    exact ⟨hc, h'.2.2 (i, v) List.mem_cons_self⟩
  · rw [List.getElem?_set_ne e] at hj
    have h1 := h.2.2.2 j u hj
    refine ⟨h1.1, h'.2.2 (j, u) (List.mem_cons_of_mem _ (List.mem_filter.mpr ⟨lvP_mem.mpr hj, ?_⟩))⟩
    have e1 : (j == i) = false := beq_false_of_ne (fun q => e q.symm)
    have e2 : (u.category == 2) = false := by rw [h1.1]; rfl
    simp [e1, e2]
theorem qlI_e {L : Lc} {i : Nat} {K : Int32 → Prop} (h : qlI L i K) : ∃ x, L[i]? = some (some (.int x)) ∧ K x := by
  unfold qlI at h; split at h
  · exact ⟨_, by assumption, h⟩
  · exact h.elim
theorem qlA_e {L : Lc} {i : Nat} {K : Value → Prop} (h : qlA L i K) : (∃ a, L[i]? = some (some (.ref a)) ∧ K (.ref a)) ∨ (L[i]? = some (some .null) ∧ K .null) := by
  unfold qlA at h; split at h
  · exact Or.inl ⟨_, by assumption, h⟩
  · exact Or.inr ⟨by assumption, h⟩
  · exact h.elim
section
variable {S : List Value}
theorem qs1_e {K : Int32 → List Value → Prop} (h : qs1 S K) : ∃ a S', S = .int a :: S' ∧ K a S' := by
  unfold qs1 at h; split at h
  · exact ⟨_, _, rfl, h⟩
  · exact h.elim
theorem qs2_e {K : Int32 → Int32 → List Value → Prop} (h : qs2 S K) : ∃ a b S', S = .int b :: .int a :: S' ∧ K a b S' := by
  unfold qs2 at h; split at h
  · exact ⟨_, _, _, rfl, h⟩
  · exact h.elim
theorem qsr_e {K : Nat → List Value → Prop} (h : qsr S K) : ∃ a S', S = .ref a :: S' ∧ K a S' := by
  unfold qsr at h; split at h
  · exact ⟨_, _, rfl, h⟩
  · exact h.elim
theorem qsv_e {K : Value → List Value → Prop} (h : qsv S K) : ∃ v S', S = v :: S' ∧ v.category = 1 ∧ ((∃ z, v = .int z) ∨ v = .null ∨ ∃ z, v = .ref z) ∧ K v S' := by
  unfold qsv at h; split at h
  · exact ⟨_, _, rfl, rfl, Or.inl ⟨_, rfl⟩, h⟩
  · exact ⟨_, _, rfl, rfl, Or.inr (Or.inr ⟨_, rfl⟩), h⟩
  · exact ⟨_, _, rfl, rfl, Or.inr (Or.inl rfl), h⟩
  · exact h.elim
theorem qsir_e {K : Int32 → Nat → List Value → Prop} (h : qsir S K) : ∃ i o S', S = .int i :: .ref o :: S' ∧ K i o S' := by
  unfold qsir at h; split at h
  · exact ⟨_, _, _, rfl, h⟩
  · exact h.elim
theorem qsiir_e {K : Int32 → Int32 → Nat → List Value → Prop} (h : qsiir S K) : ∃ v i o S', S = .int v :: .int i :: .ref o :: S' ∧ K v i o S' := by
  unfold qsiir at h; split at h
  · exact ⟨_, _, _, _, rfl, h⟩
  · exact h.elim
theorem qslir_e {K : Int64 → Int32 → Nat → List Value → Prop} (h : qslir S K) : ∃ v i o S', S = .long v :: .int i :: .ref o :: S' ∧ K v i o S' := by
  unfold qslir at h; split at h
  · exact ⟨_, _, _, _, rfl, h⟩
  · exact h.elim
theorem qsrir_e {K : Nat → Int32 → Nat → List Value → Prop} (h : qsrir S K) : ∃ v i o S', S = .ref v :: .int i :: .ref o :: S' ∧ K v i o S' := by
  unfold qsrir at h; split at h
  · exact ⟨_, _, _, _, rfl, h⟩
  · exact h.elim
theorem qsvr_e {K : Value → Nat → List Value → Prop} (h : qsvr S K) : ∃ v o S', S = v :: .ref o :: S' ∧ K v o S' := by
  unfold qsvr at h; split at h
  · exact ⟨_, _, _, rfl, h⟩
  · exact h.elim
theorem qsrr_e {K : Nat → Nat → List Value → Prop} (h : qsrr S K) : ∃ a b S', S = .ref b :: .ref a :: S' ∧ K a b S' := by
  unfold qsrr at h; split at h
  · exact ⟨_, _, _, rfl, h⟩
  · exact h.elim
theorem qsll_e {K : Int64 → Int64 → List Value → Prop} (h : qsll S K) : ∃ a b S', S = .long b :: .long a :: S' ∧ K a b S' := by
  unfold qsll at h; split at h
  · exact ⟨_, _, _, rfl, h⟩
  · exact h.elim
theorem qsn_e {P : Prop} (h : qsn S P) : S = [] ∧ P := by
  unfold qsn at h; split at h
  · exact ⟨rfl, h⟩
  · exact h.elim
theorem qwO_e {e : Option va_E} {ci : Nat} {K : List Value → Prop} (h : qwO e ci K) : ∃ fs, e = some (.inr (ci, fs)) ∧ K fs := by
  unfold qwO at h; split at h
  · obtain ⟨h1, h2⟩ := h
    subst h1
    exact ⟨_, rfl, h2⟩
  · exact h.elim
theorem qwK_e {e : Option va_E} {ci : Nat} (h : qwK e ci) : ∃ fs, e = some (.inr (ci, fs)) := by
  unfold qwK at h; split at h
  · subst h
    exact ⟨_, rfl⟩
  · exact h.elim
theorem qwV_e {fs : List Value} {k : Nat} {K : Value → Prop} (h : qwV fs k K) : ∃ v, fs[k]? = some v ∧ K v := by
  unfold qwV at h; split at h
  · exact ⟨_, by assumption, h⟩
  · exact h.elim
theorem qwI_e {e : Option va_E} {c : ClassId} {K : Nat → (Nat → Int32) → Prop} (h : qwI e c K) : ∃ n f, e = some (.inl (c, n, .inl f)) ∧ K n f := by
  unfold qwI at h; split at h
  · obtain ⟨h1, h2⟩ := h
    subst h1
    exact ⟨_, _, rfl, h2⟩
  · exact h.elim
theorem qwL_e {x : Cx} {e : Option va_E} {o : Nat} {K : Nat → (Nat → Int32) → Prop} (h : qwL x e o K) : (o = xB x ∧ K (xN x) (xS x)) ∨ ∃ n f, e = some (.inl (x.1.1, n, .inl f)) ∧ K n f := by
  unfold qwL at h; split at h
  · exact Or.inl h
  · obtain ⟨h1, h2⟩ := h
    subst h1
    exact Or.inr ⟨_, _, rfl, h2⟩
  · exact h.elim
theorem qwJ_e {e : Option va_E} {c : ClassId} {K : Nat → (Nat → Int64) → Prop} (h : qwJ e c K) : ∃ n f, e = some (.inl (c, n, .inr (.inl f))) ∧ K n f := by
  unfold qwJ at h; split at h
  · obtain ⟨h1, h2⟩ := h
    subst h1
    exact ⟨_, _, rfl, h2⟩
  · exact h.elim
theorem qwQ_e {e : Option va_E} {c : ClassId} {K : Nat → (Nat → Option Nat) → Prop} (h : qwQ e c K) : ∃ n f, e = some (.inl (c, n, .inr (.inr (.inr (.inr f))))) ∧ K n f := by
  unfold qwQ at h; split at h
  · obtain ⟨h1, h2⟩ := h
    subst h1
    exact ⟨_, _, rfl, h2⟩
  · exact h.elim
theorem qwA_e {x : Cx} {e : Option va_E} {o : Nat} {K : Nat → Prop} (h : qwA x e o K) : (o = xE x ∧ K 0) ∨ (o = xB x ∧ K (xN x)) ∨ (∃ (n : Nat) (f : (Nat → Int32) ⊕ (Nat → Int64) ⊕ (Nat → UInt32) ⊕ (Nat → UInt64) ⊕ (Nat → Option Nat)) (t0 : Nat) (ty : ClassId × FieldType), (tysX x)[t0]? = some ty ∧ e = some (.inl (ty.1, n, f)) ∧ K n) := by
  unfold qwA at h; split at h
  · split at h
    · exact Or.inl ⟨by assumption, h⟩
    · exact Or.inr (Or.inl h)
  · obtain ⟨h1 | h1, h2⟩ := h
    · exact Or.inr (Or.inr ⟨_, _, 0, (x.1.1, .int), rfl, by rw [h1]; rfl, h2⟩)
    · exact Or.inr (Or.inr ⟨_, _, 1, (x.1.2.1, .boolean), rfl, by rw [h1]; rfl, h2⟩)
  · obtain ⟨h1, h2⟩ := h
    exact Or.inr (Or.inr ⟨_, _, 3, (x.1.2.2.2, .object "java/lang/Object"), rfl, by rw [h1]; rfl, h2⟩)
  · exact h.elim
theorem qty_e {ty : FieldType} {v : Value} {P : Prop} (h : qty ty v P) : narrow ty v = v ∧ fits ty v = true ∧ P := by
  unfold qty at h; split at h
  · exact ⟨rfl, rfl, h⟩
  · obtain ⟨h1 | h1, h2⟩ := h <;> subst h1 <;> exact ⟨by decide +kernel, by decide +kernel, h2⟩
  · exact ⟨rfl, rfl, h⟩
  · exact ⟨rfl, rfl, h⟩
  · exact ⟨rfl, rfl, h⟩
  · exact ⟨rfl, rfl, h⟩
  · exact h.elim
theorem qrt_e {r : Option FieldType} {v : Int32} {P : Prop} (h : qrt r v P) : (r = some .int ∨ (r = some .boolean ∧ (v = 0 ∨ v = 1))) ∧ P := by
  unfold qrt at h; split at h
  · exact ⟨Or.inl rfl, h⟩
  · exact ⟨Or.inr ⟨rfl, h.1⟩, h.2⟩
  · exact h.elim
theorem qtk_e {K : List Value → List Value → Prop} : ∀ (n : Nat) (S acc : List Value), qtk n S acc K → ∃ As rest, S = As.reverse ++ rest ∧ As.length = n ∧ K (As ++ acc) rest
  | 0, S, acc, h => ⟨[], S, rfl, rfl, h⟩
  | n + 1, v :: S, acc, h => by
    obtain ⟨As, rest, h1, h2, h3⟩ := qtk_e n S (v :: acc) h
    exact ⟨As ++ [v], rest, by simp [h1], by simp [h2], by simpa using h3⟩
  | _ + 1, [], _, h => h.elim
theorem cat1_e {v : Value} (h : cat1 v = true) : v.category = 1 := by cases v <;> first | rfl | cases h
theorem rest8 : ∀ (S : List Value), S.length ≤ 4 → (S.map fun v => v.category).sum ≤ 8 := by
  have key : ∀ (S : List Value), (S.map fun v => v.category).sum ≤ 2 * S.length := by
    intro S
    induction S with
    | nil => simp
    | cons v S ih =>
      have hv : v.category ≤ 2 := by cases v <;> simp [Value.category]
      simp only [List.map_cons, List.sum_cons, List.length_cons]
      omega
  intro S h
  have := key S
  omega
end
/-- the classes of the worlds, by their places -/
theorem cl_uw : (vwCl.all fun r => (u_ws r.1 r.2.1 r.2.2).all fun w => decide (w ∈ lw_tbl) && goodWord w) = true := by decide +kernel
theorem cl_in {ci : Nat} {r : vw_C} (h : vwCl[ci]? = some r) : ∀ w ∈ u_ws r.1 r.2.1 r.2.2, w ∈ Tb := by
  intro w hw
  have h1 := List.all_eq_true.mp (List.all_eq_true.mp cl_uw r (List.mem_of_getElem? h)) w hw
  simp only [Bool.and_eq_true, decide_eq_true_eq] at h1
  exact List.mem_filter.mpr h1
theorem cl_ty {ci : Nat} {r : vw_C} (h : vwCl[ci]? = some r) : (∀ k, k < r.2.2 → parseFieldDescriptor (r.2.1 k).2.2.1 = some (fty ci k)) ∧ (∀ a, a < r.2.2 → ∀ b, b < r.2.2 → a ≠ b → (r.2.1 a).2.1 ≠ (r.2.1 b).2.1) ∧ fN ci = r.2.2 := by
  match ci, h with
  | 0, h => cases h; exact ⟨tyJx4a65c_ok, nmJx4a65c, rfl⟩
  | 1, h => cases h; exact ⟨tyX0_ok, nmX0, rfl⟩
  | 2, h => cases h; exact ⟨tyX1_ok, nmX1, rfl⟩
  | 3, h => cases h; exact ⟨tyX2_ok, nmX2, rfl⟩
  | 4, h => cases h; exact ⟨tyX3_ok, nmX3, rfl⟩
  | 5, h => cases h; exact ⟨tyX4_ok, nmX4, rfl⟩
  | 6, h => cases h; exact ⟨tyX5_ok, nmX5, rfl⟩
  | 7, h => cases h; exact ⟨tyX6_ok, nmX6, rfl⟩
  | 8, h => cases h; exact ⟨tyX7_ok, nmX7, rfl⟩
  | n + 9, h => simp [vwCl] at h
def clW : Bool := vwCl.all fun r => decide (Cond.instantiable r.1 r.2.2 ∈ lw_tbl) && decide (Cond.initialized r.1 ∈ lw_tbl) && goodWord (.instantiable r.1 r.2.2) && goodWord (.initialized r.1)
theorem clW_ok : clW = true := by decide +kernel
theorem cl_new {ci : Nat} {r : vw_C} (h : vwCl[ci]? = some r) : Cond.instantiable r.1 r.2.2 ∈ Tb ∧ Cond.initialized r.1 ∈ Tb := by
  have h1 := List.all_eq_true.mp clW_ok r (List.mem_of_getElem? h)
  simp only [Bool.and_eq_true, decide_eq_true_eq] at h1
  obtain ⟨⟨⟨h1, h2⟩, h3⟩, h4⟩ := h1
  exact ⟨List.mem_filter.mpr ⟨h1, h3⟩, List.mem_filter.mpr ⟨h2, h4⟩⟩
theorem arW : ∀ t : ArrayType, t = .int ∨ t = .boolean ∨ t = .long → Cond.arrayClass (newarray.typeOf t) ∈ Tb := by
  have h : ([ArrayType.int, .boolean, .long].all fun t => decide (Cond.arrayClass (newarray.typeOf t) ∈ lw_tbl) && goodWord (.arrayClass (newarray.typeOf t))) = true := by decide +kernel
  intro t ht
  have h1 := List.all_eq_true.mp h t (by rcases ht with rfl | rfl | rfl <;> simp)
  simp only [Bool.and_eq_true, decide_eq_true_eq] at h1
  exact List.mem_filter.mpr h1
end
section
/-! From the small machine to the walk: each instruction. -/
def Fr (x : Cx) (D : va_G) (B0 : Nat) (l : Launch) (k : Nat) (p : Program) (R : Room) (s : State) (m : MethodId) (args : Array Value) (meth : Method) (c : Code) : Prop :=
  p.tables.exec = Jvm.exec ∧ c.code = mB k ∧ c.maxLocals = mL k ∧ s.vm.findClass (mY k).cls = some m.cls ∧ (∀ w ∈ Tb, w.before args s = true) ∧ meth.locks = false ∧ meth.name = (mY k).name ∧ (mH k ≠ [] → c.exceptionTable.toList = tableOf (mH k)) ∧ WEnv x D B0 s ∧ mF k ≤ R.frames ∧ mO k ≤ R.locals ∧ l.stackTraces = false
def RetAt (k pc : Nat) (v : Option Value) : Prop :=
  (decode (mB k) pc = .ok (.return_, 1) ∧ v = none ∧ mR k = none) ∨ (∃ z : Int32, decode (mB k) pc = .ok (.ireturn, 1) ∧ v = some (.int z) ∧ (mR k = some .int ∨ (mR k = some .boolean ∧ (z = 0 ∨ z = 1)))) ∨
  (∃ u : Value, decode (mB k) pc = .ok (.areturn, 1) ∧ v = some u ∧ (u = .null ∨ ∃ a, u = .ref a) ∧ ∃ rt, mR k = some rt ∧ ((∃ n, rt = .object n) ∨ ∃ t, rt = .array t))
def EndR (D : va_G) (B0 k : Nat) (p : Program) (l : Launch) (e : Env) (R : Room) (s : State) (m : MethodId) (args : Array Value) (below : List Frame) (meth : Method) (c : Code) (Q : State → Prop) (post : Po) : Prop :=
  ∀ (w : Wd) (H : Heap) (locs : List Loc) (cells slots : Nat) (ls : Array Slot) (pc : Nat) (v : Option Value), RetAt k pc v → post (.inl v) w → GW D B0 w H → va_S (AA B0) s.heap H locs → cells ≤ R.cells → slots ≤ R.slots →
    W p l e R s m args below meth c H locs cells slots Q (F0 m pc ls v.toList)
def EndT (D : va_G) (B0 k : Nat) (p : Program) (l : Launch) (e : Env) (R : Room) (s : State) (m : MethodId) (args : Array Value) (below : List Frame) (meth : Method) (c : Code) (Q : State → Prop) (post : Po) : Prop :=
  ∀ (w : Wd) (H : Heap) (locs : List Loc) (cells slots : Nat) (ls : Array Slot) (pc : Nat) (rest : List Value) (ex : Nat) (q : Addr) (ce : Cell), (hnd k pc).lookup ex = none → post (.inr ex) w → GW D B0 w H → va_S (AA B0) s.heap H locs → cells ≤ R.cells → slots ≤ R.slots →
    H[q]? = some ce → ce.vm = .none → s.vm.findClass (exN ex) = some ce.cls → vx_W p l e R s m args below meth c H locs cells slots Q (F0 m pc ls rest) q
def EndN (D : va_G) (B0 k : Nat) (p : Program) (l : Launch) (e : Env) (R : Room) (s : State) (m : MethodId) (args : Array Value) (below : List Frame) (meth : Method) (c : Code) (Q : State → Prop) (post : Po) : Prop :=
  ∀ (w : Wd) (H : Heap) (locs : List Loc) (cells slots : Nat) (ls : Array Slot) (pc idx a b j : Nat) (rest : List Value), decode (mB k) pc = .ok (.new idx, 3) → okX k pc a b j idx = true → post (.inr a) w → GW D B0 w H → va_S (AA B0) s.heap H locs → cells + 1 ≤ R.cells → slots + 6 ≤ R.slots → rest.length ≤ 4 → ls.size = mL k →
    W p l e R s m args below meth c H locs cells slots Q (F0 m pc ls rest)
/-- what the machine's word says of the walk -/
def Snd (x : Cx) (D : va_G) (B0 : Nat) (l : Launch) : FT := fun k pc L S w mc ms post =>
  ∀ (p : Program) (e : Env) (R : Room) (s : State) (m : MethodId) (args : Array Value) (below : List Frame) (meth : Method) (c : Code) (Q : State → Prop) (H : Heap) (locs : List Loc) (cells slots : Nat) (ls : Array Slot),
    Fr x D B0 l k p R s m args meth c → EndR D B0 k p l e R s m args below meth c Q post → EndT D B0 k p l e R s m args below meth c Q post → EndN D B0 k p l e R s m args below meth c Q post →
    GW D B0 w H → va_S (AA B0) s.heap H locs → cells + mc ≤ R.cells → slots + ms ≤ R.slots → lvR ls (mL k) L →
    W p l e R s m args below meth c H locs cells slots Q (F0 m pc ls S)
abbrev SI (x : Cx) (D : va_G) (B0 : Nat) (l : Launch) (ai : AI) (k pc : Nat) (L : Lc) (S : List Value) (w : Wd) (mc ms : Nat) (post : Po) : Prop :=
  decode (mB k) pc = .ok (ai.1, ai.2.1) → okW k pc ai = true → stepI x ai (Snd x D B0 l) k pc L S w mc ms post → Snd x D B0 l k pc L S w mc ms post
section ROWS
variable {x : Cx} {D : va_G} {B0 : Nat} {l : Launch} {k pc : Nat} {L : Lc} {S : List Value} {w : Wd} {mc ms : Nat} {post : Po} {n a b j ee : Nat}
theorem Fr.sz {p : Program} {R : Room} {s : State} {m : MethodId} {args : Array Value} {meth : Method} {c : Code} {H : Heap} {locs : List Loc} (h : Fr x D B0 l k p R s m args meth c) (hS : va_S (AA B0) s.heap H locs) : B0 ≤ H.size := by
  obtain ⟨-, -, -, -, -, -, -, -, hE, -⟩ := h
  obtain ⟨-, -, -, -, -, -, -, -, -, -, -, h12⟩ := hE
  exact Nat.le_trans h12 hS.1
theorem sn_iconst {i : Int} : SI x D B0 l (.iconst i, n, a, b, j, ee) k pc L S w mc ms post := by
  intro hd hw h
  obtain rfl : n = 1 := of_decide_eq_true hw
  intro p e R s m args below meth c Q H locs cells slots ls hF hR hT hN hG hS h1 h2 hl
  obtain ⟨hx, hb, hml, hown, hts, hlk, hnm, htb, hE, hfr, hlo, htr⟩ := id hF
  exact lv_iconst hx hb hd rfl (h p e R s m args below meth c Q H locs cells slots ls hF hR hT hN hG hS h1 h2 hl)
theorem sn_bipush {i : Int} : SI x D B0 l (.bipush i, n, a, b, j, ee) k pc L S w mc ms post := by
  intro hd hw h
  obtain rfl : n = 2 := of_decide_eq_true hw
  intro p e R s m args below meth c Q H locs cells slots ls hF hR hT hN hG hS h1 h2 hl
  obtain ⟨hx, hb, hml, hown, hts, hlk, hnm, htb, hE, hfr, hlo, htr⟩ := id hF
  exact lv_bipush hx hb hd rfl (h p e R s m args below meth c Q H locs cells slots ls hF hR hT hN hG hS h1 h2 hl)
theorem sn_sipush {i : Int} : SI x D B0 l (.sipush i, n, a, b, j, ee) k pc L S w mc ms post := by
  intro hd hw h
  obtain rfl : n = 3 := of_decide_eq_true hw
  intro p e R s m args below meth c Q H locs cells slots ls hF hR hT hN hG hS h1 h2 hl
  obtain ⟨hx, hb, hml, hown, hts, hlk, hnm, htb, hE, hfr, hlo, htr⟩ := id hF
  exact lv_sipush hx hb hd rfl (h p e R s m args below meth c Q H locs cells slots ls hF hR hT hN hG hS h1 h2 hl)
theorem sn_null : SI x D B0 l (.aconst_null, n, a, b, j, ee) k pc L S w mc ms post := by
  intro hd hw h
  obtain rfl : n = 1 := of_decide_eq_true hw
  intro p e R s m args below meth c Q H locs cells slots ls hF hR hT hN hG hS h1 h2 hl
  obtain ⟨hx, hb, hml, hown, hts, hlk, hnm, htb, hE, hfr, hlo, htr⟩ := id hF
  exact lv_null hx hb hd (h p e R s m args below meth c Q H locs cells slots ls hF hR hT hN hG hS h1 h2 hl)
theorem sn_ldc {i : Nat} : SI x D B0 l (.ldc i, n, a, b, j, ee) k pc L S w mc ms post := by
  intro hd hw h
  have hw : (decide (n = 2) && tb j (.constant (mY k).cls i (nI a))) = true := hw
  simp only [Bool.and_eq_true, decide_eq_true_eq] at hw
  obtain ⟨rfl, hw⟩ := hw
  intro p e R s m args below meth c Q H locs cells slots ls hF hR hT hN hG hS h1 h2 hl
  obtain ⟨hx, hb, hml, hown, hts, hlk, hnm, htb, hE, hfr, hlo, htr⟩ := id hF
  exact lv_ldc hx hb hown (hts _ (tb_mem hw)) hd (h p e R s m args below meth c Q H locs cells slots ls hF hR hT hN hG hS h1 h2 hl)
theorem sn_ldc_w {i : Nat} : SI x D B0 l (.ldc_w i, n, a, b, j, ee) k pc L S w mc ms post := by
  intro hd hw h
  have hw : (decide (n = 3) && tb j (.constant (mY k).cls i (nI a))) = true := hw
  simp only [Bool.and_eq_true, decide_eq_true_eq] at hw
  obtain ⟨rfl, hw⟩ := hw
  intro p e R s m args below meth c Q H locs cells slots ls hF hR hT hN hG hS h1 h2 hl
  obtain ⟨hx, hb, hml, hown, hts, hlk, hnm, htb, hE, hfr, hlo, htr⟩ := id hF
  exact lv_ldcw hx hb hown (hts _ (tb_mem hw)) hd (h p e R s m args below meth c Q H locs cells slots ls hF hR hT hN hG hS h1 h2 hl)
theorem sn_iload_n {i : Fin 4} : SI x D B0 l (.iload_n i, n, a, b, j, ee) k pc L S w mc ms post := by
  intro hd hw h
  obtain rfl : n = 1 := of_decide_eq_true hw
  obtain ⟨z, hz, h⟩ := qlI_e h
  intro p e R s m args below meth c Q H locs cells slots ls hF hR hT hN hG hS h1 h2 hl
  obtain ⟨hx, hb, hml, hown, hts, hlk, hnm, htb, hE, hfr, hlo, htr⟩ := id hF
  exact lv_iload_n hx hb hd rfl (hl.2.2.2 _ _ hz).2 (h p e R s m args below meth c Q H locs cells slots ls hF hR hT hN hG hS h1 h2 hl)
theorem sn_iload {i : Nat} : SI x D B0 l (.iload i, n, a, b, j, ee) k pc L S w mc ms post := by
  intro hd hw h
  obtain rfl : n = 2 := of_decide_eq_true hw
  obtain ⟨z, hz, h⟩ := qlI_e h
  intro p e R s m args below meth c Q H locs cells slots ls hF hR hT hN hG hS h1 h2 hl
  obtain ⟨hx, hb, hml, hown, hts, hlk, hnm, htb, hE, hfr, hlo, htr⟩ := id hF
  exact lv_iload hx hb hd (hl.2.2.2 _ _ hz).2 (h p e R s m args below meth c Q H locs cells slots ls hF hR hT hN hG hS h1 h2 hl)
theorem sn_aload_n {i : Fin 4} : SI x D B0 l (.aload_n i, n, a, b, j, ee) k pc L S w mc ms post := by
  intro hd hw h
  obtain rfl : n = 1 := of_decide_eq_true hw
  have h : qlA L i fun v => Snd x D B0 l k (pc + 1) L (v :: S) w mc ms post := h
  rcases qlA_e h with ⟨z, hz, h⟩ | ⟨hz, h⟩
  · intro p e R s m args below meth c Q H locs cells slots ls hF hR hT hN hG hS h1 h2 hl
    obtain ⟨hx, hb, hml, hown, hts, hlk, hnm, htb, hE, hfr, hlo, htr⟩ := id hF
    exact lv_aload_n hx hb hd rfl (hl.2.2.2 _ _ hz).2 (h p e R s m args below meth c Q H locs cells slots ls hF hR hT hN hG hS h1 h2 hl)
  · intro p e R s m args below meth c Q H locs cells slots ls hF hR hT hN hG hS h1 h2 hl
    obtain ⟨hx, hb, hml, hown, hts, hlk, hnm, htb, hE, hfr, hlo, htr⟩ := id hF
    exact lv_aload_nN hx hb hd rfl (hl.2.2.2 _ _ hz).2 (h p e R s m args below meth c Q H locs cells slots ls hF hR hT hN hG hS h1 h2 hl)
theorem sn_aload {i : Nat} : SI x D B0 l (.aload i, n, a, b, j, ee) k pc L S w mc ms post := by
  intro hd hw h
  obtain rfl : n = 2 := of_decide_eq_true hw
  have h : qlA L i fun v => Snd x D B0 l k (pc + 2) L (v :: S) w mc ms post := h
  rcases qlA_e h with ⟨z, hz, h⟩ | ⟨hz, h⟩
  · intro p e R s m args below meth c Q H locs cells slots ls hF hR hT hN hG hS h1 h2 hl
    obtain ⟨hx, hb, hml, hown, hts, hlk, hnm, htb, hE, hfr, hlo, htr⟩ := id hF
    exact lv_aload hx hb hd (hl.2.2.2 _ _ hz).2 (h p e R s m args below meth c Q H locs cells slots ls hF hR hT hN hG hS h1 h2 hl)
  · intro p e R s m args below meth c Q H locs cells slots ls hF hR hT hN hG hS h1 h2 hl
    obtain ⟨hx, hb, hml, hown, hts, hlk, hnm, htb, hE, hfr, hlo, htr⟩ := id hF
    exact lv_aloadN hx hb hd (hl.2.2.2 _ _ hz).2 (h p e R s m args below meth c Q H locs cells slots ls hF hR hT hN hG hS h1 h2 hl)
theorem sn_istore_n {i : Fin 4} : SI x D B0 l (.istore_n i, n, a, b, j, ee) k pc L S w mc ms post := by
  intro hd hw h
  obtain rfl : n = 1 := of_decide_eq_true hw
  obtain ⟨z, S, rfl, hi, h⟩ := qs1_e h
  intro p e R s m args below meth c Q H locs cells slots ls hF hR hT hN hG hS h1 h2 hl
  obtain ⟨hx, hb, hml, hown, hts, hlk, hnm, htb, hE, hfr, hlo, htr⟩ := id hF
  exact lv_istore_n hx hb hd rfl hl.has (by rw [← hl.1]; exact hi) rfl (fun ls' hl' => h p e R s m args below meth c Q H locs cells slots ls' hF hR hT hN hG hS h1 h2 (hl.put rfl hl'))
theorem sn_istore {i : Nat} : SI x D B0 l (.istore i, n, a, b, j, ee) k pc L S w mc ms post := by
  intro hd hw h
  obtain rfl : n = 2 := of_decide_eq_true hw
  obtain ⟨z, S, rfl, hi, h⟩ := qs1_e h
  intro p e R s m args below meth c Q H locs cells slots ls hF hR hT hN hG hS h1 h2 hl
  obtain ⟨hx, hb, hml, hown, hts, hlk, hnm, htb, hE, hfr, hlo, htr⟩ := id hF
  exact lv_istore hx hb hd hl.has (by rw [← hl.1]; exact hi) rfl (fun ls' hl' => h p e R s m args below meth c Q H locs cells slots ls' hF hR hT hN hG hS h1 h2 (hl.put rfl hl'))
theorem sn_astore_n {i : Fin 4} : SI x D B0 l (.astore_n i, n, a, b, j, ee) k pc L S w mc ms post := by
  intro hd hw h
  obtain rfl : n = 1 := of_decide_eq_true hw
  obtain ⟨z, S, rfl, hi, h⟩ := qsr_e h
  intro p e R s m args below meth c Q H locs cells slots ls hF hR hT hN hG hS h1 h2 hl
  obtain ⟨hx, hb, hml, hown, hts, hlk, hnm, htb, hE, hfr, hlo, htr⟩ := id hF
  exact lv_astore_n hx hb hd rfl hl.has (by rw [← hl.1]; exact hi) rfl (fun ls' hl' => h p e R s m args below meth c Q H locs cells slots ls' hF hR hT hN hG hS h1 h2 (hl.put rfl hl'))
theorem sn_astore {i : Nat} : SI x D B0 l (.astore i, n, a, b, j, ee) k pc L S w mc ms post := by
  intro hd hw h
  obtain rfl : n = 2 := of_decide_eq_true hw
  obtain ⟨z, S, rfl, hi, h⟩ := qsr_e h
  intro p e R s m args below meth c Q H locs cells slots ls hF hR hT hN hG hS h1 h2 hl
  obtain ⟨hx, hb, hml, hown, hts, hlk, hnm, htb, hE, hfr, hlo, htr⟩ := id hF
  exact lv_astore hx hb hd hl.has (by rw [← hl.1]; exact hi) rfl (fun ls' hl' => h p e R s m args below meth c Q H locs cells slots ls' hF hR hT hN hG hS h1 h2 (hl.put rfl hl'))
theorem sn_iinc {i : Nat} {z : Int} : SI x D B0 l (.iinc i z, n, a, b, j, ee) k pc L S w mc ms post := by
  intro hd hw h
  obtain rfl : n = 3 := of_decide_eq_true hw
  obtain ⟨v, hv, hi, h⟩ := qlI_e h
  intro p e R s m args below meth c Q H locs cells slots ls hF hR hT hN hG hS h1 h2 hl
  obtain ⟨hx, hb, hml, hown, hts, hlk, hnm, htb, hE, hfr, hlo, htr⟩ := id hF
  have hh : lv_has ls (mL k) ((i, .int v) :: lvP L) := ⟨hl.has.1, hl.has.2.1, fun q hq => by
    rcases List.mem_cons.mp hq with rfl | hq
    · exact (hl.2.2.2 _ _ hv).2
    · exact hl.has.2.2 q hq⟩
  refine lv_iinc (k := 0) hx hb hd hh rfl rfl (by rw [← hl.1]; exact hi) rfl (fun ls' hl' => h p e R s m args below meth c Q H locs cells slots ls' hF hR hT hN hG hS h1 h2 (hl.put rfl ⟨hl'.1, hl'.2.1, fun q hq => hl'.2.2 q ?_⟩))
  rcases List.mem_cons.mp hq with rfl | hq
  · exact List.mem_cons_self
  · refine List.mem_cons_of_mem _ ?_
    obtain ⟨q1, q2⟩ := List.mem_filter.mp hq
    exact List.mem_filter.mpr ⟨List.mem_cons_of_mem _ q1, q2⟩
theorem sn_iadd : SI x D B0 l (.iadd, n, a, b, j, ee) k pc L S w mc ms post := by
  intro hd hw h
  obtain rfl : n = 1 := of_decide_eq_true hw
  obtain ⟨u, v, S, rfl, h⟩ := qs2_e h
  intro p e R s m args below meth c Q H locs cells slots ls hF hR hT hN hG hS h1 h2 hl
  obtain ⟨hx, hb, hml, hown, hts, hlk, hnm, htb, hE, hfr, hlo, htr⟩ := id hF
  exact lv_iadd hx hb hd (h p e R s m args below meth c Q H locs cells slots ls hF hR hT hN hG hS h1 h2 hl)
theorem sn_isub : SI x D B0 l (.isub, n, a, b, j, ee) k pc L S w mc ms post := by
  intro hd hw h
  obtain rfl : n = 1 := of_decide_eq_true hw
  obtain ⟨u, v, S, rfl, h⟩ := qs2_e h
  intro p e R s m args below meth c Q H locs cells slots ls hF hR hT hN hG hS h1 h2 hl
  obtain ⟨hx, hb, hml, hown, hts, hlk, hnm, htb, hE, hfr, hlo, htr⟩ := id hF
  exact lv_isub hx hb hd (h p e R s m args below meth c Q H locs cells slots ls hF hR hT hN hG hS h1 h2 hl)
theorem sn_imul : SI x D B0 l (.imul, n, a, b, j, ee) k pc L S w mc ms post := by
  intro hd hw h
  obtain rfl : n = 1 := of_decide_eq_true hw
  obtain ⟨u, v, S, rfl, h⟩ := qs2_e h
  intro p e R s m args below meth c Q H locs cells slots ls hF hR hT hN hG hS h1 h2 hl
  obtain ⟨hx, hb, hml, hown, hts, hlk, hnm, htb, hE, hfr, hlo, htr⟩ := id hF
  exact lv_imul hx hb hd (h p e R s m args below meth c Q H locs cells slots ls hF hR hT hN hG hS h1 h2 hl)
theorem sn_iand : SI x D B0 l (.iand, n, a, b, j, ee) k pc L S w mc ms post := by
  intro hd hw h
  obtain rfl : n = 1 := of_decide_eq_true hw
  obtain ⟨u, v, S, rfl, h⟩ := qs2_e h
  intro p e R s m args below meth c Q H locs cells slots ls hF hR hT hN hG hS h1 h2 hl
  obtain ⟨hx, hb, hml, hown, hts, hlk, hnm, htb, hE, hfr, hlo, htr⟩ := id hF
  exact lv_iand hx hb hd (h p e R s m args below meth c Q H locs cells slots ls hF hR hT hN hG hS h1 h2 hl)
theorem sn_ixor : SI x D B0 l (.ixor, n, a, b, j, ee) k pc L S w mc ms post := by
  intro hd hw h
  obtain rfl : n = 1 := of_decide_eq_true hw
  obtain ⟨u, v, S, rfl, h⟩ := qs2_e h
  intro p e R s m args below meth c Q H locs cells slots ls hF hR hT hN hG hS h1 h2 hl
  obtain ⟨hx, hb, hml, hown, hts, hlk, hnm, htb, hE, hfr, hlo, htr⟩ := id hF
  exact lv_ixor hx hb hd (h p e R s m args below meth c Q H locs cells slots ls hF hR hT hN hG hS h1 h2 hl)
theorem sn_ishl : SI x D B0 l (.ishl, n, a, b, j, ee) k pc L S w mc ms post := by
  intro hd hw h
  obtain rfl : n = 1 := of_decide_eq_true hw
  obtain ⟨u, v, S, rfl, h⟩ := qs2_e h
  intro p e R s m args below meth c Q H locs cells slots ls hF hR hT hN hG hS h1 h2 hl
  obtain ⟨hx, hb, hml, hown, hts, hlk, hnm, htb, hE, hfr, hlo, htr⟩ := id hF
  exact lv_ishl hx hb hd (h p e R s m args below meth c Q H locs cells slots ls hF hR hT hN hG hS h1 h2 hl)
theorem sn_ishr : SI x D B0 l (.ishr, n, a, b, j, ee) k pc L S w mc ms post := by
  intro hd hw h
  obtain rfl : n = 1 := of_decide_eq_true hw
  obtain ⟨u, v, S, rfl, h⟩ := qs2_e h
  intro p e R s m args below meth c Q H locs cells slots ls hF hR hT hN hG hS h1 h2 hl
  obtain ⟨hx, hb, hml, hown, hts, hlk, hnm, htb, hE, hfr, hlo, htr⟩ := id hF
  exact lv_ishr hx hb hd (h p e R s m args below meth c Q H locs cells slots ls hF hR hT hN hG hS h1 h2 hl)
theorem sn_idiv : SI x D B0 l (.idiv, n, a, b, j, ee) k pc L S w mc ms post := by
  intro hd hw h
  obtain rfl : n = 1 := of_decide_eq_true hw
  obtain ⟨u, v, S, rfl, h0, h⟩ := qs2_e h
  intro p e R s m args below meth c Q H locs cells slots ls hF hR hT hN hG hS h1 h2 hl
  obtain ⟨hx, hb, hml, hown, hts, hlk, hnm, htb, hE, hfr, hlo, htr⟩ := id hF
  exact lv_idiv hx hb hd h0 (h p e R s m args below meth c Q H locs cells slots ls hF hR hT hN hG hS h1 h2 hl)
theorem sn_irem : SI x D B0 l (.irem, n, a, b, j, ee) k pc L S w mc ms post := by
  intro hd hw h
  obtain rfl : n = 1 := of_decide_eq_true hw
  obtain ⟨u, v, S, rfl, h0, h⟩ := qs2_e h
  intro p e R s m args below meth c Q H locs cells slots ls hF hR hT hN hG hS h1 h2 hl
  obtain ⟨hx, hb, hml, hown, hts, hlk, hnm, htb, hE, hfr, hlo, htr⟩ := id hF
  exact lv_irem hx hb hd h0 (h p e R s m args below meth c Q H locs cells slots ls hF hR hT hN hG hS h1 h2 hl)
theorem sn_iushr : SI x D B0 l (.iushr, n, a, b, j, ee) k pc L S w mc ms post := by
  intro hd hw h
  obtain rfl : n = 1 := of_decide_eq_true hw
  obtain ⟨u, v, S, rfl, h⟩ := qs2_e h
  intro p e R s m args below meth c Q H locs cells slots ls hF hR hT hN hG hS h1 h2 hl
  obtain ⟨hx, hb, hml, hown, hts, hlk, hnm, htb, hE, hfr, hlo, htr⟩ := id hF
  exact lv_iushr hx hb hd rfl (h p e R s m args below meth c Q H locs cells slots ls hF hR hT hN hG hS h1 h2 hl)
theorem sn_ineg : SI x D B0 l (.ineg, n, a, b, j, ee) k pc L S w mc ms post := by
  intro hd hw h
  obtain rfl : n = 1 := of_decide_eq_true hw
  obtain ⟨u, S, rfl, h⟩ := qs1_e h
  intro p e R s m args below meth c Q H locs cells slots ls hF hR hT hN hG hS h1 h2 hl
  obtain ⟨hx, hb, hml, hown, hts, hlk, hnm, htb, hE, hfr, hlo, htr⟩ := id hF
  exact lv_ineg hx hb hd (h p e R s m args below meth c Q H locs cells slots ls hF hR hT hN hG hS h1 h2 hl)
theorem sn_i2l : SI x D B0 l (.i2l, n, a, b, j, ee) k pc L S w mc ms post := by
  intro hd hw h
  obtain rfl : n = 1 := of_decide_eq_true hw
  obtain ⟨u, S, rfl, h⟩ := qs1_e h
  intro p e R s m args below meth c Q H locs cells slots ls hF hR hT hN hG hS h1 h2 hl
  obtain ⟨hx, hb, hml, hown, hts, hlk, hnm, htb, hE, hfr, hlo, htr⟩ := id hF
  exact lv_i2l hx hb hd rfl (h p e R s m args below meth c Q H locs cells slots ls hF hR hT hN hG hS h1 h2 hl)
theorem sn_lcmp : SI x D B0 l (.lcmp, n, a, b, j, ee) k pc L S w mc ms post := by
  intro hd hw h
  obtain rfl : n = 1 := of_decide_eq_true hw
  obtain ⟨u, v, S, rfl, h⟩ := qsll_e h
  intro p e R s m args below meth c Q H locs cells slots ls hF hR hT hN hG hS h1 h2 hl
  obtain ⟨hx, hb, hml, hown, hts, hlk, hnm, htb, hE, hfr, hlo, htr⟩ := id hF
  exact W.lcmp hx hb hd (h p e R s m args below meth c Q H locs cells slots ls hF hR hT hN hG hS h1 h2 hl)
theorem sn_dup : SI x D B0 l (.dup, n, a, b, j, ee) k pc L S w mc ms post := by
  intro hd hw h
  obtain rfl : n = 1 := of_decide_eq_true hw
  have h : qsv S fun v S => Snd x D B0 l k (pc + 1) L (v :: v :: S) w mc ms post := h
  obtain ⟨v, S, rfl, hc, -, h⟩ := qsv_e h
  intro p e R s m args below meth c Q H locs cells slots ls hF hR hT hN hG hS h1 h2 hl
  obtain ⟨hx, hb, hml, hown, hts, hlk, hnm, htb, hE, hfr, hlo, htr⟩ := id hF
  exact lv_dup hx hb hd hc (h p e R s m args below meth c Q H locs cells slots ls hF hR hT hN hG hS h1 h2 hl)
theorem sn_pop : SI x D B0 l (.pop, n, a, b, j, ee) k pc L S w mc ms post := by
  intro hd hw h
  obtain rfl : n = 1 := of_decide_eq_true hw
  have h : qsv S fun _ S => Snd x D B0 l k (pc + 1) L S w mc ms post := h
  obtain ⟨v, S, rfl, hc, -, h⟩ := qsv_e h
  intro p e R s m args below meth c Q H locs cells slots ls hF hR hT hN hG hS h1 h2 hl
  obtain ⟨hx, hb, hml, hown, hts, hlk, hnm, htb, hE, hfr, hlo, htr⟩ := id hF
  exact lv_pop hx hb hd hc (h p e R s m args below meth c Q H locs cells slots ls hF hR hT hN hG hS h1 h2 hl)
theorem sn_dup_x1 : SI x D B0 l (.dup_x1, n, a, b, j, ee) k pc L S w mc ms post := by
  intro hd hw h
  obtain rfl : n = 1 := of_decide_eq_true hw
  have h : qsv S fun v S => qsv S fun u S => Snd x D B0 l k (pc + 1) L (v :: u :: v :: S) w mc ms post := h
  obtain ⟨v, S, rfl, hc, -, h⟩ := qsv_e h
  obtain ⟨v2, S, rfl, hc2, -, h⟩ := qsv_e h
  intro p e R s m args below meth c Q H locs cells slots ls hF hR hT hN hG hS h1 h2 hl
  obtain ⟨hx, hb, hml, hown, hts, hlk, hnm, htb, hE, hfr, hlo, htr⟩ := id hF
  exact lv_dup_x1 hx hb hd hc hc2 (h p e R s m args below meth c Q H locs cells slots ls hF hR hT hN hG hS h1 h2 hl)
theorem sn_dup2 : SI x D B0 l (.dup2, n, a, b, j, ee) k pc L S w mc ms post := by
  intro hd hw h
  obtain rfl : n = 1 := of_decide_eq_true hw
  have h : qsv S fun v S => qsv S fun u S => Snd x D B0 l k (pc + 1) L (v :: u :: v :: u :: S) w mc ms post := h
  obtain ⟨v, S, rfl, hc, -, h⟩ := qsv_e h
  obtain ⟨v2, S, rfl, hc2, -, h⟩ := qsv_e h
  intro p e R s m args below meth c Q H locs cells slots ls hF hR hT hN hG hS h1 h2 hl
  obtain ⟨hx, hb, hml, hown, hts, hlk, hnm, htb, hE, hfr, hlo, htr⟩ := id hF
  exact lv_dup2_11 hx hb hd hc hc2 (h p e R s m args below meth c Q H locs cells slots ls hF hR hT hN hG hS h1 h2 hl)
theorem sn_goto {o : Int} : SI x D B0 l (.goto o, n, a, b, j, ee) k pc L S w mc ms post := by
  intro hd hw h
  have hw : (decide (n = 3) && decide ((pc : Int) + o = (a : Int))) = true := hw
  simp only [Bool.and_eq_true, decide_eq_true_eq] at hw
  obtain ⟨rfl, ht⟩ := hw
  intro p e R s m args below meth c Q H locs cells slots ls hF hR hT hN hG hS h1 h2 hl
  obtain ⟨hx, hb, hml, hown, hts, hlk, hnm, htb, hE, hfr, hlo, htr⟩ := id hF
  exact lv_goto hx hb hd ht (h p e R s m args below meth c Q H locs cells slots ls hF hR hT hN hG hS h1 h2 hl)
theorem sn_if_eq {o : Int} : SI x D B0 l (.ifCond .eq o, n, a, b, j, ee) k pc L S w mc ms post := by
  intro hd hw h
  have hw : (decide (n = 3) && decide ((pc : Int) + o = (a : Int))) = true := hw
  simp only [Bool.and_eq_true, decide_eq_true_eq] at hw
  obtain ⟨rfl, ht⟩ := hw
  obtain ⟨u, S, rfl, h⟩ := qs1_e h
  intro p e R s m args below meth c Q H locs cells slots ls hF hR hT hN hG hS h1 h2 hl
  obtain ⟨hx, hb, hml, hown, hts, hlk, hnm, htb, hE, hfr, hlo, htr⟩ := id hF
  have h : (if u = 0 then Snd x D B0 l k a L S w mc ms post else Snd x D B0 l k (pc + 3) L S w mc ms post) := h
  refine lv_if_eq hx hb hd ht (fun hc => ?_) (fun hc => ?_)
  · rw [if_pos hc] at h
    exact h p e R s m args below meth c Q H locs cells slots ls hF hR hT hN hG hS h1 h2 hl
  · rw [if_neg hc] at h
    exact h p e R s m args below meth c Q H locs cells slots ls hF hR hT hN hG hS h1 h2 hl
theorem sn_if_ne {o : Int} : SI x D B0 l (.ifCond .ne o, n, a, b, j, ee) k pc L S w mc ms post := by
  intro hd hw h
  have hw : (decide (n = 3) && decide ((pc : Int) + o = (a : Int))) = true := hw
  simp only [Bool.and_eq_true, decide_eq_true_eq] at hw
  obtain ⟨rfl, ht⟩ := hw
  obtain ⟨u, S, rfl, h⟩ := qs1_e h
  intro p e R s m args below meth c Q H locs cells slots ls hF hR hT hN hG hS h1 h2 hl
  obtain ⟨hx, hb, hml, hown, hts, hlk, hnm, htb, hE, hfr, hlo, htr⟩ := id hF
  have h : (if u = 0 then Snd x D B0 l k (pc + 3) L S w mc ms post else Snd x D B0 l k a L S w mc ms post) := h
  refine lv_if_ne hx hb hd ht (fun hc => ?_) (fun hc => ?_)
  · rw [if_neg hc] at h
    exact h p e R s m args below meth c Q H locs cells slots ls hF hR hT hN hG hS h1 h2 hl
  · rw [if_pos hc] at h
    exact h p e R s m args below meth c Q H locs cells slots ls hF hR hT hN hG hS h1 h2 hl
theorem sn_if_lt {o : Int} : SI x D B0 l (.ifCond .lt o, n, a, b, j, ee) k pc L S w mc ms post := by
  intro hd hw h
  have hw : (decide (n = 3) && decide ((pc : Int) + o = (a : Int))) = true := hw
  simp only [Bool.and_eq_true, decide_eq_true_eq] at hw
  obtain ⟨rfl, ht⟩ := hw
  obtain ⟨u, S, rfl, h⟩ := qs1_e h
  intro p e R s m args below meth c Q H locs cells slots ls hF hR hT hN hG hS h1 h2 hl
  obtain ⟨hx, hb, hml, hown, hts, hlk, hnm, htb, hE, hfr, hlo, htr⟩ := id hF
  have h : (if u < 0 then Snd x D B0 l k a L S w mc ms post else Snd x D B0 l k (pc + 3) L S w mc ms post) := h
  refine lv_if_lt hx hb hd ht (fun hc => ?_) (fun hc => ?_)
  · rw [if_pos hc] at h
    exact h p e R s m args below meth c Q H locs cells slots ls hF hR hT hN hG hS h1 h2 hl
  · rw [if_neg hc] at h
    exact h p e R s m args below meth c Q H locs cells slots ls hF hR hT hN hG hS h1 h2 hl
theorem sn_if_ge {o : Int} : SI x D B0 l (.ifCond .ge o, n, a, b, j, ee) k pc L S w mc ms post := by
  intro hd hw h
  have hw : (decide (n = 3) && decide ((pc : Int) + o = (a : Int))) = true := hw
  simp only [Bool.and_eq_true, decide_eq_true_eq] at hw
  obtain ⟨rfl, ht⟩ := hw
  obtain ⟨u, S, rfl, h⟩ := qs1_e h
  intro p e R s m args below meth c Q H locs cells slots ls hF hR hT hN hG hS h1 h2 hl
  obtain ⟨hx, hb, hml, hown, hts, hlk, hnm, htb, hE, hfr, hlo, htr⟩ := id hF
  have h : (if 0 ≤ u then Snd x D B0 l k a L S w mc ms post else Snd x D B0 l k (pc + 3) L S w mc ms post) := h
  refine lv_if_ge hx hb hd ht (fun hc => ?_) (fun hc => ?_)
  · rw [if_pos hc] at h
    exact h p e R s m args below meth c Q H locs cells slots ls hF hR hT hN hG hS h1 h2 hl
  · rw [if_neg hc] at h
    exact h p e R s m args below meth c Q H locs cells slots ls hF hR hT hN hG hS h1 h2 hl
theorem sn_if_gt {o : Int} : SI x D B0 l (.ifCond .gt o, n, a, b, j, ee) k pc L S w mc ms post := by
  intro hd hw h
  have hw : (decide (n = 3) && decide ((pc : Int) + o = (a : Int))) = true := hw
  simp only [Bool.and_eq_true, decide_eq_true_eq] at hw
  obtain ⟨rfl, ht⟩ := hw
  obtain ⟨u, S, rfl, h⟩ := qs1_e h
  intro p e R s m args below meth c Q H locs cells slots ls hF hR hT hN hG hS h1 h2 hl
  obtain ⟨hx, hb, hml, hown, hts, hlk, hnm, htb, hE, hfr, hlo, htr⟩ := id hF
  have h : (if 0 < u then Snd x D B0 l k a L S w mc ms post else Snd x D B0 l k (pc + 3) L S w mc ms post) := h
  refine lv_if_gt hx hb hd ht (fun hc => ?_) (fun hc => ?_)
  · rw [if_pos hc] at h
    exact h p e R s m args below meth c Q H locs cells slots ls hF hR hT hN hG hS h1 h2 hl
  · rw [if_neg hc] at h
    exact h p e R s m args below meth c Q H locs cells slots ls hF hR hT hN hG hS h1 h2 hl
theorem sn_if_le {o : Int} : SI x D B0 l (.ifCond .le o, n, a, b, j, ee) k pc L S w mc ms post := by
  intro hd hw h
  have hw : (decide (n = 3) && decide ((pc : Int) + o = (a : Int))) = true := hw
  simp only [Bool.and_eq_true, decide_eq_true_eq] at hw
  obtain ⟨rfl, ht⟩ := hw
  obtain ⟨u, S, rfl, h⟩ := qs1_e h
  intro p e R s m args below meth c Q H locs cells slots ls hF hR hT hN hG hS h1 h2 hl
  obtain ⟨hx, hb, hml, hown, hts, hlk, hnm, htb, hE, hfr, hlo, htr⟩ := id hF
  have h : (if u ≤ 0 then Snd x D B0 l k a L S w mc ms post else Snd x D B0 l k (pc + 3) L S w mc ms post) := h
  refine lv_if_le hx hb hd ht (fun hc => ?_) (fun hc => ?_)
  · rw [if_pos hc] at h
    exact h p e R s m args below meth c Q H locs cells slots ls hF hR hT hN hG hS h1 h2 hl
  · rw [if_neg hc] at h
    exact h p e R s m args below meth c Q H locs cells slots ls hF hR hT hN hG hS h1 h2 hl
theorem sn_icmp_eq {o : Int} : SI x D B0 l (.if_icmp .eq o, n, a, b, j, ee) k pc L S w mc ms post := by
  intro hd hw h
  have hw : (decide (n = 3) && decide ((pc : Int) + o = (a : Int))) = true := hw
  simp only [Bool.and_eq_true, decide_eq_true_eq] at hw
  obtain ⟨rfl, ht⟩ := hw
  obtain ⟨u, v, S, rfl, h⟩ := qs2_e h
  intro p e R s m args below meth c Q H locs cells slots ls hF hR hT hN hG hS h1 h2 hl
  obtain ⟨hx, hb, hml, hown, hts, hlk, hnm, htb, hE, hfr, hlo, htr⟩ := id hF
  have h : (if u = v then Snd x D B0 l k a L S w mc ms post else Snd x D B0 l k (pc + 3) L S w mc ms post) := h
  refine lv_icmp_eq hx hb hd ht (fun hc => ?_) (fun hc => ?_)
  · rw [if_pos hc] at h
    exact h p e R s m args below meth c Q H locs cells slots ls hF hR hT hN hG hS h1 h2 hl
  · rw [if_neg hc] at h
    exact h p e R s m args below meth c Q H locs cells slots ls hF hR hT hN hG hS h1 h2 hl
theorem sn_icmp_ne {o : Int} : SI x D B0 l (.if_icmp .ne o, n, a, b, j, ee) k pc L S w mc ms post := by
  intro hd hw h
  have hw : (decide (n = 3) && decide ((pc : Int) + o = (a : Int))) = true := hw
  simp only [Bool.and_eq_true, decide_eq_true_eq] at hw
  obtain ⟨rfl, ht⟩ := hw
  obtain ⟨u, v, S, rfl, h⟩ := qs2_e h
  intro p e R s m args below meth c Q H locs cells slots ls hF hR hT hN hG hS h1 h2 hl
  obtain ⟨hx, hb, hml, hown, hts, hlk, hnm, htb, hE, hfr, hlo, htr⟩ := id hF
  have h : (if u = v then Snd x D B0 l k (pc + 3) L S w mc ms post else Snd x D B0 l k a L S w mc ms post) := h
  refine lv_icmp_ne hx hb hd ht (fun hc => ?_) (fun hc => ?_)
  · rw [if_neg hc] at h
    exact h p e R s m args below meth c Q H locs cells slots ls hF hR hT hN hG hS h1 h2 hl
  · rw [if_pos hc] at h
    exact h p e R s m args below meth c Q H locs cells slots ls hF hR hT hN hG hS h1 h2 hl
theorem sn_icmp_lt {o : Int} : SI x D B0 l (.if_icmp .lt o, n, a, b, j, ee) k pc L S w mc ms post := by
  intro hd hw h
  have hw : (decide (n = 3) && decide ((pc : Int) + o = (a : Int))) = true := hw
  simp only [Bool.and_eq_true, decide_eq_true_eq] at hw
  obtain ⟨rfl, ht⟩ := hw
  obtain ⟨u, v, S, rfl, h⟩ := qs2_e h
  intro p e R s m args below meth c Q H locs cells slots ls hF hR hT hN hG hS h1 h2 hl
  obtain ⟨hx, hb, hml, hown, hts, hlk, hnm, htb, hE, hfr, hlo, htr⟩ := id hF
  have h : (if u < v then Snd x D B0 l k a L S w mc ms post else Snd x D B0 l k (pc + 3) L S w mc ms post) := h
  refine lv_icmp_lt hx hb hd ht (fun hc => ?_) (fun hc => ?_)
  · rw [if_pos hc] at h
    exact h p e R s m args below meth c Q H locs cells slots ls hF hR hT hN hG hS h1 h2 hl
  · rw [if_neg hc] at h
    exact h p e R s m args below meth c Q H locs cells slots ls hF hR hT hN hG hS h1 h2 hl
theorem sn_icmp_ge {o : Int} : SI x D B0 l (.if_icmp .ge o, n, a, b, j, ee) k pc L S w mc ms post := by
  intro hd hw h
  have hw : (decide (n = 3) && decide ((pc : Int) + o = (a : Int))) = true := hw
  simp only [Bool.and_eq_true, decide_eq_true_eq] at hw
  obtain ⟨rfl, ht⟩ := hw
  obtain ⟨u, v, S, rfl, h⟩ := qs2_e h
  intro p e R s m args below meth c Q H locs cells slots ls hF hR hT hN hG hS h1 h2 hl
  obtain ⟨hx, hb, hml, hown, hts, hlk, hnm, htb, hE, hfr, hlo, htr⟩ := id hF
  have h : (if v ≤ u then Snd x D B0 l k a L S w mc ms post else Snd x D B0 l k (pc + 3) L S w mc ms post) := h
  refine lv_icmp_ge hx hb hd ht (fun hc => ?_) (fun hc => ?_)
  · rw [if_pos hc] at h
    exact h p e R s m args below meth c Q H locs cells slots ls hF hR hT hN hG hS h1 h2 hl
  · rw [if_neg hc] at h
    exact h p e R s m args below meth c Q H locs cells slots ls hF hR hT hN hG hS h1 h2 hl
theorem sn_icmp_gt {o : Int} : SI x D B0 l (.if_icmp .gt o, n, a, b, j, ee) k pc L S w mc ms post := by
  intro hd hw h
  have hw : (decide (n = 3) && decide ((pc : Int) + o = (a : Int))) = true := hw
  simp only [Bool.and_eq_true, decide_eq_true_eq] at hw
  obtain ⟨rfl, ht⟩ := hw
  obtain ⟨u, v, S, rfl, h⟩ := qs2_e h
  intro p e R s m args below meth c Q H locs cells slots ls hF hR hT hN hG hS h1 h2 hl
  obtain ⟨hx, hb, hml, hown, hts, hlk, hnm, htb, hE, hfr, hlo, htr⟩ := id hF
  have h : (if v < u then Snd x D B0 l k a L S w mc ms post else Snd x D B0 l k (pc + 3) L S w mc ms post) := h
  refine lv_icmp_gt hx hb hd ht (fun hc => ?_) (fun hc => ?_)
  · rw [if_pos hc] at h
    exact h p e R s m args below meth c Q H locs cells slots ls hF hR hT hN hG hS h1 h2 hl
  · rw [if_neg hc] at h
    exact h p e R s m args below meth c Q H locs cells slots ls hF hR hT hN hG hS h1 h2 hl
theorem sn_icmp_le {o : Int} : SI x D B0 l (.if_icmp .le o, n, a, b, j, ee) k pc L S w mc ms post := by
  intro hd hw h
  have hw : (decide (n = 3) && decide ((pc : Int) + o = (a : Int))) = true := hw
  simp only [Bool.and_eq_true, decide_eq_true_eq] at hw
  obtain ⟨rfl, ht⟩ := hw
  obtain ⟨u, v, S, rfl, h⟩ := qs2_e h
  intro p e R s m args below meth c Q H locs cells slots ls hF hR hT hN hG hS h1 h2 hl
  obtain ⟨hx, hb, hml, hown, hts, hlk, hnm, htb, hE, hfr, hlo, htr⟩ := id hF
  have h : (if u ≤ v then Snd x D B0 l k a L S w mc ms post else Snd x D B0 l k (pc + 3) L S w mc ms post) := h
  refine lv_icmp_le hx hb hd ht (fun hc => ?_) (fun hc => ?_)
  · rw [if_pos hc] at h
    exact h p e R s m args below meth c Q H locs cells slots ls hF hR hT hN hG hS h1 h2 hl
  · rw [if_neg hc] at h
    exact h p e R s m args below meth c Q H locs cells slots ls hF hR hT hN hG hS h1 h2 hl
theorem sn_acmp_eq {o : Int} : SI x D B0 l (.if_acmp .eq o, n, a, b, j, ee) k pc L S w mc ms post := by
  intro hd hw h
  have hw : (decide (n = 3) && decide ((pc : Int) + o = (a : Int))) = true := hw
  simp only [Bool.and_eq_true, decide_eq_true_eq] at hw
  obtain ⟨rfl, ht⟩ := hw
  obtain ⟨u, v, S, rfl, h⟩ := qsrr_e h
  intro p e R s m args below meth c Q H locs cells slots ls hF hR hT hN hG hS h1 h2 hl
  obtain ⟨hx, hb, hml, hown, hts, hlk, hnm, htb, hE, hfr, hlo, htr⟩ := id hF
  have h : (if u = v then Snd x D B0 l k a L S w mc ms post else Snd x D B0 l k (pc + 3) L S w mc ms post) := h
  refine lv_acmp_eq (rx := some u) (ry := some v) hx hb hd ht (fun hc => ?_) (fun hc => ?_)
  · rw [if_pos (Option.some.inj hc)] at h
    exact h p e R s m args below meth c Q H locs cells slots ls hF hR hT hN hG hS h1 h2 hl
  · rw [if_neg (fun q => hc (congrArg some q))] at h
    exact h p e R s m args below meth c Q H locs cells slots ls hF hR hT hN hG hS h1 h2 hl
theorem sn_acmp_ne {o : Int} : SI x D B0 l (.if_acmp .ne o, n, a, b, j, ee) k pc L S w mc ms post := by
  intro hd hw h
  have hw : (decide (n = 3) && decide ((pc : Int) + o = (a : Int))) = true := hw
  simp only [Bool.and_eq_true, decide_eq_true_eq] at hw
  obtain ⟨rfl, ht⟩ := hw
  obtain ⟨u, v, S, rfl, h⟩ := qsrr_e h
  intro p e R s m args below meth c Q H locs cells slots ls hF hR hT hN hG hS h1 h2 hl
  obtain ⟨hx, hb, hml, hown, hts, hlk, hnm, htb, hE, hfr, hlo, htr⟩ := id hF
  have h : (if u = v then Snd x D B0 l k (pc + 3) L S w mc ms post else Snd x D B0 l k a L S w mc ms post) := h
  refine lv_acmp_ne (rx := some u) (ry := some v) hx hb hd ht (fun hc => ?_) (fun hc => ?_)
  · rw [if_neg (fun q => hc (congrArg some q))] at h
    exact h p e R s m args below meth c Q H locs cells slots ls hF hR hT hN hG hS h1 h2 hl
  · rw [if_pos (Option.some.inj hc)] at h
    exact h p e R s m args below meth c Q H locs cells slots ls hF hR hT hN hG hS h1 h2 hl
theorem okF_e {a b j e idx : Nat} {put : Bool} (h : okF k a b j e idx put = true) : ∃ r : vw_C, vwCl[a]? = some r ∧ b < r.2.2 ∧ (put = true → (r.2.1 b).2.2.2 = false ∨ ((mY k).name = "<init>" ∧ (r.2.1 b).1 = (mY k).cls)) ∧
    ∃ ref : String, Cond.fieldLink (mY k).cls idx ref (r.2.1 b).2.1 (r.2.1 b).2.2.1 ∈ Tb ∧ ∀ {args : Array Value} {s : State}, (∀ w ∈ Tb, w.before args s = true) → ∀ x, s.fieldFound? (r.2.1 b).1 (r.2.1 b).2.1 (r.2.1 b).2.2.1 = some x → s.fieldFound? ref (r.2.1 b).2.1 (r.2.1 b).2.2.1 = some x := by
  unfold okF at h
  split at h
  · rename_i r hr
    simp only [Bool.and_eq_true, decide_eq_true_eq, Bool.or_eq_true, Bool.not_eq_true'] at h
    obtain ⟨⟨⟨h1, h2⟩, h3⟩, h4⟩ := h
    refine ⟨r, hr, h1, fun hp => ?_, _, tb_mem h2, ?_⟩
    · rcases h4 with (h4 | h4) | h4
      · rw [h4] at hp; cases hp
      · exact Or.inl h4
      · exact Or.inr h4
    · intro args s hts y hy
      by_cases he : e = 10
      · rcases h3 with h3 | h3
        · exact absurd he h3
        · obtain ⟨rfl, rfl⟩ := h3
          cases hr
          rw [if_pos he]
          refine u_same (hts (.sameField "java/util/ArrayList" "java/util/AbstractList" "modCount" "I") ?_) y hy
          exact List.mem_filter.mpr ⟨by decide +kernel, by decide +kernel⟩
      · rw [if_neg he]; exact hy
  · cases h
theorem sn_getfield {i : Nat} : SI x D B0 l (.getfield i, n, a, b, j, ee) k pc L S w mc ms post := by
  intro hd hw h
  have hw : (decide (n = 3) && okF k a b j ee i false) = true := hw
  simp only [Bool.and_eq_true, decide_eq_true_eq] at hw
  obtain ⟨rfl, hw⟩ := hw
  obtain ⟨r, hr, hbn, -, ref, hlk1, hsm⟩ := okF_e hw
  obtain ⟨o, S, rfl, h⟩ := qsr_e h
  obtain ⟨fs, hwo, h⟩ := qwO_e h
  obtain ⟨v, hv, h⟩ := qwV_e h
  intro p e R s m args below meth c Q H locs cells slots ls hF hR hT hN hG hS h1 h2 hl
  obtain ⟨hx, hb, hml, hown, hts, hlk, hnm, htb, hE, hfr, hlo, htr⟩ := id hF
  have hP : va_P D vwCl [(o, .inr (a, fs))] H := fun q z hz => by
    match q, hz with
    | 0, hz => cases hz; exact (hG _ _ hwo).1
    | q + 1, hz => simp at hz
  exact va_get (ci := a) (v := v) hx hb hts (cl_in hr) hown hE.1 hP 0 rfl hr b hbn (hts _ hlk1) (hsm hts) hv hd (h p e R s m args below meth c Q H locs cells slots ls hF hR hT hN hG hS h1 h2 hl)
theorem sn_putfield {i : Nat} : SI x D B0 l (.putfield i, n, a, b, j, ee) k pc L S w mc ms post := by
  intro hd hw h
  have hw : (decide (n = 3) && okF k a b j ee i true) = true := hw
  simp only [Bool.and_eq_true, decide_eq_true_eq] at hw
  obtain ⟨rfl, hw⟩ := hw
  obtain ⟨r, hr, hbn, hput, ref, hlk1, hsm⟩ := okF_e hw
  obtain ⟨v, o, S, rfl, h⟩ := qsvr_e h
  obtain ⟨fs, hwo, hlen, h⟩ := qwO_e h
  obtain ⟨hnar, hfit, h⟩ := qty_e h
  intro p e R s m args below meth c Q H locs cells slots ls hF hR hT hN hG hS h1 h2 hl
  obtain ⟨hx, hb, hml, hown, hts, hlk, hnm, htb, hE, hfr, hlo, htr⟩ := id hF
  obtain ⟨hty, hnmd, -⟩ := cl_ty hr
  obtain ⟨hat, hba⟩ := hG _ _ hwo
  have hap := va_apart (own := (mY k).cls) hts (cl_in hr) (fty a) hty hnmd hE.1 (ci := a) hr
  obtain ⟨r', g1, cell, q1, q2, q3, q4⟩ := hat
  cases Option.some.inj (g1.symm.trans hr)
  obtain ⟨hSl, hfc, kC, hkC, hkind⟩ := hE.1.1 a _ hr
  obtain ⟨cf, kf, fi, f, hi, hsl⟩ := hSl b hbn
  have hlay := hts _ (cl_in hr _ (u_in_lay hbn))
  have hst := (u_facts hfc hkC (u_lays hts (cl_in hr) hbn) hi).1
  have fin : ∀ H' : Heap, H'[o]? = some (cell.setSlot f.slot v) → H'.size = H.size → (∀ q, q ≠ o → H'[q]? = H[q]?) → W p l e R s m args below meth c H' (locs ++ [⟨o, f.slot⟩]) cells slots Q (F0 m (pc + 3) ls S) := by
    intro H' e1 e2 e3
    rw [hsl] at e1
    refine h p e R s m args below meth c Q H' _ cells slots ls hF hR hT hN (hG.set hba ?_ e3) (hS.put e2 e3 hba) h1 h2 hl
    exact ⟨_, hr, t_OB.to (V := updV (vp_V fs) b v) ⟨_, e1, q2, q3, t_set q4 hap hbn v⟩ (fun z _ => vp_updV_set hlen v z)⟩
  by_cases hfn : (r.2.1 b).2.2.2 = true
  · rcases hput rfl with hp | ⟨hp1, hp2⟩
    · rw [hfn] at hp; cases hp
    · unfold u_lay at hlay
      rw [if_pos hfn] at hlay
      have hcf : m.cls = cf := by
        obtain ⟨_, _, c', _, _, _, -, -, hf', -, -, -, hown2, -⟩ := Cond.laysFinal_spec hlay
        have e1 : c' = cf := by have := hi.symm.trans hf'; simp at this; exact this.1.symm
        rw [hp2] at hown2
        rw [← e1]; exact Option.some.inj (hown.symm.trans hown2)
      have h6 := u_fits hfc hkC hkind (Or.inr hlay) hi (hty b hbn) hnar hfit
      exact W.putFinK hx hb hown (hts _ hlk1) (hsm hts _ hi) hst hcf (hnm.trans hp1) (by rw [q2]; exact h6) q1 q3 (by rw [hsl]; exact k2_hasslot (q4 b hbn)) rfl rfl hd fin
  · unfold u_lay at hlay
    rw [if_neg hfn] at hlay
    have h6 := u_store hfc hkC hkind hlay hi (hty b hbn) hnar hfit
    exact W.putK hx hb (f := f) ⟨hown, hts _ hlk1, ⟨_, _, _, hsm hts _ hi⟩, hst⟩ (by rw [q2]; exact h6) q1 q3 (by rw [hsl]; exact k2_hasslot (q4 b hbn)) rfl rfl hd fin
theorem sn_iaload : SI x D B0 l (.iaload, n, a, b, j, ee) k pc L S w mc ms post := by
  intro hd hw h
  obtain rfl : n = 1 := of_decide_eq_true hw
  obtain ⟨i, o, S, rfl, h⟩ := qsir_e h
  intro p e R s m args below meth c Q H locs cells slots ls hF hR hT hN hG hS h1 h2 hl
  obtain ⟨hx, hb, hml, hown, hts, hlk, hnm, htb, hE, hfr, hlo, htr⟩ := id hF
  have h : qwL x (w o) o fun n f => vp_in i n ∧ Snd x D B0 l k (pc + 1) L (.int (f i.toNatClampNeg) :: S) w mc ms post := h
  rcases qwL_e h with ⟨rfl, hin, h⟩ | ⟨N, f, hwo, hin, h⟩
  · obtain ⟨-, -, -, -, -, -, -, -, -, hX, hbx, hbz⟩ := hE
    exact va_sld hx hb hX (Nat.lt_of_lt_of_le hbx hbz) (Nat.not_le.mpr hbx) hS hin hd (h p e R s m args below meth c Q H locs cells slots ls hF hR hT hN hG hS h1 h2 hl)
  · have hP : va_P D vwCl [(o, .inl (x.1.1, N, .inl f))] H := fun q z hz => by
      match q, hz with
      | 0, hz => cases hz; exact (hG _ _ hwo).1
      | q + 1, hz => simp at hz
    exact va_iald hx hb hE.1 hP 0 0 rfl rfl hin hd (h p e R s m args below meth c Q H locs cells slots ls hF hR hT hN hG hS h1 h2 hl)
theorem sn_baload : SI x D B0 l (.baload, n, a, b, j, ee) k pc L S w mc ms post := by
  intro hd hw h
  obtain rfl : n = 1 := of_decide_eq_true hw
  obtain ⟨i, o, S, rfl, h⟩ := qsir_e h
  obtain ⟨N, f, hwo, hin, h⟩ := qwI_e h
  intro p e R s m args below meth c Q H locs cells slots ls hF hR hT hN hG hS h1 h2 hl
  obtain ⟨hx, hb, hml, hown, hts, hlk, hnm, htb, hE, hfr, hlo, htr⟩ := id hF
  have hP : va_P D vwCl [(o, .inl (x.1.2.1, N, .inl f))] H := fun q z hz => by
    match q, hz with
    | 0, hz => cases hz; exact (hG _ _ hwo).1
    | q + 1, hz => simp at hz
  exact va_zald hx hb hE.1 hP 0 1 rfl rfl hin hd (h p e R s m args below meth c Q H locs cells slots ls hF hR hT hN hG hS h1 h2 hl)
theorem sn_laload : SI x D B0 l (.laload, n, a, b, j, ee) k pc L S w mc ms post := by
  intro hd hw h
  obtain rfl : n = 1 := of_decide_eq_true hw
  obtain ⟨i, o, S, rfl, h⟩ := qsir_e h
  obtain ⟨N, f, hwo, hin, h⟩ := qwJ_e h
  intro p e R s m args below meth c Q H locs cells slots ls hF hR hT hN hG hS h1 h2 hl
  obtain ⟨hx, hb, hml, hown, hts, hlk, hnm, htb, hE, hfr, hlo, htr⟩ := id hF
  have hP : va_P D vwCl [(o, .inl (x.1.2.2.1, N, .inr (.inl f)))] H := fun q z hz => by
    match q, hz with
    | 0, hz => cases hz; exact (hG _ _ hwo).1
    | q + 1, hz => simp at hz
  exact va_lald hx hb hE.1 hP 0 2 rfl rfl hin hd (h p e R s m args below meth c Q H locs cells slots ls hF hR hT hN hG hS h1 h2 hl)
theorem sn_aaload : SI x D B0 l (.aaload, n, a, b, j, ee) k pc L S w mc ms post := by
  intro hd hw h
  obtain rfl : n = 1 := of_decide_eq_true hw
  obtain ⟨i, o, S, rfl, h⟩ := qsir_e h
  obtain ⟨N, f, hwo, hin, h⟩ := qwQ_e h
  intro p e R s m args below meth c Q H locs cells slots ls hF hR hT hN hG hS h1 h2 hl
  obtain ⟨hx, hb, hml, hown, hts, hlk, hnm, htb, hE, hfr, hlo, htr⟩ := id hF
  have hP : va_P D vwCl [(o, .inl (x.1.2.2.2, N, .inr (.inr (.inr (.inr f)))))] H := fun q z hz => by
    match q, hz with
    | 0, hz => cases hz; exact (hG _ _ hwo).1
    | q + 1, hz => simp at hz
  exact va_aldq hx hb hE.1 hP 0 3 rfl rfl hin hd (h p e R s m args below meth c Q H locs cells slots ls hF hR hT hN hG hS h1 h2 hl)
theorem sn_iastore : SI x D B0 l (.iastore, n, a, b, j, ee) k pc L S w mc ms post := by
  intro hd hw h
  obtain rfl : n = 1 := of_decide_eq_true hw
  obtain ⟨v, i, o, S, rfl, h⟩ := qsiir_e h
  obtain ⟨N, f, hwo, hin, h⟩ := qwI_e h
  intro p e R s m args below meth c Q H locs cells slots ls hF hR hT hN hG hS h1 h2 hl
  obtain ⟨hx, hb, hml, hown, hts, hlk, hnm, htb, hE, hfr, hlo, htr⟩ := id hF
  obtain ⟨hat, hba⟩ := hG _ _ hwo
  refine W.iast hx hb hat ((hE.1.2 0 _ rfl).1 N (fun j => .int (f j))) (fun q => by cases q) (by show ¬ (i < 0 ∨ (arrV _ _ _).slots.size ≤ _); rw [arrV_size]; exact hin) rfl rfl hd fun H1 e1 z1 o1 => ?_
  refine h p e R s m args below meth c Q H1 _ cells slots ls hF hR hT hN (hG.set hba ?_ o1) (hS.put z1 o1 hba) h1 h2 hl
  show H1[o]? = some (vp_cell _ _)
  rw [e1]
  rw [vp_cell_i, vp_cell_i, arrV_store]
  congr 2
  funext q
  by_cases hq : q = i.toNatClampNeg
  · subst hq
    simp [updV, upd]
  · simp [updV, upd, hq]
theorem sn_bastore : SI x D B0 l (.bastore, n, a, b, j, ee) k pc L S w mc ms post := by
  intro hd hw h
  obtain rfl : n = 1 := of_decide_eq_true hw
  obtain ⟨v, i, o, S, rfl, hv01, h⟩ := qsiir_e h
  obtain ⟨N, f, hwo, hin, h⟩ := qwI_e h
  intro p e R s m args below meth c Q H locs cells slots ls hF hR hT hN hG hS h1 h2 hl
  obtain ⟨hx, hb, hml, hown, hts, hlk, hnm, htb, hE, hfr, hlo, htr⟩ := id hF
  obtain ⟨hat, hba⟩ := hG _ _ hwo
  refine W.zast hx hb hat ((hE.1.2 1 _ rfl).1 N (fun j => .int (f j))) (fun q => by cases q) (by show ¬ (i < 0 ∨ (arrV _ _ _).slots.size ≤ _); rw [arrV_size]; exact hin) rfl rfl hd fun H1 e1 z1 o1 => ?_
  refine h p e R s m args below meth c Q H1 _ cells slots ls hF hR hT hN (hG.set hba ?_ o1) (hS.put z1 o1 hba) h1 h2 hl
  show H1[o]? = some (vp_cell _ _)
  rw [e1]
  rw [vp_cell_i, vp_cell_i, arrV_store]
  congr 2
  funext q
  by_cases hq : q = i.toNatClampNeg
  · subst hq
    rcases hv01 with rfl | rfl <;> simp [updV, upd] <;> decide +kernel
  · simp [updV, upd, hq]
theorem sn_lastore : SI x D B0 l (.lastore, n, a, b, j, ee) k pc L S w mc ms post := by
  intro hd hw h
  obtain rfl : n = 1 := of_decide_eq_true hw
  obtain ⟨v, i, o, S, rfl, h⟩ := qslir_e h
  obtain ⟨N, f, hwo, hin, h⟩ := qwJ_e h
  intro p e R s m args below meth c Q H locs cells slots ls hF hR hT hN hG hS h1 h2 hl
  obtain ⟨hx, hb, hml, hown, hts, hlk, hnm, htb, hE, hfr, hlo, htr⟩ := id hF
  obtain ⟨hat, hba⟩ := hG _ _ hwo
  refine W.last hx hb hat ((hE.1.2 2 _ rfl).1 N (fun j => .long (f j))) (fun q => by cases q) (by show ¬ (i < 0 ∨ (arrV _ _ _).slots.size ≤ _); rw [arrV_size]; exact hin) rfl rfl hd fun H1 e1 z1 o1 => ?_
  refine h p e R s m args below meth c Q H1 _ cells slots ls hF hR hT hN (hG.set hba ?_ o1) (hS.put z1 o1 hba) h1 h2 hl
  show H1[o]? = some (vp_cell _ _)
  rw [e1]
  rw [vp_cell_l, vp_cell_l, arrV_store]
  congr 2
  funext q
  by_cases hq : q = i.toNatClampNeg
  · subst hq
    simp [updV, vp_updL]
  · simp [updV, vp_updL, hq]
theorem sn_aastore : SI x D B0 l (.aastore, n, a, b, j, ee) k pc L S w mc ms post := by
  intro hd hw h
  obtain rfl : n = 1 := of_decide_eq_true hw
  obtain ⟨v, i, o, S, rfl, hv3, h⟩ := qsrir_e h
  obtain ⟨N, f, hwo, hin, h⟩ := qwQ_e h
  intro p e R s m args below meth c Q H locs cells slots ls hF hR hT hN hG hS h1 h2 hl
  obtain ⟨hx, hb, hml, hown, hts, hlk, hnm, htb, hE, hfr, hlo, htr⟩ := id hF
  obtain ⟨hat, hba⟩ := hG _ _ hwo
  have hlt : i.toNatClampNeg < N := Nat.not_le.mp fun q => hin (Or.inr q)
  have h0 : ¬ i < 0 := fun q => hin (Or.inl q)
  obtain ⟨ci, r, hci, hcast, vs, hwv⟩ : ∃ (ci : Nat) (r : vw_C), vwCl[ci]? = some r ∧ va_Nw (.castable r.1 "java/lang/Object") s ∧ ∃ vs, w v = some (.inr (ci, vs)) := by
    rcases hv3 with q | q | q
    · exact ⟨4, _, rfl, hE.2.1 _ (Or.inl (by decide +kernel)), qwK_e q⟩
    · exact ⟨1, _, rfl, hE.2.1 _ (Or.inl (by decide +kernel)), qwK_e q⟩
    · exact ⟨6, _, rfl, hE.2.1 _ (Or.inl (by decide +kernel)), qwK_e q⟩
  obtain ⟨r', hr', cellV, g1, g2, g3, -⟩ := (hG _ _ hwv).1
  cases Option.some.inj (hr'.symm.trans hci)
  have hcls := (hE.1.1 ci r hci).2
  obtain ⟨kA, comp, k1, k2, k3, -⟩ := (hE.1.2 3 _ rfl).2
  obtain ⟨kC, hkC, -⟩ := hcls.2
  obtain ⟨c0, t0, f1, f2, f3⟩ := Cond.castable_spec (va_Nw.use (A := args) rfl hcast)
  have e0 : c0 = D.1 ci := Option.some.inj (f1.symm.trans hcls.1)
  have e1 : t0 = comp := Option.some.inj (f2.symm.trans k3)
  subst e0; subst e1
  obtain ⟨kO, hkO, -⟩ := Vm.findClass_spec f2
  refine W.aast hx hb hat (fun q h => by cases h) (fun h => by cases h) k1 k2 rfl hkO ⟨h0, by show _ < (arrV _ _ _).slots.size; rw [arrV_size]; exact hlt⟩ g1 (fun q h => by rw [g3] at h; cases h) (by rw [g2]; exact hkC) (by rw [g2]; exact f3) rfl rfl hd fun H1 e1 z1 o1 => ?_
  refine h p e R s m args below meth c Q H1 _ cells slots ls hF hR hT hN (hG.set hba ?_ o1) (hS.put z1 o1 hba) h1 h2 hl
  show H1[o]? = some (vp_cell _ _)
  rw [e1]
  rw [vp_cell_q, vp_cell_q, arrV_store]
  congr 2
  funext q
  by_cases hq : q = i.toNatClampNeg
  · subst hq
    simp [updV, va_up, va_rf]
  · simp [updV, va_up, hq]
theorem sn_arraylength : SI x D B0 l (.arraylength, n, a, b, j, ee) k pc L S w mc ms post := by
  intro hd hw h
  obtain rfl : n = 1 := of_decide_eq_true hw
  obtain ⟨o, S, rfl, h⟩ := qsr_e h
  intro p e R s m args below meth c Q H locs cells slots ls hF hR hT hN hG hS h1 h2 hl
  obtain ⟨hx, hb, hml, hown, hts, hlk, hnm, htb, hE, hfr, hlo, htr⟩ := id hF
  obtain ⟨-, -, -, -, -, -, -, -, hTe, hX, hbx, hbz⟩ := id hE
  have h : qwA x (w o) o fun n => Snd x D B0 l k (pc + 1) L (.int (nI n) :: S) w mc ms post := h
  have h9 := qwA_e h
  clear h
  rcases h9 with ⟨rfl, hq⟩ | ⟨rfl, hq⟩ | ⟨N, f, t0, ty, ht0, hwo, hq⟩
  · obtain ⟨cell, g1, g2, g3, g4, g5, g6, g7⟩ := hTe
    have hlt := (Array.getElem?_eq_some_iff.mp g1).1
    exact W.alen hx hb (by rw [hS.2.1 _ hlt g7]; exact g1) g2 g5 rfl rfl hd (hq p e R s m args below meth c Q H locs cells slots ls hF hR hT hN hG hS h1 h2 hl)
  · exact va_slen hx hb hX (Nat.lt_of_lt_of_le hbx hbz) (Nat.not_le.mpr hbx) hS hd (hq p e R s m args below meth c Q H locs cells slots ls hF hR hT hN hG hS h1 h2 hl)
  · have hP : va_P D vwCl [(o, .inl (ty.1, N, f))] H := fun q z hz => by
      match q, hz with
      | 0, hz => cases hz; exact (hG _ _ hwo).1
      | q + 1, hz => simp at hz
    exact va_alen hx hb hE.1 hP 0 t0 rfl ht0 rfl hd (hq p e R s m args below meth c Q H locs cells slots ls hF hR hT hN hG hS h1 h2 hl)
end ROWS
end
section
/-! Makings, returns, calls; the machine's word is the walk's. -/
section ROWS2
variable {x : Cx} {D : va_G} {B0 : Nat} {l : Launch} {k pc : Nat} {L : Lc} {S : List Value} {w : Wd} {mc ms : Nat} {post : Po} {n a b j ee : Nat}
theorem frs_of {s : State} {H : Heap} {locs : List Loc} (hE : WEnv x D B0 s) (hG : GW D B0 w H) (hS : va_S (AA B0) s.heap H locs) : frs x w H.size ∧ B0 ≤ H.size := by
  obtain ⟨-, -, -, -, -, -, -, -, ⟨cell, -, -, -, -, -, -, g7⟩, -, hbx, hbz⟩ := hE
  have hz := Nat.le_trans hbz hS.1
  have g8 : ¬ B0 ≤ xE x := g7
  exact ⟨⟨hG.new, by omega, by omega⟩, hz⟩
theorem va_S.grow {A : Nat → Prop} {H0 H H1 : Heap} {locs : List Loc} (h : va_S A H0 H locs) (z : H1.size = H.size + 1) (o1 : ∀ q : Nat, q < H.size → H1[q]? = H[q]?) : va_S A H0 H1 locs :=
  ⟨Nat.le_trans h.1 (by omega), fun q h1 h2 => (o1 q (Nat.lt_of_lt_of_le h1 h.1)).trans (h.2.1 q h1 h2), h.2.2⟩
theorem sn_new {i : Nat} : SI x D B0 l (.new i, n, a, b, j, ee) k pc L S w mc ms post := by
  intro hd hw0 h0
  have hw : (decide (n = 3) && (if ee = 1 then okX k pc a b j i else okN k a b j i)) = true := hw0
  simp only [Bool.and_eq_true, decide_eq_true_eq] at hw
  obtain ⟨rfl, hw⟩ := hw
  have h : (if ee = 1 then (1 ≤ mc ∧ 6 ≤ ms ∧ S.length ≤ 4 ∧ post (.inr a) w) else 1 ≤ mc ∧ b ≤ ms ∧ ∀ o : Nat, frs x w o → Snd x D B0 l k (pc + 3) L (.ref o :: S) (va_up w o (some (eO a (dfl a)))) (mc - 1) (ms - b) post) := h0
  intro p e R s m args below meth c Q H locs cells slots ls hF hR hT hN hG hS h1 h2 hl
  obtain ⟨hx, hb, hml, hown, hts, hlk, hnm, htb, hE, hfr, hlo, htr⟩ := id hF
  by_cases hee : ee = 1
  · rw [if_pos hee] at h hw
    obtain ⟨g1, g2, g3, g4⟩ := h
    exact hN w H locs cells slots ls pc i a b j S hd hw g4 hG hS (by omega) (by omega) g3 hl.2.1
  · rw [if_neg hee] at h hw
    obtain ⟨g1, g2, h⟩ := h
    unfold okN at hw
    split at hw
    · rename_i r hr
      simp only [Bool.and_eq_true, decide_eq_true_eq] at hw
      obtain ⟨hbn, hcl⟩ := hw
      subst hbn
      obtain ⟨hf, hz⟩ := frs_of hE hG hS
      have hKn := hE.1.1 a r hr
      refine W.newcK hx hb hown (hts _ (tb_mem hcl)) (hts _ (cl_new hr).1) (hts _ (cl_new hr).2) rfl hd (by omega) (by omega) hKn.2.1 rfl fun H1 kC hkC e1 z1 o1 => ?_
      refine h H.size hf p e R s m args below meth c Q H1 locs (cells + 1) (slots + r.2.2) ls hF hR hT hN (hG.add hz ?_ o1) (hS.grow z1 o1) (by omega) (by omega) hl
      refine ⟨_, hr, (u_born (fty a) hts (cl_in hr) hKn hkC e1 (cl_ty hr).1).to fun q hq => ?_⟩
      have hN9 := (cl_ty hr).2.2
      simp only [vp_V, dfl]
      rw [List.getD_eq_getElem?_getD, List.getElem?_map, List.getElem?_range (by omega)]
      rfl
    · cases hw
theorem sn_newarray {t : ArrayType} : SI x D B0 l (.newarray t, n, a, b, j, ee) k pc L S w mc ms post := by
  intro hd hw h
  obtain rfl : n = 2 := of_decide_eq_true hw
  obtain ⟨v, S, rfl, hv0, hv1, hm1, hm2, h⟩ := qs1_e h
  intro p e R s m args below meth c Q H locs cells slots ls hF hR hT hN hG hS h1 h2 hl
  obtain ⟨hx, hb, hml, hown, hts, hlk, hnm, htb, hE, hfr, hlo, htr⟩ := id hF
  obtain ⟨hf, hz⟩ := frs_of hE hG hS
  have h := h H.size hf
  cases t <;> first | exact h.elim | skip
  · refine va_newaK (atype := .boolean) hx hb (hts _ (arW _ (Or.inr (Or.inl rfl)))) rfl hd rfl hv0 rfl (by show _ * 1 ≤ _; omega) (by omega) (by omega) rfl fun H1 cA e1 z1 o1 _ hNm => ?_
    obtain rfl : cA = x.1.2.1 := Option.some.inj (hNm.symm.trans (hE.1.2 1 _ rfl).2)
    exact h p e R s m args below meth c Q H1 locs (cells + 1) (slots + v.toNatClampNeg) ls hF hR hT hN (hG.add hz (by show H1[H.size]? = some (vp_cell _ _); rw [e1]; rfl) o1) (hS.grow z1 o1) (by omega) (by omega) hl
  · refine va_newaK (atype := .int) hx hb (hts _ (arW _ (Or.inl rfl))) rfl hd rfl hv0 rfl (by show _ * 4 ≤ _; omega) (by omega) (by omega) rfl fun H1 cA e1 z1 o1 _ hNm => ?_
    obtain rfl : cA = x.1.1 := Option.some.inj (hNm.symm.trans (hE.1.2 0 _ rfl).2)
    exact h p e R s m args below meth c Q H1 locs (cells + 1) (slots + v.toNatClampNeg) ls hF hR hT hN (hG.add hz (by show H1[H.size]? = some (vp_cell _ _); rw [e1]; rfl) o1) (hS.grow z1 o1) (by omega) (by omega) hl
  · refine va_newaK (atype := .long) hx hb (hts _ (arW _ (Or.inr (Or.inr rfl)))) rfl hd rfl hv0 rfl (by show _ * 8 ≤ _; omega) (by omega) (by omega) rfl fun H1 cA e1 z1 o1 _ hNm => ?_
    obtain rfl : cA = x.1.2.2.1 := Option.some.inj (hNm.symm.trans (hE.1.2 2 _ rfl).2)
    exact h p e R s m args below meth c Q H1 locs (cells + 1) (slots + v.toNatClampNeg) ls hF hR hT hN (hG.add hz (by show H1[H.size]? = some (vp_cell _ _); rw [e1]; rfl) o1) (hS.grow z1 o1) (by omega) (by omega) hl
theorem sn_anewarray {i : Nat} : SI x D B0 l (.anewarray i, n, a, b, j, ee) k pc L S w mc ms post := by
  intro hd hw0 h0
  have hw : (decide (n = 3) && tb j (.classLink (mY k).cls i "java/lang/Object")) = true := hw0
  simp only [Bool.and_eq_true, decide_eq_true_eq] at hw
  obtain ⟨rfl, hw⟩ := hw
  obtain ⟨v, S, rfl, hv0, hv1, hm1, hm2, h⟩ := qs1_e h0
  intro p e R s m args below meth c Q H locs cells slots ls hF hR hT hN hG hS h1 h2 hl
  obtain ⟨hx, hb, hml, hown, hts, hlk, hnm, htb, hE, hfr, hlo, htr⟩ := id hF
  obtain ⟨hf, hz⟩ := frs_of hE hG hS
  have h := h H.size hf
  refine W.anew hx hb hown (hts _ (tb_mem hw)) (va_AO.use hE.2.2.2.1) rfl hd rfl hv0 (by omega) (by omega) (by omega) fun cA kA comp f1 f2 f3 f4 => ?_
  generalize hH1 : H.push ({ cls := cA, slots := Array.replicate v.toNatClampNeg .null, vm := .none } : Cell) = H1
  have z1 : H1.size = H.size + 1 := by rw [← hH1, Array.size_push]
  have e1 : H1[H.size]? = some (arrV cA v.toNatClampNeg (fun _ => .null)) := by rw [← hH1, Array.getElem?_push_size, ← arrV_new]
  have o1 : ∀ q : Nat, q < H.size → H1[q]? = H[q]? := fun q hq => by rw [← hH1, Array.getElem?_push, if_neg (Nat.ne_of_lt hq)]
  obtain ⟨-, -, -, -, -, q5⟩ := (hE.1.2 3 _ rfl).2
  obtain rfl : cA = x.1.2.2.2 := Option.some.inj (f1.symm.trans q5)
  exact h p e R s m args below meth c Q H1 locs (cells + 1) (slots + v.toNatClampNeg) ls hF hR hT hN (hG.add hz (by show H1[H.size]? = some (vp_cell _ _); rw [e1]; rfl) o1) (hS.grow z1 o1) (by omega) (by omega) hl
theorem sn_return : SI x D B0 l (.return_, n, a, b, j, ee) k pc L S w mc ms post := by
  intro hd hw h
  obtain rfl : n = 1 := of_decide_eq_true hw
  obtain ⟨rfl, hmr, hp⟩ := qsn_e h
  intro p e R s m args below meth c Q H locs cells slots ls hF hR hT hN hG hS h1 h2 hl
  exact hR w H locs cells slots ls pc none (Or.inl ⟨hd, rfl, hmr⟩) hp hG hS (by omega) (by omega)
theorem sn_ireturn : SI x D B0 l (.ireturn, n, a, b, j, ee) k pc L S w mc ms post := by
  intro hd hw h
  obtain rfl : n = 1 := of_decide_eq_true hw
  obtain ⟨v, S, rfl, h⟩ := qs1_e h
  obtain ⟨rfl, h⟩ := qsn_e h
  obtain ⟨hmr, hp⟩ := qrt_e h
  intro p e R s m args below meth c Q H locs cells slots ls hF hR hT hN hG hS h1 h2 hl
  exact hR w H locs cells slots ls pc (some (.int v)) (Or.inr (Or.inl ⟨v, hd, rfl, hmr⟩)) hp hG hS (by omega) (by omega)
theorem sn_areturn : SI x D B0 l (.areturn, n, a, b, j, ee) k pc L S w mc ms post := by
  intro hd hw0 h0
  have hw : (decide (n = 1) && (match mR k with | some (.object _) => true | some (.array _) => true | _ => false)) = true := hw0
  simp only [Bool.and_eq_true, decide_eq_true_eq] at hw
  obtain ⟨rfl, hw⟩ := hw
  have h : qsv S fun v S => qsn S (v.isRef = true ∧ post (.inl (some v)) w) := h0
  obtain ⟨v, S, rfl, -, hv3, h⟩ := qsv_e h
  obtain ⟨rfl, hir, hp⟩ := qsn_e h
  intro p e R s m args below meth c Q H locs cells slots ls hF hR hT hN hG hS h1 h2 hl
  refine hR w H locs cells slots ls pc (some v) (Or.inr (Or.inr ⟨v, hd, rfl, ?_, ?_⟩)) hp hG hS (by omega) (by omega)
  · rcases hv3 with ⟨z, rfl⟩ | hv3 | hv3
    · cases hir
    · exact Or.inl hv3
    · exact Or.inr hv3
  · split at hw
    · exact ⟨_, by assumption, Or.inl ⟨_, rfl⟩⟩
    · exact ⟨_, by assumption, Or.inr ⟨_, rfl⟩⟩
    · cases hw
theorem sn_checkcast {i : Nat} : SI x D B0 l (.checkcast i, n, a, b, j, ee) k pc L S w mc ms post := by
  intro hd hw0 h0
  have hw : (decide (n = 3) && okCast k a j i) = true := hw0
  simp only [Bool.and_eq_true, decide_eq_true_eq] at hw
  obtain ⟨rfl, hw⟩ := hw
  obtain ⟨o, S, rfl, hk, h⟩ := qsr_e h0
  obtain ⟨fs, hwo⟩ := qwK_e hk
  intro p e R s m args below meth c Q H locs cells slots ls hF hR hT hN hG hS h1 h2 hl
  obtain ⟨hx, hb, hml, hown, hts, hlk, hnm, htb, hE, hfr, hlo, htr⟩ := id hF
  unfold okCast at hw
  split at hw
  · rename_i r hr
    obtain ⟨r', g1, cell, q1, q2, q3, q4⟩ := (hG _ _ hwo).1
    cases Option.some.inj (g1.symm.trans hr)
    exact va_castS hx hb hown (hts _ (tb_mem hw)) (hE.1.1 a r hr).2 ⟨cell, q1, by rw [q3]; rfl, by rw [q2]; exact (hE.1.1 a r hr).2.1⟩ hd (h p e R s m args below meth c Q H locs cells slots ls hF hR hT hN hG hS h1 h2 hl)
  · cases hw
theorem sn_getstatic {i : Nat} : SI x D B0 l (.getstatic i, n, a, b, j, ee) k pc L S w mc ms post := by
  intro hd hw0 h0
  have hw : (decide (n = 3) && tb j (.fieldLink (mY k).cls i "java/util/ArrayList" "DEFAULTCAPACITY_EMPTY_ELEMENTDATA" "[Ljava/lang/Object;")) = true := hw0
  simp only [Bool.and_eq_true, decide_eq_true_eq] at hw
  obtain ⟨rfl, hw⟩ := hw
  intro p e R s m args below meth c Q H locs cells slots ls hF hR hT hN hG hS h1 h2 hl
  obtain ⟨hx, hb, hml, hown, hts, hlk, hnm, htb, hE, hfr, hlo, htr⟩ := id hF
  obtain ⟨-, -, -, -, -, -, -, hZ, -⟩ := hE
  exact va_gets hx hb hZ hS hown (hts _ (tb_mem hw)) (fun _ h9 => h9) hd (h0 p e R s m args below meth c Q H locs cells slots ls hF hR hT hN hG hS h1 h2 hl)
theorem sn_tableswitch {d lo hi : Int} {offs : Array Int} : SI x D B0 l (.tableswitch d lo hi offs, n, a, b, j, ee) k pc L S w mc ms post := by
  intro hd hw0 h0
  have hw : (decide (0 ≤ (pc : Int) + d) && offs.toList.all (fun o => decide (0 ≤ (pc : Int) + o))) = true := hw0
  simp only [Bool.and_eq_true, decide_eq_true_eq] at hw
  obtain ⟨hw1, hw2⟩ := hw
  obtain ⟨v, S, rfl, h⟩ := qs1_e h0
  intro p e R s m args below meth c Q H locs cells slots ls hF hR hT hN hG hS h1 h2 hl
  obtain ⟨hx, hb, hml, hown, hts, hlk, hnm, htb, hE, hfr, hlo, htr⟩ := id hF
  by_cases hv : v.toInt < lo ∨ hi < v.toInt
  · rw [if_pos hv] at h
    exact lv_tableOut (tgt := ((pc : Int) + d).toNat) hx hb hd hv (by omega) (h p e R s m args below meth c Q H locs cells slots ls hF hR hT hN hG hS h1 h2 hl)
  · rw [if_neg hv] at h
    split at h
    · rename_i off hoff
      have h0 := List.all_eq_true.mp hw2 off (by
        have := Array.mem_of_getElem? hoff
        exact Array.mem_toList_iff.mpr this)
      simp only [decide_eq_true_eq] at h0
      exact lv_tableIn (tgt := ((pc : Int) + off).toNat) hx hb hd (fun q => hv (Or.inl q)) (fun q => hv (Or.inr q)) hoff (by omega) (h p e R s m args below meth c Q H locs cells slots ls hF hR hT hN hG hS h1 h2 hl)
    · exact h.elim
end ROWS2
/-! handlers and throws -/
def okHn (k : Nat) : Bool := (mH k).all fun q => decide (Cond.classLink (mY k).cls q.2.2.2 (exN (hxk q.2.2.2)) ∈ lw_tbl) && goodWord (.classLink (mY k).cls q.2.2.2 (exN (hxk q.2.2.2))) && decide (q.2.2.2 ≠ 0)
theorem okHn_r : ((List.range 168).all okHn) = true := by decide +kernel
theorem okHn_all (k : Nat) : okHn k = true := by
  by_cases h : k < 168
  · exact List.all_eq_true.mp okHn_r k (List.mem_range.mpr h)
  · have e : mH k = [] := by
      unfold mH
      rw [List.getD_eq_getElem?_getD, List.getElem?_eq_none (by have : mHL.length = 168 := by decide +kernel
                                                                omega)]
      rfl
    unfold okHn
    rw [e]
    rfl
theorem hxk_123 (c : Nat) : hxk c = 1 ∨ hxk c = 2 ∨ hxk c = 3 := by
  unfold hxk
  by_cases h1 : c = 25
  · rw [if_pos h1]; exact Or.inl rfl
  · rw [if_neg h1]
    by_cases h2 : c = 13
    · rw [if_pos h2]; exact Or.inr (Or.inl rfl)
    · rw [if_neg h2]; exact Or.inr (Or.inr rfl)
theorem hnd_split (pc ex h : Nat) : ∀ hh : List (Nat × Nat × Nat × Nat), (hh.filterMap (fun q => if q.1 ≤ pc ∧ pc < q.2.1 then some (hxk q.2.2.2, q.2.2.1) else none)).lookup ex = some h →
    ∃ pre q suf, hh = pre ++ q :: suf ∧ (q.1 ≤ pc ∧ pc < q.2.1) ∧ hxk q.2.2.2 = ex ∧ q.2.2.1 = h ∧ ∀ z ∈ pre, ¬ (z.1 ≤ pc ∧ pc < z.2.1) ∨ hxk z.2.2.2 ≠ ex
  | [], hl => by cases hl
  | q :: hh, hl => by
    by_cases hc : q.1 ≤ pc ∧ pc < q.2.1
    · rw [List.filterMap_cons] at hl
      simp only [if_pos hc, List.lookup_cons] at hl
      by_cases hx : ex = hxk q.2.2.2
      · subst hx
        simp at hl
        exact ⟨[], q, hh, rfl, hc, rfl, hl, fun z hz => by cases hz⟩
      · rw [show (ex == hxk q.2.2.2) = false from beq_false_of_ne hx] at hl
        obtain ⟨pre, q', suf, e1, e2, e3, e4, e5⟩ := hnd_split pc ex h hh hl
        exact ⟨q :: pre, q', suf, by rw [e1]; rfl, e2, e3, e4, fun z hz => by
          rcases List.mem_cons.mp hz with rfl | hz
          · exact Or.inr (fun e => hx e.symm)
          · exact e5 z hz⟩
    · rw [List.filterMap_cons] at hl
      simp only [if_neg hc] at hl
      obtain ⟨pre, q', suf, e1, e2, e3, e4, e5⟩ := hnd_split pc ex h hh hl
      exact ⟨q :: pre, q', suf, by rw [e1]; rfl, e2, e3, e4, fun z hz => by
        rcases List.mem_cons.mp hz with rfl | hz
        · exact Or.inl hc
        · exact e5 z hz⟩
section CALLS
variable {x : Cx} {D : va_G} {B0 : Nat} {l : Launch} {k pc : Nat} {L : Lc} {S : List Value} {w : Wd} {mc ms : Nat} {post : Po} {n a b j ee : Nat}
variable {p : Program} {e : Env} {R : Room} {s : State} {m : MethodId} {args : Array Value} {below : List Frame} {meth : Method} {c : Code} {Q : State → Prop} {H : Heap} {locs : List Loc} {cells slots : Nat} {ls : Array Slot}
/-- thrown out of a call: caught here -/
theorem caught (hF : Fr x D B0 l k p R s m args meth c) {ex h : Nat} (hh : (hnd k pc).lookup ex = some h) {q : Addr} {ce : Cell} (hcell : H[q]? = some ce) (hv : ce.vm = .none) (hcl : s.vm.findClass (exN ex) = some ce.cls) {rest : List Value}
    (kk : W p l e R s m args below meth c H locs cells slots Q (F0 m h ls [.ref q])) : vx_W p l e R s m args below meth c H locs cells slots Q (F0 m pc ls rest) q := by
  obtain ⟨hx, hb, hml, hown, hts, hlk, hnm, htb, hE, hfr, hlo, htr⟩ := id hF
  obtain ⟨pre, z, suf, e1, e2, e3, e4, e5⟩ := hnd_split pc ex h (mH k) hh
  have hne : mH k ≠ [] := by rw [e1]; simp
  have ht := htb hne
  have hok : ∀ y ∈ mH k, Cond.classLink (mY k).cls y.2.2.2 (exN (hxk y.2.2.2)) ∈ Tb ∧ y.2.2.2 ≠ 0 := by
    intro y hy
    have h1 := List.all_eq_true.mp (okHn_all k) y hy
    simp only [Bool.and_eq_true, decide_eq_true_eq] at h1
    exact ⟨List.mem_filter.mpr ⟨h1.1.1, h1.1.2⟩, h1.2⟩
  have hz := hok z (by rw [e1]; simp)
  have hsplit : c.exceptionTable.toList = tableOf pre ++ (⟨z.1, z.2.1, z.2.2.1, z.2.2.2⟩ : ExceptionTableEntry) :: tableOf suf := by rw [ht, e1]; simp [tableOf]
  refine vx_catch (name := exN ex) (E := exN ex) hown (tableOf pre) ⟨z.1, z.2.1, z.2.2.1, z.2.2.2⟩ (tableOf suf) hsplit ?_ (by simp [covers, e2]) hz.2 (by have := hts _ hz.1; rw [e3] at this; exact this) ?_ hcell hv hcl (by show W p l e R s m args below meth c H locs cells slots Q (F0 m z.2.2.1 ls [.ref q]); rw [e4]; exact kk)
  · intro y hy
    obtain ⟨y0, hy0, rfl⟩ := List.mem_map.mp hy
    rcases e5 y0 hy0 with h9 | h9
    · refine Or.inl ?_
      by_cases hc1 : y0.1 ≤ pc
      · have hc2 : ¬ pc < y0.2.1 := fun q => h9 ⟨hc1, q⟩
        simp [covers, hc2]
      · simp [covers, hc1]
    · have hy1 := hok y0 (by rw [e1]; simp [hy0])
      refine Or.inr ⟨hy1.2, exN (hxk y0.2.2.2), hts _ hy1.1, hE.2.2.2.2.1 (exN ex, exN (hxk y0.2.2.2)) ?_⟩
      rw [← e3] at h9 ⊢
      rcases hxk_123 z.2.2.2 with q1 | q1 | q1 <;> rcases hxk_123 y0.2.2.2 with q2 | q2 | q2 <;> rw [q1, q2] at h9 ⊢ <;> first | exact absurd rfl h9 | simp [ncW]
  · have h9 : va_Nw (.castable (exN ex) (exN ex)) s := by
      refine hE.2.1 _ (Or.inl ?_)
      rw [← e3]
      rcases hxk_123 z.2.2.2 with q1 | q1 | q1 <;> rw [q1] <;> decide +kernel
    exact va_Nw.use rfl h9
def QcO (D : va_G) (B0 : Nat) (R : Po) : Array Value → State → Outcome → State → Prop := fun _ st o t => ∃ v w', o = .returned v ∧ R (.inl v) w' ∧ GW D B0 w' t.heap ∧ va_F (AA B0) st t
def XcO (D : va_G) (B0 : Nat) (R : Po) : String → State → State → Prop := fun E st t => ∃ ex w', E = exN ex ∧ R (.inr ex) w' ∧ GW D B0 w' t.heap ∧ va_F (AA B0) st t
/-- behind a call that may throw -/
theorem run_on {rest st0 : List Value} {As : Array Value} {Rr : Po} {pc' mc' ms' uc us : Nat} (hr : vx_Run p l e R s m args below meth c H locs cells slots uc us (F0 m pc ls st0) rest (QcO D B0 Rr As) (XcO D B0 Rr) (AA B0)) (hpc : pc' = pc + 3)
    (hK : ∀ r w', Rr r w' → aftF (Snd x D B0 l) k pc pc' L rest mc' ms' post r w') (hF : Fr x D B0 l k p R s m args meth c) (hR : EndR D B0 k p l e R s m args below meth c Q post) (hT : EndT D B0 k p l e R s m args below meth c Q post) (hN : EndN D B0 k p l e R s m args below meth c Q post)
    (hS : va_S (AA B0) s.heap H locs) (h1 : cells + uc + mc' ≤ R.cells) (h2 : slots + us + ms' ≤ R.slots) (hl : lvR ls (mL k) L) : W p l e R s m args below meth c H locs cells slots Q (F0 m pc ls st0) := by
  subst hpc
  intro T hT0 X
  rcases hr T hT0 X with ⟨v, st₀, t, T', Lc, h0, X', hL, e1, e2, ⟨v', w', hv, hp, hg, hFr⟩, st⟩ | ⟨q, st₀, t, T', Lc, E, ce, h0, X', hL, e1, e2, ⟨ex, w', hE, hp, hg, hFr⟩, hce, hcv, hcl, st⟩
  · cases hv
    obtain ⟨k1, k2, k3⟩ := vx_keep h0 e1 hS (fun _ _ h => h) (fun _ h => h) hL hFr
    have hk : Snd x D B0 l k (pc + 3) L (v.toList ++ rest) w' mc' ms' post := hK _ _ hp
    obtain ⟨t2, a1, b1⟩ := hk p e R s m args below meth c Q T'.heap (locs ++ Lc) (cells + uc) (slots + us) ls hF hR hT hN (by rw [e1]; exact hg) k3 (by omega) (by omega) hl T' rfl X'
    exact ⟨t2, st t2 a1, b1⟩
  · subst hE
    obtain ⟨k1, k2, k3⟩ := vx_keep h0 e1 hS (fun _ _ h => h) (fun _ h => h) hL hFr
    have hg' : GW D B0 w' T'.heap := by rw [e1]; exact hg
    have hk := hK _ _ hp
    simp only [aftF] at hk
    have key : vx_W p l e R s m args below meth c T'.heap (locs ++ Lc) (cells + uc) (slots + us) Q (F0 m pc ls rest) q := by
      split at hk
      · rename_i h hh
        exact caught hF hh (by rw [e1]; exact hce) hcv hcl (hk q p e R s m args below meth c Q T'.heap (locs ++ Lc) (cells + uc) (slots + us) ls hF hR hT hN hg' k3 (by omega) (by omega) hl)
      · rename_i hh
        exact hT w' T'.heap (locs ++ Lc) (cells + uc) (slots + us) ls pc rest ex q ce hh hk hg' k3 (by omega) (by omega) (by rw [e1]; exact hce) hcv hcl
    obtain ⟨t2, a1, b1⟩ := key T' rfl X'
    exact ⟨t2, st.trans a1, b1⟩
/-- behind a call that can't throw -/
theorem run_onN {rest st0 : List Value} {As : Array Value} {Rr : Po} {pc' mc' ms' uc us : Nat} (hr : va_Run p l e R s m args below meth c H locs cells slots uc us (F0 m pc ls st0) rest (QcO D B0 Rr As) (AA B0)) (hpc : pc' = pc + 3)
    (hK : ∀ r w', Rr r w' → aftN (Snd x D B0 l) k pc' L rest mc' ms' post r w') (hF : Fr x D B0 l k p R s m args meth c) (hR : EndR D B0 k p l e R s m args below meth c Q post) (hT : EndT D B0 k p l e R s m args below meth c Q post) (hN : EndN D B0 k p l e R s m args below meth c Q post)
    (hS : va_S (AA B0) s.heap H locs) (h1 : cells + uc + mc' ≤ R.cells) (h2 : slots + us + ms' ≤ R.slots) (hl : lvR ls (mL k) L) : W p l e R s m args below meth c H locs cells slots Q (F0 m pc ls st0) := by
  subst hpc
  intro T hT0 X
  obtain ⟨v, st₀, t, T', Lc, h0, X', hL, e1, e2, ⟨v', w', hv, hp, hg, hFr⟩, st⟩ := hr T hT0 X
  cases hv
  obtain ⟨k1, k2, k3⟩ := vx_keep h0 e1 hS (fun _ _ h => h) (fun _ h => h) hL hFr
  have hk : Snd x D B0 l k (pc + 3) L (v.toList ++ rest) w' mc' ms' post := hK _ _ hp
  obtain ⟨t2, a1, b1⟩ := hk p e R s m args below meth c Q T'.heap (locs ++ Lc) (cells + uc) (slots + us) ls hF hR hT hN (by rw [e1]; exact hg) k3 (by omega) (by omega) hl T' rfl X'
  exact ⟨t2, st t2 a1, b1⟩
end CALLS
end
section
/-! Contracts out of the machine's words; the machine's word is the walk's. -/
def rmO (k : Nat) : Room := { frames := mF k, cells := mMC k, slots := mMS k, locals := mO k }
abbrev wsO (k : Nat) : List Cond := codeW k :: Tb
def PcO (x : Cx) (D : va_G) (B0 : Nat) (w : Wd) (As : List Value) : Array Value → State → Prop := va_Pc As (fun U => WEnv x D B0 U ∧ GW D B0 w U.heap)
def thrOK (a ic : Nat) : Bool := (vx_atS "SheetMaker" ic (exN a) exU).all (fun w => ((decide (w ∈ lw_tbl) && goodWord w) || ((decide (w ∈ nstW) || decide (w ∈ dcW)) && w.onTables)) && vx_ot w) && decide (Cond.initialized (exN a) ∈ lw_tbl) && goodWord (.initialized (exN a)) && Bundle.fit (exN a) && exU.all Bundle.fit
theorem thrOK_1 : thrOK 1 99 = true := by decide +kernel
theorem thrOK_2 : thrOK 2 220 = true := by decide +kernel
theorem thrOK_3 : thrOK 3 60 = true := by decide +kernel
theorem goodIn_O {k : Nat} (h : codeW k ∈ Tb) : GoodIn Tb (wsO k) := by
  intro w hw
  have h1 : w ∈ Tb := by
    rcases List.mem_cons.mp hw with rfl | hw
    · exact h
    · exact hw
  exact ⟨h1, good_of_word (List.mem_filter.mp h1).2⟩
theorem okC_e {k : Nat} (h : okC k = true) : codeW k ∈ Tb ∧ Cond.initialized (mY k).cls ∈ Tb ∧ (mT k = true → Cond.static (mY k) ∈ Tb) ∧ (mT k = false → Cond.instanceMethod (mY k) ∈ Tb ∧ ((mY k).name = "<init>" ∨ Cond.selects (mY k).cls (mY k) (mY k) ∈ Tb)) ∧ (mY k).cls ≠ "java/lang/invoke/MethodHandle" ∧ (mY k).cls ≠ "java/lang/invoke/VarHandle" ∧ plainName (mY k).cls = true := by
  simp only [okC, Bool.and_eq_true, decide_eq_true_eq] at h
  obtain ⟨⟨⟨⟨⟨h1, h2⟩, h3⟩, h4⟩, h5⟩, h6⟩ := h
  refine ⟨tb_mem h1, tb_mem h2, fun q => ?_, fun q => ?_, h4, h5, h6⟩
  · rw [q] at h3
    exact tb_mem h3
  · rw [q] at h3
    simp only [Bool.false_eq_true, if_false, Bool.and_eq_true, Bool.or_eq_true, beq_iff_eq] at h3
    exact ⟨tb_mem h3.1, h3.2.imp id tb_mem⟩
theorem PcO_blind {x : Cx} {D : va_G} {B0 : Nat} {w : Wd} {As : List Value} : FrameBlind (PcO x D B0 w As) := by
  rintro a U g mk ⟨q1, q2, q3⟩
  exact ⟨q1, q2.move (U := U.calling g mk a) (State.WarmedH.refl U) (Nat.le_refl _) (fun _ _ _ => rfl), q3⟩
theorem lv_args_at : ∀ (vs : List Value) (i j : Nat) (v : Value), vs.all cat1 = true → vs[j]? = some v → (i + j, v) ∈ lv_args i vs
  | [], i, j, v, _, h => by simp at h
  | u :: vs, i, j, v, hc, h => by
    simp only [List.all_cons, Bool.and_eq_true] at hc
    have hu : ¬ u.category = 2 := by rw [cat1_e hc.1]; decide
    simp only [lv_args, if_neg hu]
    cases j with
    | zero => simp only [List.getElem?_cons_zero] at h; cases h; exact List.mem_cons_self
    | succ j =>
      rw [List.getElem?_cons_succ] at h
      have := lv_args_at vs (i + 1) j v hc.2 h
      rw [show i + 1 + j = i + (j + 1) by omega] at this
      exact List.mem_cons_of_mem _ this
theorem lg_sl_len : ∀ (vs : List Value), vs.all cat1 = true → (lg_sl vs).length = vs.length
  | [], _ => rfl
  | u :: vs, hc => by
    simp only [List.all_cons, Bool.and_eq_true] at hc
    have hu : ¬ u.category = 2 := by rw [cat1_e hc.1]; decide
    have := lg_sl_len vs hc.2
    unfold lg_sl at this ⊢
    rw [List.flatMap_cons, if_neg hu]
    simp [this]
theorem lvR_entry {vs : List Value} {nL : Nat} (hc : vs.all cat1 = true) (hn : vs.length ≤ nL) : lvR ((lg_sl vs ++ List.replicate (nL - (lg_sl vs).length) Slot.unset).toArray) nL (vs.map some ++ List.replicate (nL - vs.length) none) := by
  have h := lv_entry vs (n := nL) (by rw [lg_sl_len vs hc]; exact hn)
  refine ⟨by simp; omega, h.1, h.2.1, fun i v hi => ?_⟩
  by_cases hl : i < vs.length
  · rw [List.getElem?_append_left (by simpa using hl), List.getElem?_map] at hi
    have hv : vs[i]? = some v := by
      cases hq : vs[i]? with
      | none => rw [hq] at hi; cases hi
      | some u => rw [hq] at hi; simpa using hi
    have hm := lv_args_at vs 0 i v hc hv
    rw [Nat.zero_add] at hm
    exact ⟨cat1_e (List.all_eq_true.mp hc v (List.mem_of_getElem? hv)), h.2.2 (i, v) hm⟩
  · rw [List.getElem?_append_right (by simp; omega)] at hi
    have := List.eq_of_mem_replicate (List.mem_of_getElem? hi)
    cases this
section MET
variable {x : Cx} {D : va_G} {B0 : Nat} {l : Launch}
set_option maxHeartbeats 1000000 in
theorem ends_of {k : Nat} {post : Po} {p : Program} {e : Env} {s s₁ : State} {m : MethodId} {args : Array Value} {below : List Frame} {meth : Method} {c : Code} (B : BodyLoose p l (mY k) (headSpec (wsO k) (rmO k)) (mB k) (mL k) (mR k) e s m args below meth c s₁)
    (hF : Fr x D B0 l k p (rmO k) s m args meth c) (ht : mH k = [] → ∀ y ∈ c.exceptionTable.toList, False) (hX : mH k ≠ [] → ∀ ex w', ¬ post (.inr ex) w') :
    EndR D B0 k p l e (rmO k) s m args below meth c (vx_MQ below (QcO D B0 post) (XcO D B0 post) args s (mMC k) (mMS k) (AA B0)) post ∧ EndT D B0 k p l e (rmO k) s m args below meth c (vx_MQ below (QcO D B0 post) (XcO D B0 post) args s (mMC k) (mMS k) (AA B0)) post ∧
    EndN D B0 k p l e (rmO k) s m args below meth c (vx_MQ below (QcO D B0 post) (XcO D B0 post) args s (mMC k) (mMS k) (AA B0)) post := by
  obtain ⟨hx, hb, hml, hown, hts, hlk, hnm, htb, hE, hfr, hlo, htr⟩ := id hF
  refine ⟨?_, ?_, ?_⟩
  · intro w H locs cells slots ls pc v hra hp hG hS hc hs
    refine W.widen (k := mMC k) (n := mMS k) hc hs (vx_ret ?_)
    have hq : ∀ t : State, t.heap = H → s.WarmedH t.vm → QcO D B0 post args s (.returned v) t := fun t ht _ => ⟨v, w, rfl, hp, by rw [ht]; exact hG, hS.F ht⟩
    rcases hra with ⟨hd, rfl, hmr⟩ | ⟨z, hd, rfl, hmr⟩ | ⟨u, hd, rfl, hu, rt, hmr, hrt⟩
    · exact W.vret hx hb (by rw [B.returns, hmr]) hq hS.2.2 hd hlk
    · rcases hmr with hmr | ⟨hmr, h01⟩
      · exact W.iret hx hb (by rw [B.returns, hmr]) hq hS.2.2 hd hlk
      · exact W.zret hx hb (by rw [B.returns, hmr]) (by rcases h01 with rfl | rfl <;> decide +kernel) hq hS.2.2 hd hlk
    · exact W.aret hx hb (by rw [B.returns, hmr]) hrt hu hq hS.2.2 hd hlk
  · intro w H locs cells slots ls pc rest ex q ce hh hp hG hS hc hs hcell hv hcl
    by_cases hne : mH k = []
    · exact vx_widen hc hs (vx_out (fun y hy => (ht hne y hy).elim) hlk hcell hv hcl (fun t ht _ => ⟨ex, w, rfl, hp, by rw [ht]; exact hG, hS.F ht⟩) hS.2.2 (Nat.le_refl _) (Nat.le_refl _))
    · exact absurd hp (hX hne ex w)
  · intro w H locs cells slots ls pc idx a b j rest hd hok hp hG hS hc hs hrl hls
    simp only [okX, Bool.and_eq_true, decide_eq_true_eq] at hok
    obtain ⟨⟨⟨⟨⟨⟨⟨⟨⟨⟨g1, g2⟩, g3⟩, g4⟩, g5⟩, g6⟩, g7⟩, g8⟩, g9⟩, g10⟩, g11⟩ := hok
    obtain ⟨sq, hsq1, hsq2⟩ := List.any_eq_true.mp g11
    simp only [decide_eq_true_eq] at hsq2
    obtain ⟨sa, hsa⟩ := hE.2.2.1 sq hsq1
    rw [hsq2] at hsa
    have hthr : thrOK a (b / 1000) = true := by
      rcases g10 with q | q | q <;> (rw [Prod.mk.injEq] at q; rw [q.1, q.2])
      · exact thrOK_1
      · exact thrOK_2
      · exact thrOK_3
    simp only [thrOK, Bool.and_eq_true, decide_eq_true_eq, List.all_eq_true, Bool.or_eq_true] at hthr
    obtain ⟨⟨⟨⟨t1, t2⟩, t3⟩, t4⟩, t5⟩ := hthr
    have hk := hts _ (tb_mem g3)
    rw [g2] at hk hown
    have hsz : s.heap.size ≤ H.size := hS.1
    refine vx_throwS (own := "SheetMaker") (cls := exN a) (names := exU) (ik := idx) (is := b % 1000) (ic := b / 1000) (A := AA B0) hx hb htr hown t4 t5 hk (hts _ (List.mem_filter.mpr ⟨t2, t3⟩)) hsa (fun w0 hw0 => ?_) (fun w0 hw0 => ?_) hE.2.2.2.2.2.1 hE.2.2.2.2.2.2.1 hS (hls.trans hml.symm) hd g4 g5 g6 g7 (fun y hy => (ht g1 y hy).elim) (by show 2 + 3 < mF k; omega) (by have := rest8 rest hrl; show _ + (13 * (2 + 1) + 43) ≤ mO k; omega) hc hs hlk ?_ hS.2.2 hc hs
    · rcases (t1 w0 hw0).1 with q | q
      · exact hts _ (List.mem_filter.mpr q)
      · exact va_Nw.use q.2 (hE.2.1 w0 q.1)
    · rcases List.mem_cons.mp hw0 with rfl | hw0
      · rfl
      · rcases List.mem_cons.mp hw0 with rfl | hw0
        · rfl
        · exact (t1 w0 hw0).2
    · intro t _ hz1 hz2
      refine ⟨a, w, rfl, hp, fun y f hy => ⟨(hG y f hy).1.kept (hz2 y (hG.lt hy)), (hG y f hy).2⟩, Nat.le_trans hsz hz1, fun q q1 q2 => (hz2 q (Nat.lt_of_lt_of_le q1 hsz)).trans (hS.2.1 q q1 q2)⟩
theorem met_of {k : Nat} {As : List Value} {w : Wd} {R : Po} (hS : Snd x D B0 l k 0 (As.map some ++ List.replicate (mL k - As.length) none) [] w (mMC k) (mMS k) R) (ha : As.all cat1 = true) (hlen : As.length ≤ mL k) (hk : okC k = true) (htr : l.stackTraces = false) (hX : mH k ≠ [] → ∀ ex w', ¬ R (.inr ex) w') :
    vx_Met l (mY k) (wsO k) (rmO k) (PcO x D B0 w As) (QcO D B0 R) (XcO D B0 R) (mMC k) (mMS k) (AA B0) := by
  obtain ⟨-, -, -, -, -, -, hpl⟩ := okC_e hk
  have core : ∀ (p : Program) (e : Env) (s : State) (m : MethodId) (args : Array Value) (below : List Frame) (meth : Method) (c : Code) (s₁ : State), BodyLoose p l (mY k) (headSpec (wsO k) (rmO k)) (mB k) (mL k) (mR k) e s m args below meth c s₁ → c.maxLocals = mL k → (mH k = [] → ∀ y ∈ c.exceptionTable.toList, False) → (mH k ≠ [] → c.exceptionTable.toList = tableOf (mH k)) → PcO x D B0 w As args s →
      W p l e (rmO k) s m args below meth c s.heap [] 0 0 (vx_MQ below (QcO D B0 R) (XcO D B0 R) args s (mMC k) (mMS k) (AA B0)) (entryFrame m args (mL k)) := by
    rintro p e s m args below meth c s₁ B hml ht htb ⟨rfl, hE, hG⟩
    have hF : Fr x D B0 l k p (rmO k) s m As.toArray meth c := ⟨B.exec, B.bytes, hml, findClass_of_methodNamed B.named, fun w0 hw0 => atoms_spec (ws := wsO k) B.pre w0 (List.mem_cons_of_mem _ hw0), B.notSynchronized, (name_of_methodNamed B.named B.method).1, htb, hE, Nat.le_refl _, Nat.le_refl _, htr⟩
    obtain ⟨e1, e2, e3⟩ := ends_of B hF ht hX
    rw [lg_entry_eq]
    exact hS p e (rmO k) s m As.toArray below meth c _ s.heap [] 0 0 _ hF e1 e2 e3 hG va_S.rf (by show 0 + mMC k ≤ mMC k; omega) (by show 0 + mMS k ≤ mMS k; omega) (lvR_entry ha hlen)
  by_cases hH : mH k = []
  · exact vx_ofW (cc := mB k) (maxL := mL k) (ret := mR k) (ws' := Tb) hpl (by unfold wsO codeW; rw [if_pos hH]) (fun p e s m args below meth c s₁ B hml ht hv => core p e s m args below meth c s₁ B hml (fun _ => ht) (fun q => absurd hH q) hv)
  · refine vx_ofWH (cc := mB k) (maxL := mL k) (ret := mR k) (hh := mH k) (ws' := Tb) hpl (by unfold wsO codeW; rw [if_neg hH]) (fun p e s m args below meth c s₁ B hml hv => core p e s m args below meth c s₁ B hml (fun q => absurd q hH) (fun _ => vx_table (x := mY k) (y := mY k) (bytes := mB k) (maxL' := mL k) (ret' := mR k) B ?_) hv)
    refine atoms_spec (ws := wsO k) B.pre _ ?_
    unfold wsO codeW
    rw [if_neg hH]
    exact List.mem_cons_self
/-- a callee that doesn't throw -/
theorem met_N {k : Nat} {As : List Value} {w : Wd} {R : Po} (h : vx_Met l (mY k) (wsO k) (rmO k) (PcO x D B0 w As) (QcO D B0 R) (XcO D B0 R) (mMC k) (mMS k) (AA B0)) (hX : ∀ ex w', ¬ R (.inr ex) w') : Met l (mY k) (wsO k) (rmO k) (PcO x D B0 w As) (QcO D B0 R) (mMC k) (mMS k) (AA B0) := by
  intro p e ha hc hk s m args below hf happ hP hT
  obtain ⟨n, o, h1, h2, h3, h4⟩ := h p e ha hc hk s m args below hf happ hP hT
  refine ⟨n, o, h1, h2, h3, ?_⟩
  rcases h4 with h4 | ⟨q, -, E, ce, L, ⟨ex, w', -, hp, -⟩, -⟩
  · exact h4
  · exact absurd hp (hX ex w')
end MET
section CALLR
variable {x : Cx} {D : va_G} {B0 : Nat} {l : Launch} {k pc : Nat} {L : Lc} {S : List Value} {w : Wd} {mc ms : Nat} {post : Po} {n a b j ee : Nat}
theorem okRoom_e {m k : Nat} (h : okRoom m k = true) : mF k + 1 ≤ mF m ∧ 8 + (mL k + 11) + mO k ≤ mO m := by
  simpa only [okRoom, Bool.and_eq_true, decide_eq_true_eq] using h
set_option maxHeartbeats 1000000 in
theorem sn_invokevirtual {i : Nat} : SI x D B0 l (.invokevirtual i, n, a, b, j, ee) k pc L S w mc ms post := by
  intro hd hw0 h0
  have hw : (decide (n = 3) && decide (1 ≤ b) && decide (a < 167) && okC a && tb j (.methodLink (mY k).cls i (mY a)) && !mT a && !((mY a).name == "<init>") && okPar a (b - 1) && okRoom k a && decide ((vwCl[mI a]?).map (fun r => r.1) = some (mY a).cls) && decide (mH a = [])) = true := hw0
  simp only [Bool.and_eq_true, decide_eq_true_eq, Bool.not_eq_true', okPar] at hw
  obtain ⟨⟨⟨⟨⟨⟨⟨⟨⟨⟨rfl, hb1⟩, -⟩, hok⟩, hml0⟩, hst⟩, hni⟩, hpar⟩, hroom⟩, hci⟩, hnh⟩ := hw
  obtain ⟨c1, c2, -, c4, c5, c6, -⟩ := okC_e hok
  obtain ⟨c7, c8⟩ := c4 hst
  have c8 : Cond.selects (mY a).cls (mY a) (mY a) ∈ Tb := by
    rcases c8 with q | q
    · rw [beq_eq_false_iff_ne] at hni; exact absurd q hni
    · exact q
  have h : qtk b S [] fun args rest => rcv w args (mI a) ∧ rest.length ≤ 4 ∧ mMC a ≤ mc ∧ mMS a ≤ ms ∧ CLF (Snd x D B0 l) a args w (aftF (Snd x D B0 l) k pc (pc + 3) L rest (mc - mMC a) (ms - mMS a) post) := h0
  obtain ⟨As0, rest, hSt, hAl, hrc, hr4, hm1, hm2, ⟨hal, hln⟩, Rr, hC, hK⟩ := qtk_e b S [] h
  rw [List.append_nil] at hrc hal hln hC
  obtain ⟨r1, r2⟩ := okRoom_e hroom
  intro p e R s m args below meth c Q H locs cells slots ls hF hR hT hN hG hS h1 h2 hl
  obtain ⟨hx, hb, hml, hown, hts, hlk, hnm, htb, hE, hfr, hlo, htr⟩ := id hF
  match As0, hrc with
  | .ref o :: As, hrc =>
  obtain ⟨fs, hwo⟩ := qwK_e hrc
  obtain ⟨r, hr⟩ : ∃ r, vwCl[mI a]? = some r := by
    cases q : vwCl[mI a]? with
    | none => rw [q] at hci; cases hci
    | some r => exact ⟨r, rfl⟩
  rw [hr] at hci
  have hci : r.1 = (mY a).cls := Option.some.inj hci
  obtain ⟨r', g1, cell, q1, q2, q3, q4⟩ := (hG _ _ hwo).1
  cases Option.some.inj (g1.symm.trans hr)
  have hM := met_of hC hal hln hok htr (fun q => absurd hnh q)
  have hcw : codeW a = .code (mY a) (mB a) (mL a) (mR a) := by unfold codeW; rw [if_pos hnh]
  refine run_on (uc := mMC a) (us := mMS a) (vx_runV (As := As) (rest := rest) (Ts := Tb) (own := (mY k).cls) (C := (mY a).cls) (n := As.length) ⟨hx, hb, hml, hown, hts⟩ hM ⟨callB_of (ws' := Tb) (bytes := mB a) (maxL := mL a) (ret := mR a) _ hts (goodIn_O c1) (by rw [← hcw]) rfl rfl (hts _ c2) (hts _ (tb_mem hml0)) ⟨c5, c6, ?_⟩ ⟨by show mF a + 1 ≤ _; omega, by show 8 + (mL a + 11) + mO a ≤ _; omega⟩, hts _ c7, hts _ c8⟩
    ⟨PcO_blind, ⟨cell, q1, by rw [q3]; rfl, by rw [q2, ← hci]; exact (hE.1.1 _ _ hr).2.1⟩, fun U hU hW => ⟨rfl, hE.move hW (by rw [hU]; exact hS.1) (fun q z1 z2 => by rw [hU]; exact hS.2.1 q z1 z2), by rw [hU]; exact hG⟩⟩ rfl rfl (hl.2.1) (by show S = _; rw [hSt]; simp) (lv_room (rest8 rest hr4)) hd ⟨by omega, by omega⟩) rfl hK hF hR hT hN hS (by omega) (by omega) hl
  rw [hpar, ← hAl]
  rfl
set_option maxHeartbeats 1000000 in
theorem sn_invokespecial {i : Nat} : SI x D B0 l (.invokespecial i, n, a, b, j, ee) k pc L S w mc ms post := by
  intro hd hw0 h0
  have hw : (decide (n = 3) && (if ee = 2 then tb j (.methodLink (mY k).cls i Lib.objectInit) && decide (1 ≤ mF k) && decide (20 ≤ mO k) else
        decide (1 ≤ b) && decide (a < 167) && okC a && (if ee = 1 then decide (Cond.methodLinkNest (mY k).cls i (mY a) "SheetMaker" ∈ nstW) else tb j (.methodLink (mY k).cls i (mY a))) && !mT a && ((mY a).name == "<init>") && okPar a (b - 1) && okRoom k a && decide (mH a = []) && decide (mR a = none))) = true := hw0
  simp only [Bool.and_eq_true, decide_eq_true_eq] at hw
  obtain ⟨rfl, hw⟩ := hw
  have h : (if ee = 2 then qsr S fun _ S => S.length ≤ 4 ∧ Snd x D B0 l k (pc + 3) L S w mc ms post else
      qtk b S [] fun args rest => rcI args ∧ rest.length ≤ 4 ∧ mMC a ≤ mc ∧ mMS a ≤ ms ∧ CLF (Snd x D B0 l) a args w (aftN (Snd x D B0 l) k (pc + 3) L rest (mc - mMC a) (ms - mMS a) post)) := h0
  by_cases he : ee = 2
  · rw [if_pos he] at h hw
    simp only [Bool.and_eq_true, decide_eq_true_eq] at hw
    obtain ⟨⟨g1, g2⟩, g3⟩ := hw
    obtain ⟨o, S, rfl, hr4, h⟩ := qsr_e h
    intro p e R s m args below meth c Q H locs cells slots ls hF hR hT hN hG hS h1 h2 hl
    obtain ⟨hx, hb, hml, hown, hts, hlk, hnm, htb, hE, hfr, hlo, htr⟩ := id hF
    refine W.objInit hx hb hown (hts _ (tb_mem g1)) (hts _ (List.mem_filter.mpr ⟨by decide +kernel, by decide +kernel⟩)) (hts _ (List.mem_filter.mpr ⟨by decide +kernel, by decide +kernel⟩)) rfl (by rw [hml]; exact hl.2.1) rfl hd (by omega) (by have := rest8 S hr4; show 2 * 0 + _ + 12 ≤ _; omega) ?_
    exact h p e R s m args below meth c Q H locs cells slots ls hF hR hT hN hG hS h1 h2 hl
  · rw [if_neg he] at h hw
    simp only [Bool.and_eq_true, decide_eq_true_eq, Bool.not_eq_true', okPar, beq_iff_eq] at hw
    obtain ⟨⟨⟨⟨⟨⟨⟨⟨⟨hb1, -⟩, hok⟩, hlnk⟩, hst⟩, hni⟩, hpar⟩, hroom⟩, hnh⟩, hmr⟩ := hw
    obtain ⟨c1, c2, -, c4, c5, c6, -⟩ := okC_e hok
    obtain ⟨c7, -⟩ := c4 hst
    obtain ⟨As0, rest, hSt, hAl, hrc, hr4, hm1, hm2, ⟨hal, hln⟩, Rr, hC, hK⟩ := qtk_e b S [] h
    rw [List.append_nil] at hrc hal hln hC
    obtain ⟨r1, r2⟩ := okRoom_e hroom
    intro p e R s m args below meth c Q H locs cells slots ls hF hR hT hN hG hS h1 h2 hl
    obtain ⟨hx, hb, hml, hown, hts, hlk, hnm, htb, hE, hfr, hlo, htr⟩ := id hF
    match As0, hrc with
    | .ref o :: As, hrc =>
    have hM := met_N (met_of hC hal hln hok htr (fun q => absurd hnh q)) (fun ex w' q => hK _ _ q)
    have hcw : codeW a = .code (mY a) (mB a) (mL a) none := by unfold codeW; rw [if_pos hnh, hmr]
    have hpn : (parseMethodDescriptor (mY a).desc).map (fun d => d.parameters.length) = some As.length := by rw [hpar, ← hAl]; rfl
    have hp : PreS s H (PcO x D B0 w (.ref o :: As)) (.ref o :: As) := ⟨PcO_blind, fun U hU hW => ⟨rfl, hE.move hW (by rw [hU]; exact hS.1) (fun q z1 z2 => by rw [hU]; exact hS.2.1 q z1 z2), by rw [hU]; exact hG⟩⟩
    by_cases hn1 : ee = 1
    · rw [if_pos hn1] at hlnk
      simp only [decide_eq_true_eq] at hlnk
      exact run_onN (uc := mMC a) (us := mMS a) (va_runIN (As := As) (rest := rest) (Ts := Tb) (own := (mY k).cls) (n := As.length) ⟨hx, hb, hml, hown, hts⟩ hM ⟨va_cnB (ws' := Tb) (bytes := mB a) (maxL := mL a) (ret := none) _ hts (goodIn_O c1) (by rw [← hcw]) rfl rfl (hE.2.1 _ (Or.inl hlnk)) (hts _ c2) ⟨c5, c6, hpn⟩ ⟨by show mF a + 1 ≤ _; omega, by show 8 + (mL a + 11) + mO a ≤ _; omega⟩, hni, hts _ c7⟩
        hp rfl rfl (hl.2.1) (by show S = _; rw [hSt]; simp) (lv_room (rest8 rest hr4)) hd ⟨by omega, by omega⟩) rfl hK hF hR hT hN hS (by omega) (by omega) hl
    · rw [if_neg hn1] at hlnk
      exact run_onN (uc := mMC a) (us := mMS a) (va_runI (As := As) (rest := rest) (Ts := Tb) (own := (mY k).cls) (n := As.length) ⟨hx, hb, hml, hown, hts⟩ hM ⟨callB_of (ws' := Tb) (bytes := mB a) (maxL := mL a) (ret := none) _ hts (goodIn_O c1) (by rw [← hcw]) rfl rfl (hts _ c2) (hts _ (tb_mem hlnk)) ⟨c5, c6, hpn⟩ ⟨by show mF a + 1 ≤ _; omega, by show 8 + (mL a + 11) + mO a ≤ _; omega⟩, hni, hts _ c7⟩
        hp rfl rfl (hl.2.1) (by show S = _; rw [hSt]; simp) (lv_room (rest8 rest hr4)) hd ⟨by omega, by omega⟩) rfl hK hF hR hT hN hS (by omega) (by omega) hl
set_option maxHeartbeats 1000000 in
theorem sn_invokestatic {i : Nat} : SI x D B0 l (.invokestatic i, n, a, b, j, ee) k pc L S w mc ms post := by
  intro hd hw0 h0
  have hw : (decide (n = 3) && (if ee = 3 then tb j (.methodLink (mY k).cls i Lib.Math.abs.name) && decide (1 ≤ mF k) && decide (21 ≤ mO k) else if ee = 4 then tb j (.methodLink (mY k).cls i Lib.Math.max.name) && decide (1 ≤ mF k) && decide (21 ≤ mO k) else decide (a < 167) && okC a && (if ee = 1 then decide (Cond.methodLinkNest (mY k).cls i (mY a) "SheetMaker" ∈ nstW) && decide (mH a = []) else tb j (.methodLink (mY k).cls i (mY a))) && mT a && okPar a b && okRoom k a)) = true := hw0
  simp only [Bool.and_eq_true, decide_eq_true_eq] at hw
  obtain ⟨rfl, hw⟩ := hw
  have h : (if ee = 3 then qs1 S fun a S => S.length ≤ 4 ∧ Snd x D B0 l k (pc + 3) L (.int (if 0 ≤ a then a else 0 - a) :: S) w mc ms post else
      if ee = 4 then qs2 S fun a b S => S.length ≤ 4 ∧ Snd x D B0 l k (pc + 3) L (.int (if a < b then b else a) :: S) w mc ms post else
      if ee = 1 ∨ mH a ≠ [] then qtk b S [] fun args rest => rest.length ≤ 4 ∧ mMC a ≤ mc ∧ mMS a ≤ ms ∧
      CLF (Snd x D B0 l) a args w (aftN (Snd x D B0 l) k (pc + 3) L rest (mc - mMC a) (ms - mMS a) post) else qtk b S [] fun args rest => rest.length ≤ 4 ∧ mMC a ≤ mc ∧ mMS a ≤ ms ∧
      CLF (Snd x D B0 l) a args w (aftF (Snd x D B0 l) k pc (pc + 3) L rest (mc - mMC a) (ms - mMS a) post)) := h0
  by_cases he3 : ee = 3
  · rw [if_pos he3] at h hw
    simp only [Bool.and_eq_true, decide_eq_true_eq] at hw
    obtain ⟨⟨g1, g2⟩, g3⟩ := hw
    obtain ⟨o, S, rfl, hr4, h⟩ := qs1_e h
    intro p e R s m args below meth c Q H locs cells slots ls hF hR hT hN hG hS h1 h2 hl
    obtain ⟨hx, hb, hml, hown, hts, hlk, hnm, htb, hE, hfr, hlo, htr⟩ := id hF
    have hm := fun w0 hw0 => hts _ (mw_abs w0 hw0)
    exact va_mabs hx hb (hml.trans hl.2.1.symm) hown (hts _ (tb_mem g1)) (hm _ (by simp)) (hm _ (by simp)) (hm _ (by simp)) (by omega) (by have := rest8 S hr4; omega) (by omega) (by omega) hd (h p e R s m args below meth c Q H locs cells slots ls hF hR hT hN hG hS h1 h2 hl)
  rw [if_neg he3] at h hw
  by_cases he4 : ee = 4
  · rw [if_pos he4] at h hw
    simp only [Bool.and_eq_true, decide_eq_true_eq] at hw
    obtain ⟨⟨g1, g2⟩, g3⟩ := hw
    obtain ⟨u, v, S, rfl, hr4, h⟩ := qs2_e h
    intro p e R s m args below meth c Q H locs cells slots ls hF hR hT hN hG hS h1 h2 hl
    obtain ⟨hx, hb, hml, hown, hts, hlk, hnm, htb, hE, hfr, hlo, htr⟩ := id hF
    have hm := fun w0 hw0 => hts _ (mw_max w0 hw0)
    exact va_mmax hx hb (hml.trans hl.2.1.symm) hown (hts _ (tb_mem g1)) (hm _ (by simp)) (hm _ (by simp)) (hm _ (by simp)) (by omega) (by have := rest8 S hr4; omega) (by omega) (by omega) hd (h p e R s m args below meth c Q H locs cells slots ls hF hR hT hN hG hS h1 h2 hl)
  rw [if_neg he4] at h hw
  simp only [Bool.and_eq_true, decide_eq_true_eq, okPar] at hw
  obtain ⟨⟨⟨⟨⟨-, hok⟩, hlnk⟩, hst⟩, hpar⟩, hroom⟩ := hw
  obtain ⟨c1, c2, c3, -, c5, c6, -⟩ := okC_e hok
  have c3 := c3 hst
  obtain ⟨r1, r2⟩ := okRoom_e hroom
  by_cases hnx : ee = 1 ∨ mH a ≠ []
  · rw [if_pos hnx] at h
    obtain ⟨As, rest, hSt, hAl, hr4, hm1, hm2, ⟨hal, hln⟩, Rr, hC, hK⟩ := qtk_e b S [] h
    rw [List.append_nil] at hal hln hC
    intro p e R s m args below meth c Q H locs cells slots ls hF hR hT hN hG hS h1 h2 hl
    obtain ⟨hx, hb, hml, hown, hts, hlk, hnm, htb, hE, hfr, hlo, htr⟩ := id hF
    have hM := met_N (met_of hC hal hln hok htr (fun _ ex w' q => hK _ _ q)) (fun ex w' q => hK _ _ q)
    have hpn : (parseMethodDescriptor (mY a).desc).map (fun d => d.parameters.length) = some As.length := by rw [hpar, ← hAl]
    have hp : PreS s H (PcO x D B0 w As) As := ⟨PcO_blind, fun U hU hW => ⟨rfl, hE.move hW (by rw [hU]; exact hS.1) (fun q z1 z2 => by rw [hU]; exact hS.2.1 q z1 z2), by rw [hU]; exact hG⟩⟩
    by_cases hn1 : ee = 1
    · rw [if_pos hn1] at hlnk
      simp only [Bool.and_eq_true, decide_eq_true_eq] at hlnk
      have hcw : codeW a = .code (mY a) (mB a) (mL a) (mR a) := by unfold codeW; rw [if_pos hlnk.2]
      exact run_onN (uc := mMC a) (us := mMS a) (va_runSN (As := As) (rest := rest) (Ts := Tb) (own := (mY k).cls) (n := As.length) ⟨hx, hb, hml, hown, hts⟩ hM ⟨va_cnB (ws' := Tb) (bytes := mB a) (maxL := mL a) (ret := mR a) _ hts (goodIn_O c1) (by rw [← hcw]) rfl rfl (hE.2.1 _ (Or.inl hlnk.1)) (hts _ c2) ⟨c5, c6, hpn⟩ ⟨by show mF a + 1 ≤ _; omega, by show 8 + (mL a + 11) + mO a ≤ _; omega⟩, hts _ c3, trivial⟩
        hp rfl rfl (hl.2.1) (by show S = _; rw [hSt]) (lv_room (rest8 rest hr4)) hd ⟨by omega, by omega⟩) rfl hK hF hR hT hN hS (by omega) (by omega) hl
    · rw [if_neg hn1] at hlnk
      have hne : mH a ≠ [] := hnx.resolve_left hn1
      have hcw : codeW a = .codeWith (mY a) (mB a) (mL a) (mR a) (mH a) := by unfold codeW; rw [if_neg hne]
      have hcA : Cond.codeWith (mY a) (mB a) (mL a) (mR a) (mH a) ∈ wsO a := by unfold wsO; rw [hcw]; exact List.mem_cons_self
      exact run_onN (uc := mMC a) (us := mMS a) (vx_runSW (hh := mH a) (bytes := mB a) (maxL := mL a) (ret := mR a) (As := As) (rest := rest) (Ts := Tb) (own := (mY k).cls) (n := As.length) ⟨hx, hb, hml, hown, hts⟩ hM ⟨⟨rfl, rfl, by show mF a + 1 ≤ _; omega, by show 8 + (mL a + 11) + mO a ≤ _; omega, pay_in hts (goodIn_O c1), hcA⟩, hts _ ((goodIn_O c1) _ hcA).1, hts _ c2, ⟨c5, c6⟩, fun sig hsg => by rw [hsg] at hpn; exact (Option.some.inj hpn).symm, hts _ (tb_mem hlnk), hts _ c3⟩
        hp rfl rfl (hl.2.1) (by show S = _; rw [hSt]) (lv_room (rest8 rest hr4)) hd ⟨by omega, by omega⟩) rfl hK hF hR hT hN hS (by omega) (by omega) hl
  · rw [if_neg hnx] at h
    obtain ⟨As, rest, hSt, hAl, hr4, hm1, hm2, ⟨hal, hln⟩, Rr, hC, hK⟩ := qtk_e b S [] h
    rw [List.append_nil] at hal hln hC
    intro p e R s m args below meth c Q H locs cells slots ls hF hR hT hN hG hS h1 h2 hl
    obtain ⟨hx, hb, hml, hown, hts, hlk, hnm, htb, hE, hfr, hlo, htr⟩ := id hF
    have hn1 : ¬ ee = 1 := fun q => hnx (Or.inl q)
    have hnh : mH a = [] := Classical.byContradiction fun q => hnx (Or.inr q)
    rw [if_neg hn1] at hlnk
    have hM := met_of hC hal hln hok htr (fun q => absurd hnh q)
    have hcw : codeW a = .code (mY a) (mB a) (mL a) (mR a) := by unfold codeW; rw [if_pos hnh]
    have hpn : (parseMethodDescriptor (mY a).desc).map (fun d => d.parameters.length) = some As.length := by rw [hpar, ← hAl]
    have hp : PreS s H (PcO x D B0 w As) As := ⟨PcO_blind, fun U hU hW => ⟨rfl, hE.move hW (by rw [hU]; exact hS.1) (fun q z1 z2 => by rw [hU]; exact hS.2.1 q z1 z2), by rw [hU]; exact hG⟩⟩
    exact run_on (uc := mMC a) (us := mMS a) (vx_runS (As := As) (rest := rest) (Ts := Tb) (own := (mY k).cls) (n := As.length) ⟨hx, hb, hml, hown, hts⟩ hM ⟨callB_of (ws' := Tb) (bytes := mB a) (maxL := mL a) (ret := mR a) _ hts (goodIn_O c1) (by rw [← hcw]) rfl rfl (hts _ c2) (hts _ (tb_mem hlnk)) ⟨c5, c6, hpn⟩ ⟨by show mF a + 1 ≤ _; omega, by show 8 + (mL a + 11) + mO a ≤ _; omega⟩, hts _ c3⟩
      hp rfl rfl (hl.2.1) (by show S = _; rw [hSt]) (lv_room (rest8 rest hr4)) hd ⟨by omega, by omega⟩) rfl hK hF hR hT hN hS (by omega) (by omega) hl
end CALLR
set_option maxHeartbeats 4000000 in
theorem sn_step {x : Cx} {D : va_G} {B0 : Nat} {l : Launch} {k pc : Nat} {L : Lc} {S : List Value} {w : Wd} {mc ms : Nat} {post : Po} (h : stepP x (Snd x D B0 l) k pc L S w mc ms post) : Snd x D B0 l k pc L S w mc ms post := by
  unfold stepP at h
  split at h
  · exact h.elim
  · rename_i ai hc
    obtain ⟨hd, hw⟩ := ok_at hc
    obtain ⟨i, n, a, b, j, ee⟩ := ai
    cases i
    case iconst => exact sn_iconst hd hw h
    case bipush => exact sn_bipush hd hw h
    case sipush => exact sn_sipush hd hw h
    case aconst_null => exact sn_null hd hw h
    case ldc => exact sn_ldc hd hw h
    case ldc_w => exact sn_ldc_w hd hw h
    case iload_n => exact sn_iload_n hd hw h
    case iload => exact sn_iload hd hw h
    case aload_n => exact sn_aload_n hd hw h
    case aload => exact sn_aload hd hw h
    case istore_n => exact sn_istore_n hd hw h
    case istore => exact sn_istore hd hw h
    case astore_n => exact sn_astore_n hd hw h
    case astore => exact sn_astore hd hw h
    case iinc => exact sn_iinc hd hw h
    case iadd => exact sn_iadd hd hw h
    case isub => exact sn_isub hd hw h
    case imul => exact sn_imul hd hw h
    case idiv => exact sn_idiv hd hw h
    case irem => exact sn_irem hd hw h
    case ineg => exact sn_ineg hd hw h
    case iand => exact sn_iand hd hw h
    case ixor => exact sn_ixor hd hw h
    case ishl => exact sn_ishl hd hw h
    case ishr => exact sn_ishr hd hw h
    case iushr => exact sn_iushr hd hw h
    case i2l => exact sn_i2l hd hw h
    case lcmp => exact sn_lcmp hd hw h
    case dup => exact sn_dup hd hw h
    case pop => exact sn_pop hd hw h
    case dup_x1 => exact sn_dup_x1 hd hw h
    case dup2 => exact sn_dup2 hd hw h
    case goto => exact sn_goto hd hw h
    case ifCond c o => cases c <;> first | exact sn_if_eq hd hw h | exact sn_if_ne hd hw h | exact sn_if_lt hd hw h | exact sn_if_ge hd hw h | exact sn_if_gt hd hw h | exact sn_if_le hd hw h
    case if_icmp c o => cases c <;> first | exact sn_icmp_eq hd hw h | exact sn_icmp_ne hd hw h | exact sn_icmp_lt hd hw h | exact sn_icmp_ge hd hw h | exact sn_icmp_gt hd hw h | exact sn_icmp_le hd hw h
    case if_acmp c o => cases c <;> first | exact sn_acmp_eq hd hw h | exact sn_acmp_ne hd hw h
    case getfield => exact sn_getfield hd hw h
    case putfield => exact sn_putfield hd hw h
    case iaload => exact sn_iaload hd hw h
    case baload => exact sn_baload hd hw h
    case laload => exact sn_laload hd hw h
    case aaload => exact sn_aaload hd hw h
    case iastore => exact sn_iastore hd hw h
    case bastore => exact sn_bastore hd hw h
    case lastore => exact sn_lastore hd hw h
    case aastore => exact sn_aastore hd hw h
    case arraylength => exact sn_arraylength hd hw h
    case newarray => exact sn_newarray hd hw h
    case anewarray => exact sn_anewarray hd hw h
    case new => exact sn_new hd hw h
    case invokestatic => exact sn_invokestatic hd hw h
    case invokevirtual => exact sn_invokevirtual hd hw h
    case invokespecial => exact sn_invokespecial hd hw h
    case return_ => exact sn_return hd hw h
    case ireturn => exact sn_ireturn hd hw h
    case areturn => exact sn_areturn hd hw h
    case checkcast => exact sn_checkcast hd hw h
    case getstatic => exact sn_getstatic hd hw h
    case tableswitch => exact sn_tableswitch hd hw h
    all_goals exact absurd h (by simp [stepI])
/-- WHAT THE SMALL MACHINE COMES TO, THE WALK COMES TO -/
theorem sound {x : Cx} {D : va_G} {B0 : Nat} {l : Launch} {k pc : Nat} {L : Lc} {S : List Value} {w : Wd} {mc ms : Nat} {post : Po} (h : WP x k pc L S w mc ms post) : Snd x D B0 l k pc L S w mc ms post :=
  h (Snd x D B0 l) (fun _ _ _ _ _ _ _ _ h => sn_step h)
end
