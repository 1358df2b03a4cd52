section
/-- a private method of a class that the tables say can be made, by its rows of tables_1 -/
def lw_okq (q : MethodName × Nat) : Prop := (q.1.cls ≠ "java/lang/invoke/MethodHandle" ∧ q.1.cls ≠ "java/lang/invoke/VarHandle") ∧ Cond.instantiable q.1.cls q.2 ∈ tables_1 ∧ Cond.privateMethod q.1 ∈ tables_1 ∧ Cond.instanceMethod q.1 ∈ tables_1
theorem lw_p0 : lw_okq (⟨"BagViews", "placeAt", "(I)LBagViews$Relation;"⟩, 2) := ⟨⟨by decide +kernel, by decide +kernel⟩, List.mem_of_getElem? (i := 23) (by decide +kernel), List.mem_of_getElem? (i := 114) (by decide +kernel), List.mem_of_getElem? (i := 115) (by decide +kernel)⟩
theorem lw_p1 : lw_okq (⟨"java/lang/Throwable", "fillInStackTrace", "(I)Ljava/lang/Throwable;"⟩, 6) := ⟨⟨by decide +kernel, by decide +kernel⟩, List.mem_of_getElem? (i := 157) (by decide +kernel), List.mem_of_getElem? (i := 155) (by decide +kernel), List.mem_of_getElem? (i := 156) (by decide +kernel)⟩
theorem lw_p2 : lw_okq (⟨"BagViews", "relationAt", "(I)LBagViews$Relation;"⟩, 2) := ⟨⟨by decide +kernel, by decide +kernel⟩, List.mem_of_getElem? (i := 23) (by decide +kernel), List.mem_of_getElem? (i := 242) (by decide +kernel), List.mem_of_getElem? (i := 243) (by decide +kernel)⟩
theorem lw_p3 : lw_okq (⟨"BagViews$Bag", "placeBehind", "([I)I"⟩, 3) := ⟨⟨by decide +kernel, by decide +kernel⟩, List.mem_of_getElem? (i := 38) (by decide +kernel), List.mem_of_getElem? (i := 351) (by decide +kernel), List.mem_of_getElem? (i := 352) (by decide +kernel)⟩
theorem lw_p4 : lw_okq (⟨"BagViews$Bag", "compareRow", "(I[II)I"⟩, 3) := ⟨⟨by decide +kernel, by decide +kernel⟩, List.mem_of_getElem? (i := 38) (by decide +kernel), List.mem_of_getElem? (i := 355) (by decide +kernel), List.mem_of_getElem? (i := 356) (by decide +kernel)⟩
theorem lw_p5 : lw_okq (⟨"BagViews$Bag", "isAt", "(I[I)Z"⟩, 3) := ⟨⟨by decide +kernel, by decide +kernel⟩, List.mem_of_getElem? (i := 38) (by decide +kernel), List.mem_of_getElem? (i := 359) (by decide +kernel), List.mem_of_getElem? (i := 360) (by decide +kernel)⟩
theorem lw_p6 : lw_okq (⟨"BagViews$Bag", "setTimes", "(IJ)Z"⟩, 3) := ⟨⟨by decide +kernel, by decide +kernel⟩, List.mem_of_getElem? (i := 38) (by decide +kernel), List.mem_of_getElem? (i := 363) (by decide +kernel), List.mem_of_getElem? (i := 364) (by decide +kernel)⟩
theorem lw_p7 : lw_okq (⟨"BagViews$Bag", "remove", "(I)V"⟩, 3) := ⟨⟨by decide +kernel, by decide +kernel⟩, List.mem_of_getElem? (i := 38) (by decide +kernel), List.mem_of_getElem? (i := 368) (by decide +kernel), List.mem_of_getElem? (i := 369) (by decide +kernel)⟩
theorem lw_p8 : lw_okq (⟨"BagViews$Bag", "insert", "(I[IJ)Z"⟩, 3) := ⟨⟨by decide +kernel, by decide +kernel⟩, List.mem_of_getElem? (i := 38) (by decide +kernel), List.mem_of_getElem? (i := 375) (by decide +kernel), List.mem_of_getElem? (i := 376) (by decide +kernel)⟩
theorem lw_p9 : lw_okq (⟨"BagViews$Group", "isFirst", "(LBagViews$Bag;I)Z"⟩, 7) := ⟨⟨by decide +kernel, by decide +kernel⟩, List.mem_of_getElem? (i := 398) (by decide +kernel), List.mem_of_getElem? (i := 396) (by decide +kernel), List.mem_of_getElem? (i := 397) (by decide +kernel)⟩
theorem lw_p10 : lw_okq (⟨"BagViews$Group", "isTogether", "(LBagViews$Bag;II)Z"⟩, 7) := ⟨⟨by decide +kernel, by decide +kernel⟩, List.mem_of_getElem? (i := 398) (by decide +kernel), List.mem_of_getElem? (i := 401) (by decide +kernel), List.mem_of_getElem? (i := 402) (by decide +kernel)⟩
theorem lw_p11 : lw_okq (⟨"BagViews$Group", "valueFrom", "(LBagViews$Bag;I)I"⟩, 7) := ⟨⟨by decide +kernel, by decide +kernel⟩, List.mem_of_getElem? (i := 398) (by decide +kernel), List.mem_of_getElem? (i := 406) (by decide +kernel), List.mem_of_getElem? (i := 407) (by decide +kernel)⟩
theorem lw_p12 : lw_okq (⟨"BagViews$Group", "withRow", "(III)I"⟩, 7) := ⟨⟨by decide +kernel, by decide +kernel⟩, List.mem_of_getElem? (i := 398) (by decide +kernel), List.mem_of_getElem? (i := 410) (by decide +kernel), List.mem_of_getElem? (i := 411) (by decide +kernel)⟩
theorem lw_p13 : lw_okq (⟨"BagViews$Join", "readPair", "(LBagViews$Bag;ILBagViews$Bag;I)V"⟩, 6) := ⟨⟨by decide +kernel, by decide +kernel⟩, List.mem_of_getElem? (i := 426) (by decide +kernel), List.mem_of_getElem? (i := 424) (by decide +kernel), List.mem_of_getElem? (i := 425) (by decide +kernel)⟩
theorem lw_p14 : lw_okq (⟨"BagViews$Selection", "holds", "(II)Z"⟩, 8) := ⟨⟨by decide +kernel, by decide +kernel⟩, List.mem_of_getElem? (i := 252) (by decide +kernel), List.mem_of_getElem? (i := 442) (by decide +kernel), List.mem_of_getElem? (i := 443) (by decide +kernel)⟩
theorem lw_p15 : lw_okq (⟨"BagViews", "tableAt", "(I)LBagViews$Relation;"⟩, 2) := ⟨⟨by decide +kernel, by decide +kernel⟩, List.mem_of_getElem? (i := 23) (by decide +kernel), List.mem_of_getElem? (i := 625) (by decide +kernel), List.mem_of_getElem? (i := 626) (by decide +kernel)⟩
def lw_privs_1 : List (MethodName × Nat) := [(⟨"BagViews", "placeAt", "(I)LBagViews$Relation;"⟩, 2), (⟨"java/lang/Throwable", "fillInStackTrace", "(I)Ljava/lang/Throwable;"⟩, 6), (⟨"BagViews", "relationAt", "(I)LBagViews$Relation;"⟩, 2), (⟨"BagViews$Bag", "placeBehind", "([I)I"⟩, 3), (⟨"BagViews$Bag", "compareRow", "(I[II)I"⟩, 3), (⟨"BagViews$Bag", "isAt", "(I[I)Z"⟩, 3), (⟨"BagViews$Bag", "setTimes", "(IJ)Z"⟩, 3), (⟨"BagViews$Bag", "remove", "(I)V"⟩, 3), (⟨"BagViews$Bag", "insert", "(I[IJ)Z"⟩, 3), (⟨"BagViews$Group", "isFirst", "(LBagViews$Bag;I)Z"⟩, 7), (⟨"BagViews$Group", "isTogether", "(LBagViews$Bag;II)Z"⟩, 7), (⟨"BagViews$Group", "valueFrom", "(LBagViews$Bag;I)I"⟩, 7), (⟨"BagViews$Group", "withRow", "(III)I"⟩, 7), (⟨"BagViews$Join", "readPair", "(LBagViews$Bag;ILBagViews$Bag;I)V"⟩, 6), (⟨"BagViews$Selection", "holds", "(II)Z"⟩, 8), (⟨"BagViews", "tableAt", "(I)LBagViews$Relation;"⟩, 2)]
theorem lw_r1 : ∀ q ∈ lw_privs_1, lw_okq q := List.forall_mem_cons.mpr ⟨lw_p0, List.forall_mem_cons.mpr ⟨lw_p1, List.forall_mem_cons.mpr ⟨lw_p2, List.forall_mem_cons.mpr ⟨lw_p3, List.forall_mem_cons.mpr ⟨lw_p4, List.forall_mem_cons.mpr ⟨lw_p5, List.forall_mem_cons.mpr ⟨lw_p6, List.forall_mem_cons.mpr ⟨lw_p7, List.forall_mem_cons.mpr ⟨lw_p8, List.forall_mem_cons.mpr ⟨lw_p9, List.forall_mem_cons.mpr ⟨lw_p10, List.forall_mem_cons.mpr ⟨lw_p11, List.forall_mem_cons.mpr ⟨lw_p12, List.forall_mem_cons.mpr ⟨lw_p13, List.forall_mem_cons.mpr ⟨lw_p14, List.forall_mem_cons.mpr ⟨lw_p15, fun _ h => absurd h List.not_mem_nil⟩⟩⟩⟩⟩⟩⟩⟩⟩⟩⟩⟩⟩⟩⟩⟩
theorem lw_p16 : lw_okq (⟨"BagViews", "tell", "(LBagViews$Relation;IIII)V"⟩, 2) := ⟨⟨by decide +kernel, by decide +kernel⟩, List.mem_of_getElem? (i := 23) (by decide +kernel), List.mem_of_getElem? (i := 633) (by decide +kernel), List.mem_of_getElem? (i := 634) (by decide +kernel)⟩
theorem lw_p17 : lw_okq (⟨"BagViews", "viewsFit", "(LBagViews$Relation;)Z"⟩, 2) := ⟨⟨by decide +kernel, by decide +kernel⟩, List.mem_of_getElem? (i := 23) (by decide +kernel), List.mem_of_getElem? (i := 641) (by decide +kernel), List.mem_of_getElem? (i := 642) (by decide +kernel)⟩
theorem lw_p18 : lw_okq (⟨"BagViews", "takeOver", "(Z)V"⟩, 2) := ⟨⟨by decide +kernel, by decide +kernel⟩, List.mem_of_getElem? (i := 23) (by decide +kernel), List.mem_of_getElem? (i := 668) (by decide +kernel), List.mem_of_getElem? (i := 669) (by decide +kernel)⟩
theorem lw_p19 : lw_okq (⟨"BagViewsModel", "enter", "(IIIII)V"⟩, 18) := ⟨⟨by decide +kernel, by decide +kernel⟩, List.mem_of_getElem? (i := 744) (by decide +kernel), List.mem_of_getElem? (i := 817) (by decide +kernel), List.mem_of_getElem? (i := 818) (by decide +kernel)⟩
theorem lw_p20 : lw_okq (⟨"BagViewsModel", "isColumn", "(II)Z"⟩, 18) := ⟨⟨by decide +kernel, by decide +kernel⟩, List.mem_of_getElem? (i := 744) (by decide +kernel), List.mem_of_getElem? (i := 825) (by decide +kernel), List.mem_of_getElem? (i := 826) (by decide +kernel)⟩
theorem lw_p21 : lw_okq (⟨"BagViewsModel", "is", "(I)Z"⟩, 18) := ⟨⟨by decide +kernel, by decide +kernel⟩, List.mem_of_getElem? (i := 744) (by decide +kernel), List.mem_of_getElem? (i := 829) (by decide +kernel), List.mem_of_getElem? (i := 830) (by decide +kernel)⟩
theorem lw_p22 : lw_okq (⟨"BagViewsModel", "view", "(IIIII)V"⟩, 18) := ⟨⟨by decide +kernel, by decide +kernel⟩, List.mem_of_getElem? (i := 744) (by decide +kernel), List.mem_of_getElem? (i := 833) (by decide +kernel), List.mem_of_getElem? (i := 834) (by decide +kernel)⟩
theorem lw_p23 : lw_okq (⟨"BagViewsModel", "begin", "()V"⟩, 18) := ⟨⟨by decide +kernel, by decide +kernel⟩, List.mem_of_getElem? (i := 744) (by decide +kernel), List.mem_of_getElem? (i := 837) (by decide +kernel), List.mem_of_getElem? (i := 838) (by decide +kernel)⟩
theorem lw_p24 : lw_okq (⟨"BagViewsModel", "make", "(I)V"⟩, 18) := ⟨⟨by decide +kernel, by decide +kernel⟩, List.mem_of_getElem? (i := 744) (by decide +kernel), List.mem_of_getElem? (i := 841) (by decide +kernel), List.mem_of_getElem? (i := 842) (by decide +kernel)⟩
theorem lw_p25 : lw_okq (⟨"BagViewsModel", "makeJoin", "(I)V"⟩, 18) := ⟨⟨by decide +kernel, by decide +kernel⟩, List.mem_of_getElem? (i := 744) (by decide +kernel), List.mem_of_getElem? (i := 845) (by decide +kernel), List.mem_of_getElem? (i := 846) (by decide +kernel)⟩
theorem lw_p26 : lw_okq (⟨"BagViewsModel", "cellOf", "(III)I"⟩, 18) := ⟨⟨by decide +kernel, by decide +kernel⟩, List.mem_of_getElem? (i := 744) (by decide +kernel), List.mem_of_getElem? (i := 849) (by decide +kernel), List.mem_of_getElem? (i := 850) (by decide +kernel)⟩
theorem lw_p27 : lw_okq (⟨"BagViewsModel", "timesOf", "(II)J"⟩, 18) := ⟨⟨by decide +kernel, by decide +kernel⟩, List.mem_of_getElem? (i := 744) (by decide +kernel), List.mem_of_getElem? (i := 853) (by decide +kernel), List.mem_of_getElem? (i := 854) (by decide +kernel)⟩
theorem lw_p28 : lw_okq (⟨"BagViewsModel", "add", "(IJ)V"⟩, 18) := ⟨⟨by decide +kernel, by decide +kernel⟩, List.mem_of_getElem? (i := 744) (by decide +kernel), List.mem_of_getElem? (i := 857) (by decide +kernel), List.mem_of_getElem? (i := 858) (by decide +kernel)⟩
theorem lw_p29 : lw_okq (⟨"BagViewsModel", "place", "(I)I"⟩, 18) := ⟨⟨by decide +kernel, by decide +kernel⟩, List.mem_of_getElem? (i := 744) (by decide +kernel), List.mem_of_getElem? (i := 861) (by decide +kernel), List.mem_of_getElem? (i := 862) (by decide +kernel)⟩
theorem lw_p30 : lw_okq (⟨"BagViewsModel", "isAt", "(II)Z"⟩, 18) := ⟨⟨by decide +kernel, by decide +kernel⟩, List.mem_of_getElem? (i := 744) (by decide +kernel), List.mem_of_getElem? (i := 865) (by decide +kernel), List.mem_of_getElem? (i := 866) (by decide +kernel)⟩
theorem lw_p31 : lw_okq (⟨"BagViewsModel", "makeGroups", "(I)V"⟩, 18) := ⟨⟨by decide +kernel, by decide +kernel⟩, List.mem_of_getElem? (i := 744) (by decide +kernel), List.mem_of_getElem? (i := 870) (by decide +kernel), List.mem_of_getElem? (i := 871) (by decide +kernel)⟩
def lw_privs_2 : List (MethodName × Nat) := [(⟨"BagViews", "tell", "(LBagViews$Relation;IIII)V"⟩, 2), (⟨"BagViews", "viewsFit", "(LBagViews$Relation;)Z"⟩, 2), (⟨"BagViews", "takeOver", "(Z)V"⟩, 2), (⟨"BagViewsModel", "enter", "(IIIII)V"⟩, 18), (⟨"BagViewsModel", "isColumn", "(II)Z"⟩, 18), (⟨"BagViewsModel", "is", "(I)Z"⟩, 18), (⟨"BagViewsModel", "view", "(IIIII)V"⟩, 18), (⟨"BagViewsModel", "begin", "()V"⟩, 18), (⟨"BagViewsModel", "make", "(I)V"⟩, 18), (⟨"BagViewsModel", "makeJoin", "(I)V"⟩, 18), (⟨"BagViewsModel", "cellOf", "(III)I"⟩, 18), (⟨"BagViewsModel", "timesOf", "(II)J"⟩, 18), (⟨"BagViewsModel", "add", "(IJ)V"⟩, 18), (⟨"BagViewsModel", "place", "(I)I"⟩, 18), (⟨"BagViewsModel", "isAt", "(II)Z"⟩, 18), (⟨"BagViewsModel", "makeGroups", "(I)V"⟩, 18)]
theorem lw_r2 : ∀ q ∈ lw_privs_2, lw_okq q := List.forall_mem_cons.mpr ⟨lw_p16, List.forall_mem_cons.mpr ⟨lw_p17, List.forall_mem_cons.mpr ⟨lw_p18, List.forall_mem_cons.mpr ⟨lw_p19, List.forall_mem_cons.mpr ⟨lw_p20, List.forall_mem_cons.mpr ⟨lw_p21, List.forall_mem_cons.mpr ⟨lw_p22, List.forall_mem_cons.mpr ⟨lw_p23, List.forall_mem_cons.mpr ⟨lw_p24, List.forall_mem_cons.mpr ⟨lw_p25, List.forall_mem_cons.mpr ⟨lw_p26, List.forall_mem_cons.mpr ⟨lw_p27, List.forall_mem_cons.mpr ⟨lw_p28, List.forall_mem_cons.mpr ⟨lw_p29, List.forall_mem_cons.mpr ⟨lw_p30, List.forall_mem_cons.mpr ⟨lw_p31, fun _ h => absurd h List.not_mem_nil⟩⟩⟩⟩⟩⟩⟩⟩⟩⟩⟩⟩⟩⟩⟩⟩
theorem lw_p32 : lw_okq (⟨"BagViewsModel", "isSameGroup", "(IIII)Z"⟩, 18) := ⟨⟨by decide +kernel, by decide +kernel⟩, List.mem_of_getElem? (i := 744) (by decide +kernel), List.mem_of_getElem? (i := 874) (by decide +kernel), List.mem_of_getElem? (i := 875) (by decide +kernel)⟩
theorem lw_p33 : lw_okq (⟨"BagViewsModel", "makeRow", "(III)V"⟩, 18) := ⟨⟨by decide +kernel, by decide +kernel⟩, List.mem_of_getElem? (i := 744) (by decide +kernel), List.mem_of_getElem? (i := 878) (by decide +kernel), List.mem_of_getElem? (i := 879) (by decide +kernel)⟩
theorem lw_p34 : lw_okq (⟨"BagViewsModel", "take", "(II)V"⟩, 18) := ⟨⟨by decide +kernel, by decide +kernel⟩, List.mem_of_getElem? (i := 744) (by decide +kernel), List.mem_of_getElem? (i := 882) (by decide +kernel), List.mem_of_getElem? (i := 883) (by decide +kernel)⟩
theorem lw_p35 : lw_okq (⟨"BagViewsModel", "become", "()V"⟩, 18) := ⟨⟨by decide +kernel, by decide +kernel⟩, List.mem_of_getElem? (i := 744) (by decide +kernel), List.mem_of_getElem? (i := 889) (by decide +kernel), List.mem_of_getElem? (i := 890) (by decide +kernel)⟩
theorem lw_p36 : lw_okq (⟨"BagViewsModel", "leave", "(I)V"⟩, 18) := ⟨⟨by decide +kernel, by decide +kernel⟩, List.mem_of_getElem? (i := 744) (by decide +kernel), List.mem_of_getElem? (i := 893) (by decide +kernel), List.mem_of_getElem? (i := 894) (by decide +kernel)⟩
theorem lw_p37 : lw_okq (⟨"BagViewsModel", "setRow", "(IIII)V"⟩, 18) := ⟨⟨by decide +kernel, by decide +kernel⟩, List.mem_of_getElem? (i := 744) (by decide +kernel), List.mem_of_getElem? (i := 925) (by decide +kernel), List.mem_of_getElem? (i := 926) (by decide +kernel)⟩
theorem lw_p38 : lw_okq (⟨"BagViewsModel", "timesHere", "(I)I"⟩, 18) := ⟨⟨by decide +kernel, by decide +kernel⟩, List.mem_of_getElem? (i := 744) (by decide +kernel), List.mem_of_getElem? (i := 931) (by decide +kernel), List.mem_of_getElem? (i := 932) (by decide +kernel)⟩
theorem lw_p39 : lw_okq (⟨"BagViewsModel", "change", "(II)V"⟩, 18) := ⟨⟨by decide +kernel, by decide +kernel⟩, List.mem_of_getElem? (i := 744) (by decide +kernel), List.mem_of_getElem? (i := 935) (by decide +kernel), List.mem_of_getElem? (i := 936) (by decide +kernel)⟩
theorem lw_p40 : lw_okq (⟨"BagViewsModel", "cut", "(II)V"⟩, 18) := ⟨⟨by decide +kernel, by decide +kernel⟩, List.mem_of_getElem? (i := 744) (by decide +kernel), List.mem_of_getElem? (i := 939) (by decide +kernel), List.mem_of_getElem? (i := 940) (by decide +kernel)⟩
theorem lw_p41 : lw_okq (⟨"BagViewsModel", "settle", "()Z"⟩, 18) := ⟨⟨by decide +kernel, by decide +kernel⟩, List.mem_of_getElem? (i := 744) (by decide +kernel), List.mem_of_getElem? (i := 943) (by decide +kernel), List.mem_of_getElem? (i := 944) (by decide +kernel)⟩
theorem lw_p42 : lw_okq (⟨"BagViewsModel", "difference", "(I)I"⟩, 18) := ⟨⟨by decide +kernel, by decide +kernel⟩, List.mem_of_getElem? (i := 744) (by decide +kernel), List.mem_of_getElem? (i := 947) (by decide +kernel), List.mem_of_getElem? (i := 948) (by decide +kernel)⟩
def lw_privs_3 : List (MethodName × Nat) := [(⟨"BagViewsModel", "isSameGroup", "(IIII)Z"⟩, 18), (⟨"BagViewsModel", "makeRow", "(III)V"⟩, 18), (⟨"BagViewsModel", "take", "(II)V"⟩, 18), (⟨"BagViewsModel", "become", "()V"⟩, 18), (⟨"BagViewsModel", "leave", "(I)V"⟩, 18), (⟨"BagViewsModel", "setRow", "(IIII)V"⟩, 18), (⟨"BagViewsModel", "timesHere", "(I)I"⟩, 18), (⟨"BagViewsModel", "change", "(II)V"⟩, 18), (⟨"BagViewsModel", "cut", "(II)V"⟩, 18), (⟨"BagViewsModel", "settle", "()Z"⟩, 18), (⟨"BagViewsModel", "difference", "(I)I"⟩, 18)]
theorem lw_r3 : ∀ q ∈ lw_privs_3, lw_okq q := List.forall_mem_cons.mpr ⟨lw_p32, List.forall_mem_cons.mpr ⟨lw_p33, List.forall_mem_cons.mpr ⟨lw_p34, List.forall_mem_cons.mpr ⟨lw_p35, List.forall_mem_cons.mpr ⟨lw_p36, List.forall_mem_cons.mpr ⟨lw_p37, List.forall_mem_cons.mpr ⟨lw_p38, List.forall_mem_cons.mpr ⟨lw_p39, List.forall_mem_cons.mpr ⟨lw_p40, List.forall_mem_cons.mpr ⟨lw_p41, List.forall_mem_cons.mpr ⟨lw_p42, fun _ h => absurd h List.not_mem_nil⟩⟩⟩⟩⟩⟩⟩⟩⟩⟩⟩
def lw_privs : List (MethodName × Nat) := lw_privs_1 ++ (lw_privs_2 ++ (lw_privs_3))
def lw_tbl : List Cond := k2_sels lw_privs ++ tables_1
theorem lw_privs_ok : ∀ q ∈ lw_privs, lw_okq q := by
  show ∀ q ∈ lw_privs_1 ++ (lw_privs_2 ++ (lw_privs_3)), lw_okq q
  exact List.forall_mem_append.mpr ⟨lw_r1, List.forall_mem_append.mpr ⟨lw_r2, lw_r3⟩⟩
/-! ===== BEGIN words of one list among another's, by their places ===== -/
theorem goodIn_r {big : List Cond} (ws : List Cond) (ps : List Nat) (hp : ws = ps.filterMap (fun i => big[i]?)) (h : ws.all goodWord = true) : GoodIn big ws := by
  intro w hw
  have h1 := List.all_eq_true.mp h w hw
  rw [hp] at hw
  obtain ⟨i, -, hi⟩ := List.mem_filterMap.mp hw
  have hm : w ∈ big := by first | exact List.mem_of_getElem? hi | exact List.getElem?_mem hi
  exact ⟨hm, good_of_word h1⟩
theorem goodIn_app {big a b : List Cond} (ha : GoodIn big a) (hb : GoodIn big b) : GoodIn big (a ++ b) := fun w h => (List.mem_append.mp h).elim (ha w) (hb w)
theorem goodIn_ca {big a b : List Cond} {c : Cond} (ha : GoodIn big (c :: a)) (hb : GoodIn big b) : GoodIn big (c :: (a ++ b)) := fun w h => (List.mem_cons.mp h).elim (fun e => ha w (List.mem_cons.mpr (Or.inl e))) (fun h => (List.mem_append.mp h).elim (fun h => ha w (List.mem_cons.mpr (Or.inr h))) (hb w))
theorem goodIn_sub {big ws : List Cond} (hm : ∀ w ∈ ws, w ∈ big) (h : ws.all goodWord = true) : GoodIn big ws := fun w hw => ⟨hm w hw, good_of_word (List.all_eq_true.mp h w hw)⟩
/-! ===== END ===== -/

/-! ===== BEGIN exceptions that leave a method, and their catching by the caller (launches without stack traces) ===== -/
section VXA
/-! The laws vx_back, vx_callV, vx_callS, vx_callSW, vx_throw0, vx_throwS follow proofs of the library, with one case more: JvmDerived/Free/Laws.lean (Back.of_free), Shelf42/LK1.lean (callV, callS), Shelf/KitTraced.lean (throwNew0V, throwNewS). -/
/-- where a method has thrown q: the class by its name, the cell, what was written, the world -/
def vx_T (XC : String → State → State → Prop) (st : State) (q : Addr) (t : State) (mc ms : Nat) (free : Addr → Prop) : Prop :=
  ∃ (E : String) (ce : Cell) (L : List Loc), XC E st t ∧ t.heap[q]? = some ce ∧ ce.vm = .none ∧ st.vm.findClass E = some ce.cls ∧ st.WarmedH t.vm ∧ st.sameButNew ({ t with vm := st.vm } : State) L mc ms ∧ ∀ z ∈ L, free z.base
def vx_Q (Qc : Array Value → State → Outcome → State → Prop) (XC : String → State → State → Prop) (mc ms : Nat) (free : Addr → Prop) : Array Value → State → Outcome → State → Prop := fun a st o t =>
  (Qc a st o t ∧ ∃ L, FrameEnd st o t L mc ms ∧ ∀ q ∈ L, free q.base) ∨ ∃ q, o = .threw q ∧ vx_T XC st q t mc ms free
/-- a callee that returns or throws -/
def vx_Met (l : Launch) (y : MethodName) (ws : List Cond) (rm : Room) (Pc : Array Value → State → Prop) (Qc : Array Value → State → Outcome → State → Prop) (XC : String → State → State → Prop) (mc ms : Nat) (free : Addr → Prop) : Prop :=
  MetFree l y (headSpec ws rm) Pc (fun _ _ _ _ _ => True) (vx_Q Qc XC mc ms free)
def vx_Post (XC : String → State → State → Prop) (mc ms : Nat) (free : Addr → Prop) : Pt → Array Value → Addr → Pt → Prop := fun A a q B =>
  ∃ (g : JFrame) (mk : MethodId) (t : State) (L : List Loc) (E : String) (ce : Cell), B.U.heap = t.heap ∧ B.U.vm = t.vm ∧ XC E (A.U.calling g mk a) t ∧ t.heap[q]? = some ce ∧ ce.vm = .none ∧ A.U.vm.findClass E = some ce.cls ∧ B.locs = A.locs ++ L ∧ (∀ z ∈ L, free z.base) ∧ B.cells = A.cells + mc ∧ B.slots = A.slots + ms
def vx_Back (l : Launch) (R : Room) (p : Program) (e : Env) (below : List Frame) (s : State) (sargs : Array Value) (y : MethodName) (len W9 : Nat)
    (Pre : Pt → Array Value → Prop) (Post : Pt → Array Value → Option Value → Pt → Prop) (PostX : Pt → Array Value → Addr → Pt → Prop) : Prop :=
  ∀ (m : MethodId) (meth : Method) (c : Code) (A : Pt) (g : JFrame) (ig : Instr) (mk : MethodId) (a : Array Value),
    Stand p l e R s m sargs below meth c A.U A.locs A.cells A.slots → g.method = m → g.locals.size = c.maxLocals → decode c.code g.pc = .ok (ig, len) →
    2 * g.monitorRoom + (g.stack.map fun v => v.category).sum ≤ W9 → A.U.methodNamed? y = some mk → Pre A a →
    (∃ (v : Option Value) (B : Pt), Stand p l e R s m sargs below meth c B.U B.locs B.cells B.slots ∧ Post A a v B ∧
      Steps p.tables e below (doInvoke e (A.U.setTop g) [] mk a).1 (B.U.setTop { g with pc := g.pc + len, stack := v.toList ++ g.stack })) ∨
    (∃ (q : Addr) (B : Pt), Stand p l e R s m sargs below meth c B.U B.locs B.cells B.slots ∧ PostX A a q B ∧
      Steps p.tables e below (doInvoke e (A.U.setTop g) [] mk a).1 ((B.U.setTop g).pushFrame (.throwing q)))
section Payer
variable {l : Launch} {R : Room} {p : Program} {e : Env} {below : List Frame} {s : State} {sargs : Array Value} {y : MethodName} {len W9 : Nat}
theorem vx_back {ws : List Cond} {rm : Room} {Pc : Array Value → State → Prop} {Qc : Array Value → State → Outcome → State → Prop} {XC : String → State → State → Prop} {mc ms : Nat} {free : Addr → Prop} {bytes : ByteArray} {maxL : Nat} {ret : Option FieldType}
    (hM : vx_Met l y ws rm Pc Qc XC mc ms free) (hblind : FrameBlind Pc) (hrc : rm.cells = mc) (hrs : rm.slots = ms)
    (hframes : rm.frames + 1 ≤ R.frames) (hlocals : W9 + (maxL + 11) + rm.locals ≤ R.locals)
    (hws : ∀ w ∈ ws, ∀ a' U, s.WarmedH U.vm → w.before a' U = true) (hcode : Cond.code y bytes maxL ret ∈ ws) (hinit : ∀ a' U, s.WarmedH U.vm → (Cond.initialized y.cls).before a' U = true) :
    vx_Back l R p e below s sargs y len W9 (PreOf R mc ms Pc) (PostOf Qc mc ms free) (vx_Post XC mc ms free) := by
  intro m meth c A g ig mk a X hg hsize hdg hW hn hp
  have h1 : (headSpec ws rm).pre.before a A.U = true := atoms_intro fun w hw => hws w hw _ _ X.warmed
  have h2 : (Cond.code y bytes maxL ret).before a A.U = true := hws _ hcode _ _ X.warmed
  have h3 : (Cond.initialized y.cls).before a A.U = true := hinit _ _ X.warmed
  have h4 : A.cells + (headSpec ws rm).room.cells ≤ R.cells := by rw [show (headSpec ws rm).room.cells = mc from hrc]; exact hp.1
  have h5 : A.slots + (headSpec ws rm).room.slots ≤ R.slots := by rw [show (headSpec ws rm).room.slots = ms from hrs]; exact hp.2.1
  have hPc : Pc a (A.U.calling g mk a) := hblind _ _ _ _ hp.2.2
  obtain ⟨U, Ls, c0, s0⟩ := A
  dsimp only [Pt.U, Pt.locs, Pt.cells, Pt.slots] at h1 h2 h3 h4 h5 X hn hPc ⊢
  obtain ⟨methY, cY, hmY, hcY, -, hlY, -, -, -, -⟩ := Cond.code_spec hn h2
  obtain ⟨kY, hkY, -⟩ := className_of_methodNamed hn
  have hinitY : kY.init = .initialized := Cond.initialized_spec (findClass_of_methodNamed hn) hkY h3
  have h : At U g.method c below := by rw [hg]; exact X.here
  have hlocals9 : W9 + (maxL + 11) + (headSpec ws rm).room.locals ≤ R.locals := hlocals
  have happ : (headSpec ws rm).appliesLoose y e.platform (U.calling g mk a) = true :=
    Spec.appliesLoose_calling (g := g) h hdg hn hkY hinitY
      (X.room_calling (g := g) (R' := (headSpec ws rm).room) hsize hmY hcY hframes (by rw [hlY]; omega) h4 h5) h1
  obtain ⟨mid, hmid⟩ := h.above
  have hfr : (U.setTop g).frames = (.java g :: mid) ++ below := by rw [State.frames_setTop' g h.top, hmid]; rfl
  obtain ⟨o, s₂, hsteps, -, hend, hq⟩ := Steps.callFree hM p X.admits X.cas X.clock (acts := []) hfr happ hPc trivial
  have hq' : vx_Q Qc XC mc ms free a (U.calling g mk a) o s₂ := hq
  rw [State.frames_setTop' g h.top] at hend
  obtain ⟨g₀, hg0⟩ := Option.isSome_iff_exists.mp h.top
  obtain ⟨r, hr⟩ := State.topJava?_eq_some.mp hg0
  have hr' : (({ U with heap := s₂.heap, slotsUsed := s₂.slotsUsed } : State).setVm s₂.vm).frames = .java g₀ :: r := hr
  rcases hq' with ⟨hqc, L, hfe, hL⟩ | ⟨q, rfl, E, ce, L, hx, hce, hcv, hcl, hW₂, hsm, hL⟩
  · obtain ⟨⟨v, rfl⟩, hW₂, e2, q2, q3, q4, q5, q6⟩ := id hfe
    have e3 : s₂ = ({ (U.calling g mk a).setFrames s₂.frames with heap := s₂.heap, slotsUsed := s₂.slotsUsed } : State).setVm s₂.vm := by
      have : s₂ = ({ s₂ with vm := (U.calling g mk a).vm } : State).setVm s₂.vm := rfl
      rw [e2] at this
      exact this
    obtain ⟨c₂, i₂, len₂, hc₂, hd₂, hf₂⟩ := hend
    have hW' : U.WarmedH s₂.vm := hW₂
    have hcc : c₂ = c := by
      have h1 : s₂.code? g.method = U.code? g.method := by
        rw [State.code?_eq, State.code?_eq, hW'.alike.method?]
      exact Option.some.inj (hc₂.symm.trans (h1.trans h.code))
    subst hcc
    have hlen : len₂ = len := by rw [hdg] at hd₂; cases hd₂; rfl
    subst hlen
    have hs₂ : s₂ = (({ U with heap := s₂.heap, slotsUsed := s₂.slotsUsed } : State).setVm s₂.vm).setTop { g with pc := g.pc + len₂, stack := v.toList ++ g.stack } := by
      refine e3.trans ?_
      rw [hf₂, State.calling_eq h.top, State.setFrames_setFrames, State.setTop_of_frames _ hr', hr]
      rfl
    have hsame : U.sameButNew ({ U with heap := s₂.heap, slotsUsed := s₂.slotsUsed } : State) L mc ms := by
      refine ⟨?_, q2, q3, q4, q5, q6⟩
      obtain ⟨t, ht, -⟩ := State.frames_cons hr
      show ({ U with heap := s₂.heap, slotsUsed := s₂.slotsUsed } : State) = { U.setFrames U.frames with heap := s₂.heap, slotsUsed := s₂.slotsUsed }
      rw [State.setFrames_self ht]
    subst hg
    refine Or.inl ⟨v, ⟨(({ U with heap := s₂.heap, slotsUsed := s₂.slotsUsed } : State).setVm s₂.vm), Ls ++ L, c0 + mc, s0 + ms⟩,
      ⟨X.admits, X.cas, X.clock, X.frames, X.room, X.hears, X.method, X.code, (X.here.setHeapUsed s₂.heap s₂.slotsUsed).setVm hW'.alike, X.tail, State.WarmedH.trans X.warmed hW', X.limits, X.bytes, X.same.trans (hsame.setVm s.vm)⟩,
      ⟨g, mk, s₂, L, rfl, rfl, hqc, rfl, hL, rfl, rfl⟩, ?_⟩
    show Steps p.tables e below _ ((({ U with heap := s₂.heap, slotsUsed := s₂.slotsUsed } : State).setVm s₂.vm).setTop { g with pc := g.pc + len₂, stack := v.toList ++ g.stack })
    rw [← hs₂]
    exact hsteps
  · obtain ⟨e2, q2, q3, q4, q5, q6⟩ := id hsm
    have e3 : s₂ = ({ (U.calling g mk a).setFrames s₂.frames with heap := s₂.heap, slotsUsed := s₂.slotsUsed } : State).setVm s₂.vm := by
      have : s₂ = ({ s₂ with vm := (U.calling g mk a).vm } : State).setVm s₂.vm := rfl
      rw [e2] at this
      exact this
    have hf₂ : s₂.frames = .throwing q :: .java g :: U.frames.tail := hend
    have hW' : U.WarmedH s₂.vm := hW₂
    have hs₂ : s₂ = ((({ U with heap := s₂.heap, slotsUsed := s₂.slotsUsed } : State).setVm s₂.vm).setTop g).pushFrame (.throwing q) := by
      refine e3.trans ?_
      rw [hf₂, State.calling_eq h.top, State.setFrames_setFrames, State.pushFrame, State.frames_setTop _ hr', State.setTop_of_frames _ hr', State.setFrames_setFrames, hr]
      rfl
    have hsame : U.sameButNew ({ U with heap := s₂.heap, slotsUsed := s₂.slotsUsed } : State) L mc ms := by
      refine ⟨?_, q2, q3, q4, q5, q6⟩
      obtain ⟨t, ht, -⟩ := State.frames_cons hr
      show ({ U with heap := s₂.heap, slotsUsed := s₂.slotsUsed } : State) = { U.setFrames U.frames with heap := s₂.heap, slotsUsed := s₂.slotsUsed }
      rw [State.setFrames_self ht]
    subst hg
    refine Or.inr ⟨q, ⟨(({ U with heap := s₂.heap, slotsUsed := s₂.slotsUsed } : State).setVm s₂.vm), Ls ++ L, c0 + mc, s0 + ms⟩,
      ⟨X.admits, X.cas, X.clock, X.frames, X.room, X.hears, X.method, X.code, (X.here.setHeapUsed s₂.heap s₂.slotsUsed).setVm hW'.alike, X.tail, State.WarmedH.trans X.warmed hW', X.limits, X.bytes, X.same.trans (hsame.setVm s.vm)⟩,
      ⟨g, mk, s₂, L, E, ce, rfl, rfl, hx, hce, hcv, hcl, rfl, hL, rfl, rfl⟩, ?_⟩
    show Steps p.tables e below _ (((({ U with heap := s₂.heap, slotsUsed := s₂.slotsUsed } : State).setVm s₂.vm).setTop g).pushFrame (.throwing q))
    rw [← hs₂]
    exact hsteps
end Payer
section Calls
variable {p : Program} {l : Launch} {e : Env} {R : Room} {s : State} {m : MethodId} {args : Array Value} {below : List Frame} {meth : Method} {c : Code} {T : State} {locs : List Loc} {cells slots : Nat}
theorem vx_callV (X : Stand p l e R s m args below meth c T locs cells slots) (hexec : p.tables.exec = Jvm.exec) {own C : String} {index : Nat} {y : MethodName} {bytes : ByteArray} {maxL : Nat} {ret : Option FieldType}
    (hown : s.vm.findClass own = some m.cls) (hlink : (Cond.methodLink own index y).before args s = true) (hinst : (Cond.instanceMethod y).before args s = true) (hsel : (Cond.selects C y y).before args s = true)
    (hcode : (Cond.code y bytes maxL ret).before args s = true) (hy : y.cls ≠ "java/lang/invoke/MethodHandle" ∧ y.cls ≠ "java/lang/invoke/VarHandle")
    {W9 : Nat} {Pre : Pt → Array Value → Prop} {Post : Pt → Array Value → Option Value → Pt → Prop} {PostX : Pt → Array Value → Addr → Pt → Prop} (hK : vx_Back l R p e below s args y 3 W9 Pre Post PostX)
    {b : Addr} {cellB : Cell} (hcell : T.heap[b]? = some cellB) (hobj : cellB.vm.isStatics = false) (hcls : s.vm.findClass C = some cellB.cls)
    {g : JFrame} (hg : g.method = m) (hsize : g.locals.size = c.maxLocals) {argsL rest : List Value} (hlen : ∀ sig, parseMethodDescriptor y.desc = some sig → argsL.length = sig.parameters.length)
    (hstack : g.stack = argsL.reverse ++ .ref b :: rest) (hW : 2 * g.monitorRoom + (rest.map fun v => v.category).sum ≤ W9) (hdg : decode c.code g.pc = .ok (.invokevirtual index, 3))
    (hpre : ∀ vm₁, s.WarmedH vm₁ → Pre ⟨T.setVm vm₁, locs, cells, slots⟩ (Value.ref b :: argsL).toArray) :
    (∃ (v : Option Value) (vm₁ : Vm) (B : Pt), s.WarmedH vm₁ ∧ Stand p l e R s m args below meth c B.U B.locs B.cells B.slots ∧ Post ⟨T.setVm vm₁, locs, cells, slots⟩ (Value.ref b :: argsL).toArray v B ∧
      ∀ target, Steps p.tables e below (B.U.setTop { g with pc := g.pc + 3, stack := v.toList ++ rest }) target → Steps p.tables e below (T.setTop g) target) ∨
    (∃ (q : Addr) (vm₁ : Vm) (B : Pt), s.WarmedH vm₁ ∧ Stand p l e R s m args below meth c B.U B.locs B.cells B.slots ∧ PostX ⟨T.setVm vm₁, locs, cells, slots⟩ (Value.ref b :: argsL).toArray q B ∧
      Steps p.tables e below (T.setTop g) ((B.U.setTop { g with stack := rest }).pushFrame (.throwing q))) := by
  obtain ⟨mk, methM, hnamed, hmethM, hstM, habM⟩ := Cond.instanceMethod_spec hinst
  obtain ⟨methM', cM, hmethM', -, -, -, -, -, -, hsigM⟩ := Cond.code_spec hnamed hcode
  cases hmethM.symm.trans hmethM'
  obtain ⟨c2, r2, m2, q1, q2, q3, q4, kP, hkP, hkPi⟩ := Cond.selects_spec hsel
  cases hcls.symm.trans q1
  cases (State.methodFound?_of_named hnamed hy).symm.trans q2
  cases hnamed.symm.trans q3
  have hselP : selectMethod e.platform s.vm cellB.cls mk = .method mk := by rw [Launch.admits_selectMethod X.admits]; exact q4
  obtain ⟨vm₁, X₁, hstep₁⟩ := X.invokevirtual hexec hown hlink hnamed hmethM hstM hkP hkPi hy (a := b) (cell := cellB) hcell
    (fun z h => by rw [h] at hobj; cases hobj) hselP hmethM habM hkP hkPi (g := g) hg (argsL := argsL) (rest := rest) (hlen _ hsigM) hstack hdg
  rcases hK m meth c ⟨T.setVm vm₁, locs, cells, slots⟩ { g with stack := rest } (.invokevirtual index) mk (Value.ref b :: argsL).toArray X₁ hg hsize hdg hW (X₁.named hnamed) (hpre vm₁ X₁.warmed) with ⟨v, B, X', hpost, hsteps⟩ | ⟨q, B, X', hpost, hsteps⟩
  · exact Or.inl ⟨v, vm₁, B, X₁.warmed, X', hpost, fun target h => hstep₁ _ fun acts => by rw [doInvoke_state]; exact hsteps.trans h⟩
  · exact Or.inr ⟨q, vm₁, B, X₁.warmed, X', hpost, hstep₁ _ fun acts => by rw [doInvoke_state]; exact hsteps⟩
theorem vx_callS (X : Stand p l e R s m args below meth c T locs cells slots) (hexec : p.tables.exec = Jvm.exec) {own : String} {index : Nat} {y : MethodName} {bytes : ByteArray} {maxL : Nat} {ret : Option FieldType}
    (hown : s.vm.findClass own = some m.cls) (hlink : (Cond.methodLink own index y).before args s = true) (hstat : (Cond.static y).before args s = true) (hinit : (Cond.initialized y.cls).before args s = true)
    (hcode : (Cond.code y bytes maxL ret).before args s = true) (hy : y.cls ≠ "java/lang/invoke/MethodHandle" ∧ y.cls ≠ "java/lang/invoke/VarHandle")
    {W9 : Nat} {Pre : Pt → Array Value → Prop} {Post : Pt → Array Value → Option Value → Pt → Prop} {PostX : Pt → Array Value → Addr → Pt → Prop} (hK : vx_Back l R p e below s args y 3 W9 Pre Post PostX)
    {g : JFrame} (hg : g.method = m) (hsize : g.locals.size = c.maxLocals) {argsL rest : List Value} (hlen : ∀ sig, parseMethodDescriptor y.desc = some sig → argsL.length = sig.parameters.length)
    (hstack : g.stack = argsL.reverse ++ rest) (hW : 2 * g.monitorRoom + (rest.map fun v => v.category).sum ≤ W9) (hdg : decode c.code g.pc = .ok (.invokestatic index, 3))
    (hpre : ∀ vm₁, s.WarmedH vm₁ → Pre ⟨T.setVm vm₁, locs, cells, slots⟩ argsL.toArray) :
    (∃ (v : Option Value) (vm₁ : Vm) (B : Pt), s.WarmedH vm₁ ∧ Stand p l e R s m args below meth c B.U B.locs B.cells B.slots ∧ Post ⟨T.setVm vm₁, locs, cells, slots⟩ argsL.toArray v B ∧
      ∀ target, Steps p.tables e below (B.U.setTop { g with pc := g.pc + 3, stack := v.toList ++ rest }) target → Steps p.tables e below (T.setTop g) target) ∨
    (∃ (q : Addr) (vm₁ : Vm) (B : Pt), s.WarmedH vm₁ ∧ Stand p l e R s m args below meth c B.U B.locs B.cells B.slots ∧ PostX ⟨T.setVm vm₁, locs, cells, slots⟩ argsL.toArray q B ∧
      Steps p.tables e below (T.setTop g) ((B.U.setTop { g with stack := rest }).pushFrame (.throwing q))) := by
  obtain ⟨mk, hnamed⟩ := Cond.code_named hcode
  obtain ⟨methM, cM, hmethM, -, -, -, -, -, -, hsigM⟩ := Cond.code_spec hnamed hcode
  have hstatic : methM.isStatic = true := Cond.static_spec hnamed hmethM hstat
  obtain ⟨kP, hkP, -⟩ := className_of_methodNamed hnamed
  have hinitP : kP.init = .initialized := Cond.initialized_spec (findClass_of_methodNamed hnamed) hkP hinit
  obtain ⟨vm₁, X₁, hstep₁⟩ := X.invokestatic hexec hown hlink hnamed hmethM hstatic hkP hinitP hy (g := g) hg (argsL := argsL) (rest := rest) (hlen _ hsigM) hstack hdg
  rcases hK m meth c ⟨T.setVm vm₁, locs, cells, slots⟩ { g with stack := rest } (.invokestatic index) mk argsL.toArray X₁ hg hsize hdg hW (X₁.named hnamed) (hpre vm₁ X₁.warmed) with ⟨v, B, X', hpost, hsteps⟩ | ⟨q, B, X', hpost, hsteps⟩
  · exact Or.inl ⟨v, vm₁, B, X₁.warmed, X', hpost, fun target h => hstep₁ _ fun acts => by rw [doInvoke_state]; exact hsteps.trans h⟩
  · exact Or.inr ⟨q, vm₁, B, X₁.warmed, X', hpost, hstep₁ _ fun acts => by rw [doInvoke_state]; exact hsteps⟩
end Calls
theorem vx_cls {s : State} {T : State} {vm₁ : Vm} {E : String} {k : ClassId} (hW : s.WarmedH vm₁) (h : (T.setVm vm₁).vm.findClass E = some k) : s.vm.findClass E = some k := by
  have h1 : vm₁.findClass E = some k := h
  rw [hW.alike.findClass] at h1
  exact h1
/-- the method's frame g, with q thrown over it -/
def vx_W (p : Program) (l : Launch) (e : Env) (R : Room) (s : State) (m : MethodId) (args : Array Value) (below : List Frame) (meth : Method) (c : Code) (H : Heap) (locs : List Loc) (cells slots : Nat) (Q : State → Prop) (g : JFrame) (q : Addr) : Prop :=
  ∀ T : State, T.heap = H → Stand p l e R s m args below meth c T locs cells slots → ∃ t, Steps p.tables e below ((T.setTop g).pushFrame (.throwing q)) t ∧ Q t
def vx_Run (p : Program) (l : Launch) (e : Env) (R : Room) (s : State) (m : MethodId) (args : Array Value) (below : List Frame) (meth : Method) (c : Code) (H : Heap) (locs : List Loc) (cells slots mc ms : Nat) (g : JFrame) (rest : List Value) (Qa : State → Outcome → State → Prop) (XC : String → State → State → Prop) (free : Addr → Prop) : Prop :=
  ∀ T : State, T.heap = H → Stand p l e R s m args below meth c T locs cells slots →
    (∃ (v : Option Value) (st₀ t T' : State) (L : List Loc), st₀.heap = H ∧ Stand p l e R s m args below meth c T' (locs ++ L) (cells + mc) (slots + ms) ∧ (∀ q ∈ L, free q.base) ∧ T'.heap = t.heap ∧ T'.vm = t.vm ∧ Qa st₀ (.returned v) t ∧
      Goes p e below T g T' { g with pc := g.pc + 3, stack := v.toList ++ rest }) ∨
    (∃ (q : Addr) (st₀ t T' : State) (L : List Loc) (E : String) (ce : Cell), st₀.heap = H ∧ Stand p l e R s m args below meth c T' (locs ++ L) (cells + mc) (slots + ms) ∧ (∀ z ∈ L, free z.base) ∧ T'.heap = t.heap ∧ T'.vm = t.vm ∧ XC E st₀ t ∧ t.heap[q]? = some ce ∧ ce.vm = .none ∧ s.vm.findClass E = some ce.cls ∧
      Steps p.tables e below (T.setTop g) ((T'.setTop { g with stack := rest }).pushFrame (.throwing q)))
def vx_X {S : Type} (px : S → Prop) (B : String → S → State → Prop) (A : Nat → Prop) : String → State → State → Prop := fun E st t => ∃ u : S, px u ∧ B E u t ∧ va_F A st t
section Runs
variable {p : Program} {l : Launch} {e : Env} {R : Room} {s : State} {m : MethodId} {args : Array Value} {below : List Frame} {meth : Method} {c : Code} {H : Heap} {locs : List Loc} {cells slots : Nat}
variable {y : MethodName} {bytes cc : ByteArray} {maxL nL mc ms n index : Nat} {ret : Option FieldType} {ws : List Cond} {rm : Room} {Pc : Array Value → State → Prop} {Qc : Array Value → State → Outcome → State → Prop} {XC : String → State → State → Prop} {free : Addr → Prop} {Ts : List Cond} {own C : String} {b : Addr} {As rest : List Value} {g : JFrame}
theorem vx_callBack (cb : CallB R s args own index y bytes maxL ret ws rm mc ms n) (hM : vx_Met l y ws rm Pc Qc XC mc ms free) (hbl : FrameBlind Pc) : vx_Back l R p e below s args y 3 8 (PreOf R mc ms Pc) (PostOf Qc mc ms free) (vx_Post XC mc ms free) := by
  obtain ⟨hrc, hrs, hfr, hlo, hws, hcw, -, hini, -⟩ := cb
  exact vx_back (bytes := bytes) (maxL := maxL) (ret := ret) hM hbl hrc hrs hfr hlo hws hcw (fun a' U hW => word_at hW (Or.inl (by first | rfl | simp [Cond.onTables, Cond.keeps, Cond.steady])) hini)
theorem vx_runV (S : CallFix p m c cc nL s args Ts own) (hM : vx_Met l y ws rm Pc Qc XC mc ms free) (cw : CallW R s args own C index y bytes maxL ret ws rm mc ms n) (hp : PreV s H C b Pc As)
    (hg : g.method = m) (hn : As.length = n) (hsize : g.locals.size = nL) (hstack : g.stack = As.reverse ++ .ref b :: rest) (hW : 2 * g.monitorRoom + (rest.map fun v => v.category).sum ≤ 8) (hdg : decode cc g.pc = .ok (.invokevirtual index, 3)) (hf : cells + mc ≤ R.cells ∧ slots + ms ≤ R.slots) :
    vx_Run p l e R s m args below meth c H locs cells slots mc ms g rest (Qc (Value.ref b :: As).toArray) XC free := by
  have hK : vx_Back l R p e below s args y 3 8 (PreOf R mc ms Pc) (PostOf Qc mc ms free) (vx_Post XC mc ms free) := vx_callBack cw.1 hM hp.1
  obtain ⟨⟨-, -, -, -, -, -, hcode, -, hy, hlen, hl⟩, hin, hse⟩ := cw
  obtain ⟨hx, hb, hml, ho, -⟩ := S
  obtain ⟨-, ⟨cellB, hcB, hoB, hclB⟩, hPc⟩ := hp
  intro T hT X
  rcases vx_callV X hx (C := C) (bytes := bytes) (maxL := maxL) (ret := ret) ho hl hin hse hcode hy hK (by rw [hT]; exact hcB) hoB hclB hg (hsize.trans hml.symm) (argsL := As) (rest := rest) (fun sig h => hn.trans (hlen sig h)) hstack hW (by rw [hb]; exact hdg)
    (fun vm₁ hW₁ => ⟨hf.1, hf.2, hPc (T.setVm vm₁) hT hW₁⟩) with ⟨v, vm₁, ⟨U', l2, c2, s2⟩, hW₁, X', ⟨g', mk, t, L, e1, e2, hq, h1, hL, h2, h3⟩, st⟩ | ⟨q, vm₁, ⟨U', l2, c2, s2⟩, hW₁, X', ⟨g', mk, t, L, E, ce, e1, e2, hq, hce, hcv, hcl, h1, hL, h2, h3⟩, st⟩
  · dsimp only [Pt.U, Pt.locs, Pt.cells, Pt.slots] at X' e1 e2 h1 h2 h3 st
    subst h1; subst h2; subst h3
    exact Or.inl ⟨v, (T.setVm vm₁).calling g' mk (Value.ref b :: As).toArray, t, U', L, hT, X', hL, e1, e2, hq, st⟩
  · dsimp only [Pt.U, Pt.locs, Pt.cells, Pt.slots] at X' e1 e2 h1 h2 h3 st hcl
    subst h1; subst h2; subst h3
    exact Or.inr ⟨q, (T.setVm vm₁).calling g' mk (Value.ref b :: As).toArray, t, U', L, E, ce, hT, X', hL, e1, e2, hq, hce, hcv, vx_cls hW₁ hcl, st⟩
theorem vx_runS (S : CallFix p m c cc nL s args Ts own) (hM : vx_Met l y ws rm Pc Qc XC mc ms free) (cw : CallB R s args own index y bytes maxL ret ws rm mc ms n ∧ (Cond.static y).before args s = true) (hp : PreS s H Pc As)
    (hg : g.method = m) (hn : As.length = n) (hsize : g.locals.size = nL) (hstack : g.stack = As.reverse ++ rest) (hW : 2 * g.monitorRoom + (rest.map fun v => v.category).sum ≤ 8) (hdg : decode cc g.pc = .ok (.invokestatic index, 3)) (hf : cells + mc ≤ R.cells ∧ slots + ms ≤ R.slots) :
    vx_Run p l e R s m args below meth c H locs cells slots mc ms g rest (Qc As.toArray) XC free := by
  have hK : vx_Back l R p e below s args y 3 8 (PreOf R mc ms Pc) (PostOf Qc mc ms free) (vx_Post XC mc ms free) := vx_callBack cw.1 hM hp.1
  obtain ⟨⟨-, -, -, -, -, -, hcode, hini, hy, hlen, hl⟩, hstt⟩ := cw
  obtain ⟨hx, hb, hml, ho, -⟩ := S
  intro T hT X
  rcases vx_callS X hx (bytes := bytes) (maxL := maxL) (ret := ret) ho hl hstt hini hcode hy hK hg (hsize.trans hml.symm) (argsL := As) (rest := rest) (fun sig h => hn.trans (hlen sig h)) hstack hW (by rw [hb]; exact hdg)
    (fun vm₁ hW₁ => ⟨hf.1, hf.2, hp.2 (T.setVm vm₁) hT hW₁⟩) with ⟨v, vm₁, ⟨U', l2, c2, s2⟩, hW₁, X', ⟨g', mk, t, L, e1, e2, hq, h1, hL, h2, h3⟩, st⟩ | ⟨q, vm₁, ⟨U', l2, c2, s2⟩, hW₁, X', ⟨g', mk, t, L, E, ce, e1, e2, hq, hce, hcv, hcl, h1, hL, h2, h3⟩, st⟩
  · dsimp only [Pt.U, Pt.locs, Pt.cells, Pt.slots] at X' e1 e2 h1 h2 h3 st
    subst h1; subst h2; subst h3
    exact Or.inl ⟨v, (T.setVm vm₁).calling g' mk As.toArray, t, U', L, hT, X', hL, e1, e2, hq, st⟩
  · dsimp only [Pt.U, Pt.locs, Pt.cells, Pt.slots] at X' e1 e2 h1 h2 h3 st hcl
    subst h1; subst h2; subst h3
    exact Or.inr ⟨q, (T.setVm vm₁).calling g' mk As.toArray, t, U', L, E, ce, hT, X', hL, e1, e2, hq, hce, hcv, vx_cls hW₁ hcl, st⟩
end Runs
section Rows
variable {p : Program} {l : Launch} {e : Env} {R : Room} {s : State} {m : MethodId} {args : Array Value} {below : List Frame} {meth : Method} {c : Code} {H : Heap} {locs : List Loc} {cells slots : Nat} {Q : State → Prop}
variable {mc ms : Nat} {free : Addr → Prop} {A0 A1 : Nat → Prop} {H0 : Heap} {a : Array Value} {pc : Nat} {ls : Array Slot} {st0 rest : List Value}
theorem vx_keep {st₀ t T' : State} {L : List Loc} (h0 : st₀.heap = H) (e1 : T'.heap = t.heap) (hS : va_S A0 H0 H locs) (hA : ∀ q, q < H.size → A1 q → A0 q) (hf : ∀ q, free q → A0 q) (hL : ∀ q ∈ L, free q.base) (hF : va_F A1 st₀ t) :
    H.size ≤ T'.heap.size ∧ (∀ q : Nat, q < H.size → ¬ A1 q → T'.heap[q]? = H[q]?) ∧ va_S A0 H0 T'.heap (locs ++ L) := by
  obtain ⟨hz, hk⟩ := hF
  rw [h0] at hz hk
  exact ⟨by rw [e1]; exact hz, fun q h1 h2 => by rw [e1]; exact hk q h1 h2,
    ⟨Nat.le_trans hS.1 (by rw [e1]; exact hz), fun q h1 h2 => by rw [e1, hk q (Nat.lt_of_lt_of_le h1 hS.1) (fun z => h2 (hA q (Nat.lt_of_lt_of_le h1 hS.1) z))]; exact hS.2.1 q h1 h2, fun q hq => by
      rcases List.mem_append.mp hq with h | h
      · exact hS.2.2 q h
      · exact hf _ (hL q h)⟩⟩
theorem vx_calli {S SX : Type} {post : Int32 → S → Prop} {px : SX → Prop} {B : S → State → Prop} {BX : String → SX → State → Prop} {AX : Nat → Prop} (hr : vx_Run p l e R s m args below meth c H locs cells slots mc ms (F0 m pc ls st0) rest (va_Qi post B A1 a) (vx_X px BX AX) free) (hS : va_S A0 H0 H locs) (hA : ∀ q, q < H.size → A1 q → A0 q) (hf : ∀ q, free q → A0 q) (hAX : ∀ q, q < H.size → AX q → A0 q)
    (kx : ∀ (E : String) (ce : Cell) (q9 : Addr) (u : SX) (t : State) (H1 : Heap) (locs1 : List Loc), t.heap = H1 → s.vm.Alike t.vm → px u → BX E u t → H.size ≤ H1.size → (∀ q : Nat, q < H.size → ¬ AX q → H1[q]? = H[q]?) → va_S A0 H0 H1 locs1 → H1[q9]? = some ce → ce.vm = .none → s.vm.findClass E = some ce.cls → vx_W p l e R s m args below meth c H1 locs1 (cells + mc) (slots + ms) Q (F0 m pc ls rest) q9)
    (kk : ∀ (r : Int32) (u : S) (t : State) (H1 : Heap) (locs1 : List Loc), t.heap = H1 → s.vm.Alike t.vm → post r u → B u t → H.size ≤ H1.size → (∀ q : Nat, q < H.size → ¬ A1 q → H1[q]? = H[q]?) → va_S A0 H0 H1 locs1 → W p l e R s m args below meth c H1 locs1 (cells + mc) (slots + ms) Q (F0 m (pc + 3) ls (.int r :: rest))) : W p l e R s m args below meth c H locs cells slots Q (F0 m pc ls st0) := by
  intro T hT X
  rcases hr T hT X with ⟨v, st₀, t, T', L, h0, X', hL, e1, e2, ⟨⟨r, u, hv, hp, hb⟩, hF⟩, st⟩ | ⟨q, st₀, t, T', L, E, ce, h0, X', hL, e1, e2, ⟨u, hp, hb, hF⟩, hce, hcv, hcl, st⟩
  · cases hv
    obtain ⟨k1, k2, k3⟩ := vx_keep h0 e1 hS hA hf hL hF
    obtain ⟨t2, a1, b1⟩ := kk r u t T'.heap (locs ++ L) e1.symm (by rw [← e2]; exact X'.warmed.alike) hp hb k1 k2 k3 T' rfl X'
    exact ⟨t2, st t2 a1, b1⟩
  · obtain ⟨k1, k2, k3⟩ := vx_keep h0 e1 hS hAX hf hL hF
    obtain ⟨t2, a1, b1⟩ := kx E ce q u t T'.heap (locs ++ L) e1.symm (by rw [← e2]; exact X'.warmed.alike) hp hb k1 k2 k3 (by rw [e1]; exact hce) hcv hcl T' rfl X'
    exact ⟨t2, st.trans a1, b1⟩
theorem vx_calll {S SX : Type} {post : Int64 → S → Prop} {px : SX → Prop} {B : S → State → Prop} {BX : String → SX → State → Prop} {AX : Nat → Prop} (hr : vx_Run p l e R s m args below meth c H locs cells slots mc ms (F0 m pc ls st0) rest (va_Ql post B A1 a) (vx_X px BX AX) free) (hS : va_S A0 H0 H locs) (hA : ∀ q, q < H.size → A1 q → A0 q) (hf : ∀ q, free q → A0 q) (hAX : ∀ q, q < H.size → AX q → A0 q)
    (kx : ∀ (E : String) (ce : Cell) (q9 : Addr) (u : SX) (t : State) (H1 : Heap) (locs1 : List Loc), t.heap = H1 → s.vm.Alike t.vm → px u → BX E u t → H.size ≤ H1.size → (∀ q : Nat, q < H.size → ¬ AX q → H1[q]? = H[q]?) → va_S A0 H0 H1 locs1 → H1[q9]? = some ce → ce.vm = .none → s.vm.findClass E = some ce.cls → vx_W p l e R s m args below meth c H1 locs1 (cells + mc) (slots + ms) Q (F0 m pc ls rest) q9)
    (kk : ∀ (r : Int64) (u : S) (t : State) (H1 : Heap) (locs1 : List Loc), t.heap = H1 → s.vm.Alike t.vm → post r u → B u t → H.size ≤ H1.size → (∀ q : Nat, q < H.size → ¬ A1 q → H1[q]? = H[q]?) → va_S A0 H0 H1 locs1 → W p l e R s m args below meth c H1 locs1 (cells + mc) (slots + ms) Q (F0 m (pc + 3) ls (.long r :: rest))) : W p l e R s m args below meth c H locs cells slots Q (F0 m pc ls st0) := by
  intro T hT X
  rcases hr T hT X with ⟨v, st₀, t, T', L, h0, X', hL, e1, e2, ⟨⟨r, u, hv, hp, hb⟩, hF⟩, st⟩ | ⟨q, st₀, t, T', L, E, ce, h0, X', hL, e1, e2, ⟨u, hp, hb, hF⟩, hce, hcv, hcl, st⟩
  · cases hv
    obtain ⟨k1, k2, k3⟩ := vx_keep h0 e1 hS hA hf hL hF
    obtain ⟨t2, a1, b1⟩ := kk r u t T'.heap (locs ++ L) e1.symm (by rw [← e2]; exact X'.warmed.alike) hp hb k1 k2 k3 T' rfl X'
    exact ⟨t2, st t2 a1, b1⟩
  · obtain ⟨k1, k2, k3⟩ := vx_keep h0 e1 hS hAX hf hL hF
    obtain ⟨t2, a1, b1⟩ := kx E ce q u t T'.heap (locs ++ L) e1.symm (by rw [← e2]; exact X'.warmed.alike) hp hb k1 k2 k3 (by rw [e1]; exact hce) hcv hcl T' rfl X'
    exact ⟨t2, st.trans a1, b1⟩
theorem vx_callf {S SX : Type} {post : UInt32 → S → Prop} {px : SX → Prop} {B : S → State → Prop} {BX : String → SX → State → Prop} {AX : Nat → Prop} (hr : vx_Run p l e R s m args below meth c H locs cells slots mc ms (F0 m pc ls st0) rest (va_Qf post B A1 a) (vx_X px BX AX) free) (hS : va_S A0 H0 H locs) (hA : ∀ q, q < H.size → A1 q → A0 q) (hf : ∀ q, free q → A0 q) (hAX : ∀ q, q < H.size → AX q → A0 q)
    (kx : ∀ (E : String) (ce : Cell) (q9 : Addr) (u : SX) (t : State) (H1 : Heap) (locs1 : List Loc), t.heap = H1 → s.vm.Alike t.vm → px u → BX E u t → H.size ≤ H1.size → (∀ q : Nat, q < H.size → ¬ AX q → H1[q]? = H[q]?) → va_S A0 H0 H1 locs1 → H1[q9]? = some ce → ce.vm = .none → s.vm.findClass E = some ce.cls → vx_W p l e R s m args below meth c H1 locs1 (cells + mc) (slots + ms) Q (F0 m pc ls rest) q9)
    (kk : ∀ (r : UInt32) (u : S) (t : State) (H1 : Heap) (locs1 : List Loc), t.heap = H1 → s.vm.Alike t.vm → post r u → B u t → H.size ≤ H1.size → (∀ q : Nat, q < H.size → ¬ A1 q → H1[q]? = H[q]?) → va_S A0 H0 H1 locs1 → W p l e R s m args below meth c H1 locs1 (cells + mc) (slots + ms) Q (F0 m (pc + 3) ls (.float r :: rest))) : W p l e R s m args below meth c H locs cells slots Q (F0 m pc ls st0) := by
  intro T hT X
  rcases hr T hT X with ⟨v, st₀, t, T', L, h0, X', hL, e1, e2, ⟨⟨r, u, hv, hp, hb⟩, hF⟩, st⟩ | ⟨q, st₀, t, T', L, E, ce, h0, X', hL, e1, e2, ⟨u, hp, hb, hF⟩, hce, hcv, hcl, st⟩
  · cases hv
    obtain ⟨k1, k2, k3⟩ := vx_keep h0 e1 hS hA hf hL hF
    obtain ⟨t2, a1, b1⟩ := kk r u t T'.heap (locs ++ L) e1.symm (by rw [← e2]; exact X'.warmed.alike) hp hb k1 k2 k3 T' rfl X'
    exact ⟨t2, st t2 a1, b1⟩
  · obtain ⟨k1, k2, k3⟩ := vx_keep h0 e1 hS hAX hf hL hF
    obtain ⟨t2, a1, b1⟩ := kx E ce q u t T'.heap (locs ++ L) e1.symm (by rw [← e2]; exact X'.warmed.alike) hp hb k1 k2 k3 (by rw [e1]; exact hce) hcv hcl T' rfl X'
    exact ⟨t2, st.trans a1, b1⟩
theorem vx_calld {S SX : Type} {post : UInt64 → S → Prop} {px : SX → Prop} {B : S → State → Prop} {BX : String → SX → State → Prop} {AX : Nat → Prop} (hr : vx_Run p l e R s m args below meth c H locs cells slots mc ms (F0 m pc ls st0) rest (va_Qd post B A1 a) (vx_X px BX AX) free) (hS : va_S A0 H0 H locs) (hA : ∀ q, q < H.size → A1 q → A0 q) (hf : ∀ q, free q → A0 q) (hAX : ∀ q, q < H.size → AX q → A0 q)
    (kx : ∀ (E : String) (ce : Cell) (q9 : Addr) (u : SX) (t : State) (H1 : Heap) (locs1 : List Loc), t.heap = H1 → s.vm.Alike t.vm → px u → BX E u t → H.size ≤ H1.size → (∀ q : Nat, q < H.size → ¬ AX q → H1[q]? = H[q]?) → va_S A0 H0 H1 locs1 → H1[q9]? = some ce → ce.vm = .none → s.vm.findClass E = some ce.cls → vx_W p l e R s m args below meth c H1 locs1 (cells + mc) (slots + ms) Q (F0 m pc ls rest) q9)
    (kk : ∀ (r : UInt64) (u : S) (t : State) (H1 : Heap) (locs1 : List Loc), t.heap = H1 → s.vm.Alike t.vm → post r u → B u t → H.size ≤ H1.size → (∀ q : Nat, q < H.size → ¬ A1 q → H1[q]? = H[q]?) → va_S A0 H0 H1 locs1 → W p l e R s m args below meth c H1 locs1 (cells + mc) (slots + ms) Q (F0 m (pc + 3) ls (.double r :: rest))) : W p l e R s m args below meth c H locs cells slots Q (F0 m pc ls st0) := by
  intro T hT X
  rcases hr T hT X with ⟨v, st₀, t, T', L, h0, X', hL, e1, e2, ⟨⟨r, u, hv, hp, hb⟩, hF⟩, st⟩ | ⟨q, st₀, t, T', L, E, ce, h0, X', hL, e1, e2, ⟨u, hp, hb, hF⟩, hce, hcv, hcl, st⟩
  · cases hv
    obtain ⟨k1, k2, k3⟩ := vx_keep h0 e1 hS hA hf hL hF
    obtain ⟨t2, a1, b1⟩ := kk r u t T'.heap (locs ++ L) e1.symm (by rw [← e2]; exact X'.warmed.alike) hp hb k1 k2 k3 T' rfl X'
    exact ⟨t2, st t2 a1, b1⟩
  · obtain ⟨k1, k2, k3⟩ := vx_keep h0 e1 hS hAX hf hL hF
    obtain ⟨t2, a1, b1⟩ := kx E ce q u t T'.heap (locs ++ L) e1.symm (by rw [← e2]; exact X'.warmed.alike) hp hb k1 k2 k3 (by rw [e1]; exact hce) hcv hcl T' rfl X'
    exact ⟨t2, st.trans a1, b1⟩
theorem vx_callv {S SX : Type} {post : S → Prop} {px : SX → Prop} {B : S → State → Prop} {BX : String → SX → State → Prop} {AX : Nat → Prop} (hr : vx_Run p l e R s m args below meth c H locs cells slots mc ms (F0 m pc ls st0) rest (va_Qv post B A1 a) (vx_X px BX AX) free) (hS : va_S A0 H0 H locs) (hA : ∀ q, q < H.size → A1 q → A0 q) (hf : ∀ q, free q → A0 q) (hAX : ∀ q, q < H.size → AX q → A0 q)
    (kx : ∀ (E : String) (ce : Cell) (q9 : Addr) (u : SX) (t : State) (H1 : Heap) (locs1 : List Loc), t.heap = H1 → s.vm.Alike t.vm → px u → BX E u t → H.size ≤ H1.size → (∀ q : Nat, q < H.size → ¬ AX q → H1[q]? = H[q]?) → va_S A0 H0 H1 locs1 → H1[q9]? = some ce → ce.vm = .none → s.vm.findClass E = some ce.cls → vx_W p l e R s m args below meth c H1 locs1 (cells + mc) (slots + ms) Q (F0 m pc ls rest) q9)
    (kk : ∀ (u : S) (t : State) (H1 : Heap) (locs1 : List Loc), t.heap = H1 → s.vm.Alike t.vm → post u → B u t → H.size ≤ H1.size → (∀ q : Nat, q < H.size → ¬ A1 q → H1[q]? = H[q]?) → va_S A0 H0 H1 locs1 → W p l e R s m args below meth c H1 locs1 (cells + mc) (slots + ms) Q (F0 m (pc + 3) ls (rest))) : W p l e R s m args below meth c H locs cells slots Q (F0 m pc ls st0) := by
  intro T hT X
  rcases hr T hT X with ⟨v, st₀, t, T', L, h0, X', hL, e1, e2, ⟨⟨u, hv, hp, hb⟩, hF⟩, st⟩ | ⟨q, st₀, t, T', L, E, ce, h0, X', hL, e1, e2, ⟨u, hp, hb, hF⟩, hce, hcv, hcl, st⟩
  · cases hv
    obtain ⟨k1, k2, k3⟩ := vx_keep h0 e1 hS hA hf hL hF
    obtain ⟨t2, a1, b1⟩ := kk u t T'.heap (locs ++ L) e1.symm (by rw [← e2]; exact X'.warmed.alike) hp hb k1 k2 k3 T' rfl X'
    exact ⟨t2, st t2 a1, b1⟩
  · obtain ⟨k1, k2, k3⟩ := vx_keep h0 e1 hS hAX hf hL hF
    obtain ⟨t2, a1, b1⟩ := kx E ce q u t T'.heap (locs ++ L) e1.symm (by rw [← e2]; exact X'.warmed.alike) hp hb k1 k2 k3 (by rw [e1]; exact hce) hcv hcl T' rfl X'
    exact ⟨t2, st.trans a1, b1⟩
end Rows
section Ends
variable {p : Program} {l : Launch} {e : Env} {R : Room} {s : State} {m : MethodId} {args : Array Value} {below : List Frame} {meth : Method} {c : Code} {H : Heap} {locs : List Loc} {cells slots : Nat} {Q : State → Prop}
variable {mc ms : Nat} {free : Addr → Prop} {A0 A1 : Nat → Prop} {H0 : Heap} {a : Array Value} {ls : Array Slot} {st0 rest : List Value}
variable {Qc : Array Value → State → Outcome → State → Prop} {XC : String → State → State → Prop}
/-- what a body that may throw owes at its end -/
def vx_MQ (below : List Frame) (Qc : Array Value → State → Outcome → State → Prop) (XC : String → State → State → Prop) (a : Array Value) (s : State) (mc ms : Nat) (free : Addr → Prop) : State → Prop := fun t =>
  ∃ o, t.status = .running ∧ Ended t below o ∧ vx_Q Qc XC mc ms free a s o t
theorem vx_ret {g : JFrame} {mc ms : Nat} (k : W p l e R s m args below meth c H locs cells slots (MQ below Qc args s mc ms free) g) : W p l e R s m args below meth c H locs cells slots (vx_MQ below Qc XC args s mc ms free) g := by
  intro T hT X
  obtain ⟨t, a1, o, b1, b2, b3, b4⟩ := k T hT X
  exact ⟨t, a1, o, b1, b2, Or.inl ⟨b3, b4⟩⟩
/-- not caught here: it goes on to the caller -/
theorem vx_widen {g : JFrame} {q : Addr} {k n : Nat} (h1 : cells ≤ k) (h2 : slots ≤ n) (kk : vx_W p l e R s m args below meth c H locs k n Q g q) : vx_W p l e R s m args below meth c H locs cells slots Q g q := fun T hT X => kk T hT (stand_widen X h1 h2)
theorem vx_out {pc : Nat} {E : String} {ce : Cell} {q : Addr} {mc ms : Nat} (hout : ∀ x ∈ c.exceptionTable.toList, covers x pc = false) (hlocks : meth.locks = false) (hcell : H[q]? = some ce) (hv : ce.vm = .none) (hcl : s.vm.findClass E = some ce.cls)
    (hx : ∀ t : State, t.heap = H → s.vm.Alike t.vm → XC E s t) (hf : ∀ z ∈ locs, free z.base) (hc : cells ≤ mc) (hs : slots ≤ ms) :
    vx_W p l e R s m args below meth c H locs cells slots (vx_MQ below Qc XC args s mc ms free) (F0 m pc ls rest) q := by
  intro T hT X
  obtain ⟨st1, hrun, hend, hW, hsm⟩ := X.leaveThrown q (g := F0 m pc ls rest) rfl rfl rfl hout hlocks
  have hcell9 : (T.setFrames (.throwing q :: below)).heap[q]? = some ce := by
    show T.heap[q]? = some ce
    rw [hT]; exact hcell
  exact ⟨_, st1, .threw q, hrun, hend, Or.inr ⟨q, rfl, E, ce, locs, hx _ hT hW.alike, hcell9, hv, hcl, hW, hsm.mono hc hs, hf⟩⟩
theorem vx_frame {U : State} {k n : Nat} (h : s.sameButNew ({ U with vm := s.vm } : State) locs k n) : s.heap.size ≤ U.heap.size ∧ ∀ q : Nat, q < s.heap.size → (∀ z ∈ locs, z.base ≠ q) → U.heap[q]? = s.heap[q]? := by
  obtain ⟨-, h2, -, -, -, h6⟩ := h
  refine ⟨h2, fun q hq hz => ?_⟩
  obtain ⟨c9, e1, e2, e3, e4⟩ := h6 q _ (Array.getElem?_eq_getElem hq)
  have hs : c9.slots = (s.heap[q]).slots := Array.ext_getElem? fun i => e4 i fun hm => hz _ hm rfl
  have h9 : c9 = s.heap[q] := by
    rw [hs] at e2
    exact e2
  have e5 : U.heap[q]? = some c9 := e1
  rw [e5, h9, Array.getElem?_eq_getElem hq]
/-- the words of a throw but the four that speak of the heap -/
def vx_no (w : Cond) : Bool := decide (w ≠ .isRef (.static Bundle.tN "UNASSIGNED_STACK" Bundle.steD)) && decide (w ≠ .isRef (.static Bundle.tN "SUPPRESSED_SENTINEL" Bundle.listD)) && decide (w ≠ .laysStatic Bundle.tN "UNASSIGNED_STACK" Bundle.steD) && decide (w ≠ .laysStatic Bundle.tN "SUPPRESSED_SENTINEL" Bundle.listD)
def vx_at0 (own : String) (ic : Nat) (X : String) (names : List String) : List Cond := (Bundle.ownAtoms0 own ic X names).filter vx_no
def vx_atS (own : String) (ic : Nat) (X : String) (names : List String) : List Cond := (Bundle.ownAtoms own ic X names).filter vx_no
/-- a word that the tables alone decide, or a good one -/
def vx_ot (w : Cond) : Bool := w.onTables || goodWord w
theorem vx_ot_at {args a' : Array Value} {s U : State} {w : Cond} (hW : s.WarmedH U.vm) (hvm : s.vm = U.vm) (hg : vx_ot w = true) (h : w.before args s = true) : w.before a' U = true := by
  simp only [vx_ot, Bool.or_eq_true] at hg
  rcases hg with hg | hg
  · exact va_tabs hg hvm h
  · exact word_at hW (good_of_word hg) h
/-- a list's words: the good ones out of the method's own list, the others by premises of their own -/
theorem vx_hat {args : Array Value} {s : State} {L B : List Cond} (h1 : ∀ w ∈ L.filter goodWord, w.before args s = true) (h2 : ∀ w ∈ L.filter (fun w => !goodWord w), w ∈ B) (h3 : ∀ w ∈ B, w.before args s = true) : ∀ w ∈ L, w.before args s = true := by
  intro w hw
  by_cases g : goodWord w = true
  · exact h1 w (List.mem_filter.mpr ⟨hw, g⟩)
  · refine h3 w (h2 w (List.mem_filter.mpr ⟨hw, ?_⟩))
    show (!goodWord w) = true
    cases hgw : goodWord w
    · rfl
    · exact absurd hgw g
theorem vx_c {args : Array Value} {s : State} {w : Cond} {B : List Cond} (h : w.before args s = true) (t : ∀ w ∈ B, w.before args s = true) : ∀ w' ∈ w :: B, w'.before args s = true := fun w' h' => (List.mem_cons.mp h').elim (fun e => by rw [e]; exact h) (t w')
theorem vx_n {args : Array Value} {s : State} : ∀ w ∈ ([] : List Cond), w.before args s = true := fun _ h => nomatch h
theorem vx_own {args : Array Value} {s : State} {L : List Cond} (h1 : ∀ w ∈ L.filter vx_no, w.before args s = true)
    (hU : (Cond.isRef (.static Bundle.tN "UNASSIGNED_STACK" Bundle.steD)).before args s = true) (hN : (Cond.isRef (.static Bundle.tN "SUPPRESSED_SENTINEL" Bundle.listD)).before args s = true)
    (lU : (Cond.laysStatic Bundle.tN "UNASSIGNED_STACK" Bundle.steD).before args s = true) (lN : (Cond.laysStatic Bundle.tN "SUPPRESSED_SENTINEL" Bundle.listD).before args s = true) : ∀ w ∈ L, w.before args s = true := by
  intro w hw
  by_cases e1 : w = .isRef (.static Bundle.tN "UNASSIGNED_STACK" Bundle.steD)
  · rw [e1]; exact hU
  · by_cases e2 : w = .isRef (.static Bundle.tN "SUPPRESSED_SENTINEL" Bundle.listD)
    · rw [e2]; exact hN
    · by_cases e3 : w = .laysStatic Bundle.tN "UNASSIGNED_STACK" Bundle.steD
      · rw [e3]; exact lU
      · by_cases e4 : w = .laysStatic Bundle.tN "SUPPRESSED_SENTINEL" Bundle.listD
        · rw [e4]; exact lN
        · exact h1 w (List.mem_filter.mpr ⟨hw, by unfold vx_no; rw [decide_eq_true e1, decide_eq_true e2, decide_eq_true e3, decide_eq_true e4]; rfl⟩)
/-- where a static field lies, its class's statics cell in H -/
def vx_L (C n d : String) (A : Nat → Prop) (U : State) (H : Heap) : Prop := ∃ (c : ClassId) (k : Class) (i : Nat) (f : Field) (a : Nat) (cell : Cell), U.vm.findClass C = some c ∧ U.fieldFound? C n d = some (c, k, i, f) ∧ f.isStatic = true ∧ k.statics = some a ∧ H[a]? = some cell ∧ cell.vm.isStatics = true ∧ cell.cls = c ∧ f.slot < cell.slots.size ∧ k.staticTypes[f.slot]? = some f.type ∧ ¬ A a
theorem vx_L.moved {C n d : String} {A : Nat → Prop} {u U : State} {H : Heap} (hvm : u.vm.Alike U.vm) (h : vx_L C n d A u H) : vx_L C n d A U H := by
  obtain ⟨c, k, i, f, a, cell, h1, h2, h3, h4, h5, h6, h7, h8, h9, h10⟩ := h
  obtain ⟨k', hi', he⟩ := State.fieldFound?_setVm hvm h2
  exact ⟨c, k', i, f, a, cell, by rw [hvm.findClass]; exact h1, hi', h3, by rw [he]; exact h4, h5, h6, h7, h8, by rw [he]; exact h9, h10⟩
theorem vx_L.kept {C n d : String} {A : Nat → Prop} {U : State} {H H1 : Heap} (h : vx_L C n d A U H) (hq : ∀ a : Nat, a < H.size → ¬ A a → H1[a]? = H[a]?) : vx_L C n d A U H1 := by
  obtain ⟨c, k, i, f, a, cell, h1, h2, h3, h4, h5, h6, h7, h8, h9, h10⟩ := h
  exact ⟨c, k, i, f, a, cell, h1, h2, h3, h4, by rw [hq a (Array.getElem?_eq_some_iff.mp h5).1 h10]; exact h5, h6, h7, h8, h9, h10⟩
theorem vx_L.narrow {C n d : String} {A B : Nat → Prop} {U : State} {H : Heap} (h : vx_L C n d A U H) (hAB : ∀ q, B q → A q) : vx_L C n d B U H := by
  obtain ⟨c, k, i, f, a, cell, h1, h2, h3, h4, h5, h6, h7, h8, h9, h10⟩ := h
  exact ⟨c, k, i, f, a, cell, h1, h2, h3, h4, h5, h6, h7, h8, h9, fun z => h10 (hAB _ z)⟩
theorem vx_L.word {C n d : String} {A : Nat → Prop} {s : State} {args : Array Value} (h : vx_L C n d A s s.heap) : (Cond.laysStatic C n d).before args s = true := by
  obtain ⟨c, k, i, f, a, cell, h1, h2, h3, h4, h5, h6, h7, h8, h9, -⟩ := h
  show (Cond.laysStatic C n d).holds args s none s [] = true
  exact Cond.laysStatic_of h1 h2 h3 h4 h5 h6 h7 h8 h9
/-- .. and what it holds: null or some reference -/
def vx_Zq (C n d : String) (A : Nat → Prop) (U : State) (H : Heap) : Prop := va_Zq C n d A U H ∧ vx_L C n d A U H
theorem vx_Zq.moved {C n d : String} {A : Nat → Prop} {u U : State} {H : Heap} (hvm : u.vm.Alike U.vm) (h : vx_Zq C n d A u H) : vx_Zq C n d A U H := ⟨va_Zq.moved hvm h.1, vx_L.moved hvm h.2⟩
theorem vx_Zq.kept {C n d : String} {A : Nat → Prop} {U : State} {H H1 : Heap} (h : vx_Zq C n d A U H) (hq : ∀ a : Nat, a < H.size → ¬ A a → H1[a]? = H[a]?) : vx_Zq C n d A U H1 := ⟨va_Zq.kept h.1 hq, vx_L.kept h.2 hq⟩
theorem vx_Zq.narrow {C n d : String} {A B : Nat → Prop} {U : State} {H : Heap} (h : vx_Zq C n d A U H) (hAB : ∀ q, B q → A q) : vx_Zq C n d B U H := ⟨va_Zq.narrow h.1 hAB, vx_L.narrow h.2 hAB⟩
theorem vx_Zqof {args : Array Value} {s : State} {C n d : String} {A : Nat → Prop} (hl : (Cond.laysStatic C n d).before args s = true) (hini : (Cond.initialized C).before args s = true) (h : (Cond.isRef (.static C n d)).before args s = true) (hA : ∀ a : Nat, a < s.heap.size → ¬ A a) : vx_Zq C n d A s s.heap := by
  refine ⟨va_Zqof hl hini h hA, ?_⟩
  obtain ⟨c, k, i, f, a, cell, h1, h2, h3, h4, h5, h6, h7, h8, h9⟩ := Cond.laysStatic_spec hl
  exact ⟨c, k, i, f, a, cell, h1, h2, h3, h4, h5, h6, h7, h8, h9, hA a (Array.getElem?_eq_some_iff.mp h5).1⟩
theorem vx_isRef {C n d : String} {v : Value} {A : Nat → Prop} {s : State} {args : Array Value} (h : va_Z C n d v A s s.heap) (hv : v.isRef = true) : (Cond.isRef (.static C n d)).before args s = true := by
  obtain ⟨cf, kf, fi, f, a, cell, h1, h2, h3, h4, h5, h6, h7, -⟩ := h
  have he : (Term.static C n d).eval args s none [] s = some v := by
    simp [Term.eval, State.fieldNamed?, h1, h2, h4, h5, h6, h7]
  simp only [Cond.before, Cond.holds, Cond.value, he]
  cases v <;> simp_all [Value.isRef]
theorem vx_isRefq {C n d : String} {A : Nat → Prop} {s : State} {args : Array Value} (h : va_Zq C n d A s s.heap) : (Cond.isRef (.static C n d)).before args s = true := by
  rcases h with h | ⟨t, h⟩
  · exact vx_isRef h rfl
  · exact vx_isRef h rfl
/-- the same frame, seen from here: as if the method were called anew in this heap -/
theorem vx_rebase {T : State} (X : Stand p l e R s m args below meth c T locs cells slots) {R' : Room} (hf : R'.frames ≤ R.frames) (hl : R'.locals ≤ R.locals) (hc : cells + R'.cells ≤ R.cells) (hs : slots + R'.slots ≤ R.slots) :
    Stand p l e R' ((T.setVm s.vm).setFrames (.invoking m args :: below)) m args below meth c T [] 0 0 := by
  have htop : (T.setVm s.vm).topJava?.isSome := X.here.top
  have hF : ((T.setVm s.vm).setFrames (.invoking m args :: below)).frames = .invoking m args :: below := State.frames_setFrames _ (State.cur_lt_of_top htop)
  obtain ⟨g₀, hg0⟩ := Option.isSome_iff_exists.mp htop
  obtain ⟨r, hr⟩ := State.topJava?_eq_some.mp hg0
  have hl9 : e.platform.stackLimits (T.setVm s.vm).me = e.platform.stackLimits s.me := X.limits
  have hb9 : (T.setVm s.vm).me.stackBytes = s.me.stackBytes := X.bytes
  refine ⟨X.admits, X.cas, X.clock, hF, ?_, X.hears, X.method, X.code, X.here, X.tail, X.warmed, ?_, ?_, ?_⟩
  · have h := X.room
    have hU : ((T.setVm s.vm).setFrames (.invoking m args :: below)).localsInUse = s.localsInUse := by
      rw [State.localsInUse_invoking hF (meth := meth) (c := c) X.method X.code, State.localsInUse_invoking X.frames X.method X.code]
    simp only [State.hasRoom, Bool.and_eq_true, decide_eq_true_eq] at h ⊢
    obtain ⟨⟨⟨⟨h1, h2, h3, h4, h5, h6⟩, h7⟩, h8⟩, h9⟩ := h
    rw [X.frames, List.length_cons] at h2 h3
    have q1 := X.heapSize
    have q2 := X.used
    simp only [hF, hU, List.length_cons, State.stackLimits_setFrames, State.stackBytes_setFrames, hl9, hb9]
    refine ⟨⟨⟨⟨by omega, by omega, by omega, by omega, by omega, h6⟩, ?_⟩, ?_⟩, X.book⟩
    · show T.heap.size + R'.cells ≤ e.platform.maxCells
      omega
    · show T.slotsUsed + R'.slots ≤ e.platform.maxSlots
      omega
  · rw [State.stackLimits_setFrames]; rfl
  · rw [State.stackBytes_setFrames]; rfl
  · refine ⟨?_, Nat.le_refl _, Nat.le_refl _, ?_, ?_, fun a c9 h9 => ⟨c9, h9, rfl, rfl, fun _ _ => rfl⟩⟩
    · obtain ⟨t, ht, -⟩ := State.frames_cons hr
      show T.setVm s.vm = { ((T.setVm s.vm).setFrames (.invoking m args :: below)).setFrames (T.setVm s.vm).frames with heap := T.heap, slotsUsed := T.slotsUsed }
      rw [State.setFrames_setFrames, State.setFrames_self ht]
      rfl
    · show T.slotsUsed = T.slotsUsed + ((T.heap.toList.drop T.heap.size).map (·.slots.size)).sum
      rw [List.drop_eq_nil_of_le (Nat.le_of_eq Array.length_toList)]
      rfl
    · show ((T.heap.toList.drop T.heap.size).map (·.slots.size)).sum ≤ 0
      rw [List.drop_eq_nil_of_le (Nat.le_of_eq Array.length_toList)]
      exact Nat.le_refl _
/-- 'throw new E()': new; dup; invokespecial; athrow -/
theorem vx_throw0 {cc : ByteArray} {pc : Nat} (hexec : p.tables.exec = Jvm.exec) (hb : c.code = cc) (hl : l.stackTraces = false) {own cls : String} {names : List String} {ik ic mc ms : Nat} {A : Nat → Prop}
    (hown : s.vm.findClass own = some m.cls) (hcls : Bundle.fit cls = true) (hnames : ∀ n ∈ names, Bundle.fit n = true)
    (hk : (Cond.classLink own ik cls).before args s = true) (hini : (Cond.initialized cls).before args s = true) (hat : ∀ w ∈ vx_at0 own ic cls names, w.before args s = true)
    (hgood : ∀ w ∈ Cond.classLink own ik cls :: Cond.initialized cls :: vx_at0 own ic cls names, vx_ot w = true)
    (hU : vx_Zq Bundle.tN "UNASSIGNED_STACK" Bundle.steD A s s.heap) (hN : vx_Zq Bundle.tN "SUPPRESSED_SENTINEL" Bundle.listD A s s.heap) (hS : va_S A s.heap H locs) (hsize : ls.size = c.maxLocals)
    (d0 : decode cc pc = .ok (.new ik, 3)) (d3 : decode cc (pc + 3) = .ok (.dup, 1)) (d4 : decode cc (pc + 4) = .ok (.invokespecial ic, 3)) (d7 : decode cc (pc + 7) = .ok (.athrow, 1))
    (hout : ∀ x ∈ c.exceptionTable.toList, covers x (pc + 7) = false)
    (hRframes : names.length + 3 < R.frames) (hRlocals : (rest.map fun v => v.category).sum + (13 * (names.length + 1) + 42) ≤ R.locals) (hRcells : cells + 1 ≤ R.cells) (hRslots : slots + 6 ≤ R.slots) (hlocks : meth.locks = false)
    (hx : ∀ t : State, s.vm.Alike t.vm → H.size ≤ t.heap.size → (∀ q : Nat, q < H.size → t.heap[q]? = H[q]?) → XC cls s t)
    (hf : ∀ z ∈ locs, free z.base) (hc : cells + 1 ≤ mc) (hs : slots + 6 ≤ ms) :
    W p l e R s m args below meth c H locs cells slots (vx_MQ below Qc XC args s mc ms free) (F0 m pc ls rest) := by
  intro T hT X
  have htr : e.platform.stackTraces = false := (show e.platform.stackTraces = l.stackTraces by rw [X.admits.platform]).trans hl
  have Y := vx_rebase X (R' := { frames := R.frames, locals := R.locals, cells := 1, slots := 6 }) (Nat.le_refl _) (Nat.le_refl _) hRcells hRslots
  obtain ⟨s', hA⟩ : ∃ z, z = (T.setVm s.vm).setFrames (.invoking m args :: below) := ⟨_, rfl⟩
  rw [← hA] at Y
  have hvm : s'.vm = s.vm := by rw [hA]; rfl
  have hhp : s'.heap = H := by rw [hA]; exact hT
  have hW0 : s.WarmedH s'.vm := by rw [hvm]; exact State.WarmedH.refl s
  have hat' : ∀ w ∈ vx_at0 own ic cls names, w.before args s' = true := fun w hw => vx_ot_at hW0 hvm.symm (hgood w (List.mem_cons_of_mem _ (List.mem_cons_of_mem _ hw))) (hat w hw)
  have hk' : (Cond.classLink own ik cls).before args s' = true := vx_ot_at hW0 hvm.symm (hgood _ List.mem_cons_self) hk
  have hini' : (Cond.initialized cls).before args s' = true := vx_ot_at hW0 hvm.symm (hgood _ (List.mem_cons_of_mem _ List.mem_cons_self)) hini
  have hU' : vx_Zq Bundle.tN "UNASSIGNED_STACK" Bundle.steD A s' s'.heap := by rw [hhp]; exact vx_Zq.moved hW0.alike (hU.kept hS.2.1)
  have hN' : vx_Zq Bundle.tN "SUPPRESSED_SENTINEL" Bundle.listD A s' s'.heap := by rw [hhp]; exact vx_Zq.moved hW0.alike (hN.kept hS.2.1)
  have h : ∀ w ∈ Bundle.ownAtoms0 own ic cls names, w.before args s' = true := vx_own hat' (vx_isRefq hU'.1) (vx_isRefq hN'.1) hU'.2.word hN'.2.word
  have hown' : s'.vm.findClass own = some m.cls := by rw [hvm]; exact hown
  have hins : (Cond.instantiable cls 6).before args s' = true := h _ (by simp [Bundle.ownAtoms0])
  obtain ⟨vm₁, cX, kX, hfX, hkX, -, -, X₁, st1⟩ := Y.newCold hexec (own := own) (C := cls) (index := ik) (n := 6) hown' hk' hins hini'
    (g := F0 m pc ls rest) rfl (by rw [hb]; exact d0) (Nat.le_refl _) (Nat.le_refl _)
  generalize hT1 : (T.setVm vm₁).pushCell { cls := cX, slots := kX.instanceTypes.map defaultValue, vm := .none } = T1 at X₁ st1
  have hcat : (Value.ref T.heap.size).category = 1 := rfl
  have hcellA : T1.heap[T.heap.size]? = some (freshCell cX kX) := by rw [← hT1]; exact State.heap_pushCell_size _ _
  have d3' : decode c.code (pc + 3) = .ok (.dup, 1) := by rw [hb]; exact d3
  obtain ⟨U, hsteps, hrun, hend, hW, hsame, ce, hce, hO⟩ := X₁.ctorThrow0 hexec htr (own := own) (cls := cls) (names := names) (ic := ic) hown' hcls hnames h (fun x hx => nomatch hx) hfX hkX hcellA (by rw [hhp, hT]; exact Nat.le_refl _)
    (g := { method := m, pc := pc + 4, locals := ls, stack := .ref T.heap.size :: .ref T.heap.size :: rest, locked := none }) rfl hsize rfl rfl (rest := rest) rfl
    (by rw [hb]; exact d4) (by rw [hb]; exact d7) hout hRframes (by simp only [List.map_cons, List.sum_cons, hcat]; omega) hlocks
  obtain ⟨f1, f2⟩ := vx_frame hsame
  rw [hhp] at f1 f2
  have hWs : s.WarmedH U.vm := State.WarmedH.trans hW0 hW
  have hcl : s.vm.findClass cls = some ce.cls := by
    have h9 := hO.cls
    rw [hvm] at h9
    exact h9
  have hall : s.sameButNew ({ U with vm := s.vm } : State) locs mc ms := by
    subst hA
    obtain ⟨e1, e2⟩ := hsame
    rw [State.setFrames_setFrames] at e1
    have h2 : (T.setVm s.vm).sameButNew ({ U with vm := s.vm } : State) [] (0 + 1) (0 + 6) := ⟨e1, e2⟩
    have h3 := X.same.trans h2
    rw [List.append_nil] at h3
    exact h3.mono hc hs
  refine ⟨U, ?_, .threw T.heap.size, hrun, hend, Or.inr ⟨T.heap.size, rfl, cls, ce, locs, hx U hWs.alike f1 (fun q hq => f2 q hq (fun z hz => nomatch hz)), hce, hO.vm, hcl, hWs, hall, hf⟩⟩
  refine st1 _ ?_
  show Steps p.tables e below (T1.setTop { method := m, pc := pc + 3, locals := ls, stack := .ref T.heap.size :: rest, locked := none }) _
  jvm_step X₁.here [X₁.here.top, hexec, d3', Value.category]
  exact hsteps
/-- 'throw new E("text")': new; dup; ldc; invokespecial; athrow -/
theorem vx_throwS {cc : ByteArray} {pc : Nat} (hexec : p.tables.exec = Jvm.exec) (hb : c.code = cc) (hl : l.stackTraces = false) {own cls text : String} {names : List String} {ik is ic mc ms sa : Nat} {A : Nat → Prop}
    (hown : s.vm.findClass own = some m.cls) (hcls : Bundle.fit cls = true) (hnames : ∀ n ∈ names, Bundle.fit n = true)
    (hk : (Cond.classLink own ik cls).before args s = true) (hini : (Cond.initialized cls).before args s = true) (hstr : vk_R own is text sa s) (hat : ∀ w ∈ vx_atS own ic cls names, w.before args s = true)
    (hgood : ∀ w ∈ Cond.classLink own ik cls :: Cond.initialized cls :: vx_atS own ic cls names, vx_ot w = true)
    (hU : vx_Zq Bundle.tN "UNASSIGNED_STACK" Bundle.steD A s s.heap) (hN : vx_Zq Bundle.tN "SUPPRESSED_SENTINEL" Bundle.listD A s s.heap) (hS : va_S A s.heap H locs) (hsize : ls.size = c.maxLocals)
    (d0 : decode cc pc = .ok (.new ik, 3)) (d3 : decode cc (pc + 3) = .ok (.dup, 1)) (d4 : decode cc (pc + 4) = .ok (.ldc is, 2)) (d6 : decode cc (pc + 6) = .ok (.invokespecial ic, 3)) (d9 : decode cc (pc + 9) = .ok (.athrow, 1))
    (hout : ∀ x ∈ c.exceptionTable.toList, covers x (pc + 9) = false)
    (hRframes : names.length + 3 < R.frames) (hRlocals : (rest.map fun v => v.category).sum + (13 * (names.length + 1) + 43) ≤ R.locals) (hRcells : cells + 1 ≤ R.cells) (hRslots : slots + 6 ≤ R.slots) (hlocks : meth.locks = false)
    (hx : ∀ t : State, s.vm.Alike t.vm → H.size ≤ t.heap.size → (∀ q : Nat, q < H.size → t.heap[q]? = H[q]?) → XC cls s t)
    (hf : ∀ z ∈ locs, free z.base) (hc : cells + 1 ≤ mc) (hs : slots + 6 ≤ ms) :
    W p l e R s m args below meth c H locs cells slots (vx_MQ below Qc XC args s mc ms free) (F0 m pc ls rest) := by
  intro T hT X
  have htr : e.platform.stackTraces = false := (show e.platform.stackTraces = l.stackTraces by rw [X.admits.platform]).trans hl
  have Y := vx_rebase X (R' := { frames := R.frames, locals := R.locals, cells := 1, slots := 6 }) (Nat.le_refl _) (Nat.le_refl _) hRcells hRslots
  obtain ⟨s', hA⟩ : ∃ z, z = (T.setVm s.vm).setFrames (.invoking m args :: below) := ⟨_, rfl⟩
  rw [← hA] at Y
  have hvm : s'.vm = s.vm := by rw [hA]; rfl
  have hhp : s'.heap = H := by rw [hA]; exact hT
  have hW0 : s.WarmedH s'.vm := by rw [hvm]; exact State.WarmedH.refl s
  have hat' : ∀ w ∈ vx_atS own ic cls names, w.before args s' = true := fun w hw => vx_ot_at hW0 hvm.symm (hgood w (List.mem_cons_of_mem _ (List.mem_cons_of_mem _ hw))) (hat w hw)
  have hk' : (Cond.classLink own ik cls).before args s' = true := vx_ot_at hW0 hvm.symm (hgood _ List.mem_cons_self) hk
  have hini' : (Cond.initialized cls).before args s' = true := vx_ot_at hW0 hvm.symm (hgood _ (List.mem_cons_of_mem _ List.mem_cons_self)) hini
  have hU' : vx_Zq Bundle.tN "UNASSIGNED_STACK" Bundle.steD A s' s'.heap := by rw [hhp]; exact vx_Zq.moved hW0.alike (hU.kept hS.2.1)
  have hN' : vx_Zq Bundle.tN "SUPPRESSED_SENTINEL" Bundle.listD A s' s'.heap := by rw [hhp]; exact vx_Zq.moved hW0.alike (hN.kept hS.2.1)
  have h : ∀ w ∈ Bundle.ownAtoms own ic cls names, w.before args s' = true := vx_own hat' (vx_isRefq hU'.1) (vx_isRefq hN'.1) hU'.2.word hN'.2.word
  have hown' : s'.vm.findClass own = some m.cls := by rw [hvm]; exact hown
  have hins : (Cond.instantiable cls 6).before args s' = true := h _ (by simp [Bundle.ownAtoms])
  obtain ⟨vm₁, cX, kX, hfX, hkX, -, -, X₁, st1⟩ := Y.newCold hexec (own := own) (C := cls) (index := ik) (n := 6) hown' hk' hins hini'
    (g := F0 m pc ls rest) rfl (by rw [hb]; exact d0) (Nat.le_refl _) (Nat.le_refl _)
  generalize hT1 : (T.setVm vm₁).pushCell { cls := cX, slots := kX.instanceTypes.map defaultValue, vm := .none } = T1 at X₁ st1
  have hcat : (Value.ref T.heap.size).category = 1 := rfl
  have hcellA : T1.heap[T.heap.size]? = some (freshCell cX kX) := by rw [← hT1]; exact State.heap_pushCell_size _ _
  have d3' : decode c.code (pc + 3) = .ok (.dup, 1) := by rw [hb]; exact d3
  have d4' : decode c.code (pc + 4) = .ok (.ldc is, 2) := by rw [hb]; exact d4
  have hstr' : vk_R own is text sa s' := vk_R.warm hW0 hstr
  obtain ⟨U, hsteps, hrun, hend, hW, hsame, ce, hce, hO⟩ := X₁.ctorThrowS hexec htr (own := own) (cls := cls) (names := names) (ic := ic) hown' hcls hnames h (fun x hx => nomatch hx) hfX hkX hcellA (by rw [hhp, hT]; exact Nat.le_refl _) (msg := .ref sa) rfl
    (g := { method := m, pc := pc + 6, locals := ls, stack := .ref sa :: .ref T.heap.size :: .ref T.heap.size :: rest, locked := none }) rfl hsize rfl rfl (rest := rest) rfl
    (by rw [hb]; exact d6) (by rw [hb]; exact d9) hout hRframes (by simp only [List.map_cons, List.sum_cons, hcat]; omega) hlocks
  obtain ⟨f1, f2⟩ := vx_frame hsame
  rw [hhp] at f1 f2
  have hWs : s.WarmedH U.vm := State.WarmedH.trans hW0 hW
  have hcl : s.vm.findClass cls = some ce.cls := by
    have h9 := hO.cls
    rw [hvm] at h9
    exact h9
  have hall : s.sameButNew ({ U with vm := s.vm } : State) locs mc ms := by
    subst hA
    obtain ⟨e1, e2⟩ := hsame
    rw [State.setFrames_setFrames] at e1
    have h2 : (T.setVm s.vm).sameButNew ({ U with vm := s.vm } : State) [] (0 + 1) (0 + 6) := ⟨e1, e2⟩
    have h3 := X.same.trans h2
    rw [List.append_nil] at h3
    exact h3.mono hc hs
  refine ⟨U, ?_, .threw T.heap.size, hrun, hend, Or.inr ⟨T.heap.size, rfl, cls, ce, locs, hx U hWs.alike f1 (fun q hq => f2 q hq (fun z hz => nomatch hz)), hce, hO.vm, hcl, hWs, hall, hf⟩⟩
  refine st1 _ ?_
  show Steps p.tables e below (T1.setTop { method := m, pc := pc + 3, locals := ls, stack := .ref T.heap.size :: rest, locked := none }) _
  jvm_step X₁.here [X₁.here.top, hexec, d3', Value.category]
  exact X₁.ldcString hexec (own := own) (text := text) (index := is) (a := sa) hown' hstr'.1 hstr'.2
    (g := { method := m, pc := pc + 4, locals := ls, stack := .ref T.heap.size :: .ref T.heap.size :: rest, locked := none }) rfl d4' _ hsteps
/-- 'throw new E("text")', the text by a wide index -/
theorem vx_throwSW {cc : ByteArray} {pc : Nat} (hexec : p.tables.exec = Jvm.exec) (hb : c.code = cc) (hl : l.stackTraces = false) {own cls text : String} {names : List String} {ik is ic mc ms sa : Nat} {A : Nat → Prop}
    (hown : s.vm.findClass own = some m.cls) (hcls : Bundle.fit cls = true) (hnames : ∀ n ∈ names, Bundle.fit n = true)
    (hk : (Cond.classLink own ik cls).before args s = true) (hini : (Cond.initialized cls).before args s = true) (hstr : vk_R own is text sa s) (hat : ∀ w ∈ vx_atS own ic cls names, w.before args s = true)
    (hgood : ∀ w ∈ Cond.classLink own ik cls :: Cond.initialized cls :: vx_atS own ic cls names, vx_ot w = true)
    (hU : vx_Zq Bundle.tN "UNASSIGNED_STACK" Bundle.steD A s s.heap) (hN : vx_Zq Bundle.tN "SUPPRESSED_SENTINEL" Bundle.listD A s s.heap) (hS : va_S A s.heap H locs) (hsize : ls.size = c.maxLocals)
    (d0 : decode cc pc = .ok (.new ik, 3)) (d3 : decode cc (pc + 3) = .ok (.dup, 1)) (d4 : decode cc (pc + 4) = .ok (.ldc_w is, 3)) (d7 : decode cc (pc + 7) = .ok (.invokespecial ic, 3)) (d10 : decode cc (pc + 10) = .ok (.athrow, 1))
    (hout : ∀ x ∈ c.exceptionTable.toList, covers x (pc + 10) = false)
    (hRframes : names.length + 3 < R.frames) (hRlocals : (rest.map fun v => v.category).sum + (13 * (names.length + 1) + 43) ≤ R.locals) (hRcells : cells + 1 ≤ R.cells) (hRslots : slots + 6 ≤ R.slots) (hlocks : meth.locks = false)
    (hx : ∀ t : State, s.vm.Alike t.vm → H.size ≤ t.heap.size → (∀ q : Nat, q < H.size → t.heap[q]? = H[q]?) → XC cls s t)
    (hf : ∀ z ∈ locs, free z.base) (hc : cells + 1 ≤ mc) (hs : slots + 6 ≤ ms) :
    W p l e R s m args below meth c H locs cells slots (vx_MQ below Qc XC args s mc ms free) (F0 m pc ls rest) := by
  intro T hT X
  have htr : e.platform.stackTraces = false := (show e.platform.stackTraces = l.stackTraces by rw [X.admits.platform]).trans hl
  have Y := vx_rebase X (R' := { frames := R.frames, locals := R.locals, cells := 1, slots := 6 }) (Nat.le_refl _) (Nat.le_refl _) hRcells hRslots
  obtain ⟨s', hA⟩ : ∃ z, z = (T.setVm s.vm).setFrames (.invoking m args :: below) := ⟨_, rfl⟩
  rw [← hA] at Y
  have hvm : s'.vm = s.vm := by rw [hA]; rfl
  have hhp : s'.heap = H := by rw [hA]; exact hT
  have hW0 : s.WarmedH s'.vm := by rw [hvm]; exact State.WarmedH.refl s
  have hat' : ∀ w ∈ vx_atS own ic cls names, w.before args s' = true := fun w hw => vx_ot_at hW0 hvm.symm (hgood w (List.mem_cons_of_mem _ (List.mem_cons_of_mem _ hw))) (hat w hw)
  have hk' : (Cond.classLink own ik cls).before args s' = true := vx_ot_at hW0 hvm.symm (hgood _ List.mem_cons_self) hk
  have hini' : (Cond.initialized cls).before args s' = true := vx_ot_at hW0 hvm.symm (hgood _ (List.mem_cons_of_mem _ List.mem_cons_self)) hini
  have hU' : vx_Zq Bundle.tN "UNASSIGNED_STACK" Bundle.steD A s' s'.heap := by rw [hhp]; exact vx_Zq.moved hW0.alike (hU.kept hS.2.1)
  have hN' : vx_Zq Bundle.tN "SUPPRESSED_SENTINEL" Bundle.listD A s' s'.heap := by rw [hhp]; exact vx_Zq.moved hW0.alike (hN.kept hS.2.1)
  have h : ∀ w ∈ Bundle.ownAtoms own ic cls names, w.before args s' = true := vx_own hat' (vx_isRefq hU'.1) (vx_isRefq hN'.1) hU'.2.word hN'.2.word
  have hown' : s'.vm.findClass own = some m.cls := by rw [hvm]; exact hown
  have hins : (Cond.instantiable cls 6).before args s' = true := h _ (by simp [Bundle.ownAtoms])
  obtain ⟨vm₁, cX, kX, hfX, hkX, -, -, X₁, st1⟩ := Y.newCold hexec (own := own) (C := cls) (index := ik) (n := 6) hown' hk' hins hini'
    (g := F0 m pc ls rest) rfl (by rw [hb]; exact d0) (Nat.le_refl _) (Nat.le_refl _)
  generalize hT1 : (T.setVm vm₁).pushCell { cls := cX, slots := kX.instanceTypes.map defaultValue, vm := .none } = T1 at X₁ st1
  have hcat : (Value.ref T.heap.size).category = 1 := rfl
  have hcellA : T1.heap[T.heap.size]? = some (freshCell cX kX) := by rw [← hT1]; exact State.heap_pushCell_size _ _
  have d3' : decode c.code (pc + 3) = .ok (.dup, 1) := by rw [hb]; exact d3
  have d4' : decode c.code (pc + 4) = .ok (.ldc_w is, 3) := by rw [hb]; exact d4
  have hstr' : vk_R own is text sa s' := vk_R.warm hW0 hstr
  obtain ⟨U, hsteps, hrun, hend, hW, hsame, ce, hce, hO⟩ := X₁.ctorThrowS hexec htr (own := own) (cls := cls) (names := names) (ic := ic) hown' hcls hnames h (fun x hx => nomatch hx) hfX hkX hcellA (by rw [hhp, hT]; exact Nat.le_refl _) (msg := .ref sa) rfl
    (g := { method := m, pc := pc + 7, locals := ls, stack := .ref sa :: .ref T.heap.size :: .ref T.heap.size :: rest, locked := none }) rfl hsize rfl rfl (rest := rest) rfl
    (by rw [hb]; exact d7) (by rw [hb]; exact d10) hout hRframes (by simp only [List.map_cons, List.sum_cons, hcat]; omega) hlocks
  obtain ⟨f1, f2⟩ := vx_frame hsame
  rw [hhp] at f1 f2
  have hWs : s.WarmedH U.vm := State.WarmedH.trans hW0 hW
  have hcl : s.vm.findClass cls = some ce.cls := by
    have h9 := hO.cls
    rw [hvm] at h9
    exact h9
  have hall : s.sameButNew ({ U with vm := s.vm } : State) locs mc ms := by
    subst hA
    obtain ⟨e1, e2⟩ := hsame
    rw [State.setFrames_setFrames] at e1
    have h2 : (T.setVm s.vm).sameButNew ({ U with vm := s.vm } : State) [] (0 + 1) (0 + 6) := ⟨e1, e2⟩
    have h3 := X.same.trans h2
    rw [List.append_nil] at h3
    exact h3.mono hc hs
  refine ⟨U, ?_, .threw T.heap.size, hrun, hend, Or.inr ⟨T.heap.size, rfl, cls, ce, locs, hx U hWs.alike f1 (fun q hq => f2 q hq (fun z hz => nomatch hz)), hce, hO.vm, hcl, hWs, hall, hf⟩⟩
  refine st1 _ ?_
  show Steps p.tables e below (T1.setTop { method := m, pc := pc + 3, locals := ls, stack := .ref T.heap.size :: rest, locked := none }) _
  jvm_step X₁.here [X₁.here.top, hexec, d3', Value.category]
  exact X₁.ldcStringW hexec (own := own) (text := text) (index := is) (a := sa) hown' hstr'.1 hstr'.2
    (g := { method := m, pc := pc + 4, locals := ls, stack := .ref T.heap.size :: .ref T.heap.size :: rest, locked := none }) rfl d4' _ hsteps
end Ends
section Bodies
variable {l : Launch}
theorem vx_ofW {y : MethodName} {ws ws' : List Cond} {rm : Room} {Pc : Array Value → State → Prop} {Qc : Array Value → State → Outcome → State → Prop} {XC : String → State → State → Prop} {mc ms : Nat} {free : Addr → Prop} {cc : ByteArray} {maxL : Nat} {ret : Option FieldType}
    (hy : plainName y.cls = true) (hw : ws = Cond.code y cc maxL ret :: ws')
    (body : ∀ p e s m args below meth c s₁, BodyLoose p l y (headSpec ws rm) cc maxL ret e s m args below meth c s₁ → c.maxLocals = maxL → (∀ x ∈ c.exceptionTable.toList, False) → Pc args s →
      W p l e (headSpec ws rm).room s m args below meth c s.heap [] 0 0 (vx_MQ below Qc XC args s mc ms free) (entryFrame m args maxL)) : vx_Met l y ws rm Pc Qc XC mc ms free := by
  refine MetFree.of_bodyS (code := cc) (maxLocals := maxL) (ret := ret) hy ?_ ?_
  · intro args s m h hn
    obtain ⟨meth, c, h1, h2, h3, h4, h5, h6, -, -⟩ := Cond.code_spec hn (atoms_spec (ws := ws) h _ (by rw [hw]; exact List.mem_cons_self))
    exact ⟨meth, c, h1, h2, h3, h4, h5, h6⟩
  · intro p e s m args below meth c s₁ B hml hP _
    have hh0 : s₁.heap = s.heap := by rw [B.state]; rfl
    have ht : ∀ x ∈ c.exceptionTable.toList, False := by
      obtain ⟨meth9, c9, h1, h2, -, -, -, -, h7, -⟩ := Cond.code_spec B.named (atoms_spec (ws := ws) B.pre _ (by rw [hw]; exact List.mem_cons_self))
      cases Option.some.inj (h1.symm.trans B.method)
      cases Option.some.inj (h2.symm.trans (Stand.of_body B).code)
      intro x hx
      rw [Array.isEmpty_iff.mp h7] at hx
      cases hx
    obtain ⟨t, a1, o, b1, b2, b3⟩ := body p e s m args below meth c s₁ B hml ht hP s₁ hh0 (Stand.of_body B)
    exact ⟨t, o, a1, b1, b2, b3⟩
/-- the table of a body with handlers -/
theorem vx_table {p : Program} {x y : MethodName} {S : Spec} {cc bytes : ByteArray} {maxL maxL' : Nat} {ret ret' : Option FieldType} {e : Env} {s s₁ : State} {m : MethodId} {args : Array Value} {below : List Frame} {meth : Method} {c : Code} {hh : List (Nat × Nat × Nat × Nat)}
    (B : BodyLoose p l y S cc maxL ret e s m args below meth c s₁) (h : (Cond.codeWith y bytes maxL' ret' hh).before args s = true) : c.exceptionTable.toList = tableOf hh := by
  obtain ⟨m9, meth9, c9, hn9, h1, h2, -, -, h6, -⟩ := Cond.codeWith_spec h
  cases Option.some.inj (hn9.symm.trans B.named)
  cases Option.some.inj (h1.symm.trans B.method)
  cases Option.some.inj (h2.symm.trans (Stand.of_body B).code)
  rw [← h6, table_eq]
end Bodies
end VXA
/-! ===== END ===== -/
end
section
def RX0 : String := "BagViews$Bag"
def TX0 : u_T := fun k => match k with
  | 0 => ("BagViews$Bag", "cells", "[I", true)
  | 1 => ("BagViews$Bag", "often", "[I", true)
  | _ => ("BagViews$Bag", "rowCount", "I", false)
def tyX0 : Nat → FieldType := fun k => match k with
  | 0 => .array .int
  | 1 => .array .int
  | _ => .int
abbrev wsX00 : List Cond := u_ws RX0 TX0 3
theorem nmX0 : ∀ a, a < 3 → ∀ b, b < 3 → a ≠ b → (TX0 a).2.1 ≠ (TX0 b).2.1 := by decide +kernel
theorem tyX0_ok : ∀ k, k < 3 → parseFieldDescriptor (TX0 k).2.2.1 = some (tyX0 k) := by decide +kernel
abbrev cX0_init : ByteArray := prog_2_method_1_code
def yX0_init : MethodName := ⟨RX0, "<init>", "()V"⟩
abbrev cX0_clear : ByteArray := prog_2_method_2_code
def yX0_clear : MethodName := ⟨RX0, "clear", "()V"⟩
abbrev cX0_copyFrom : ByteArray := prog_2_method_3_code
def yX0_copyFrom : MethodName := ⟨RX0, "copyFrom", "(LBagViews$Bag;)V"⟩
abbrev cX0_cellAt : ByteArray := prog_2_method_4_code
def yX0_cellAt : MethodName := ⟨RX0, "cellAt", "(II)I"⟩
abbrev cX0_readRow : ByteArray := prog_2_method_5_code
def yX0_readRow : MethodName := ⟨RX0, "readRow", "(I[I)V"⟩
abbrev cX0_allTimes : ByteArray := prog_2_method_6_code
def yX0_allTimes : MethodName := ⟨RX0, "allTimes", "()J"⟩
abbrev cX0_timesOf : ByteArray := prog_2_method_7_code
def yX0_timesOf : MethodName := ⟨RX0, "timesOf", "([I)I"⟩
abbrev cX0_add : ByteArray := prog_2_method_8_code
def yX0_add : MethodName := ⟨RX0, "add", "([IJ)Z"⟩
abbrev cX0_countDifferent : ByteArray := prog_2_method_9_code
def yX0_countDifferent : MethodName := ⟨RX0, "countDifferent", "(LBagViews$Bag;)I"⟩
abbrev cX0_placeBehind : ByteArray := prog_2_method_10_code
def yX0_placeBehind : MethodName := ⟨RX0, "placeBehind", "([I)I"⟩
abbrev cX0_isAt : ByteArray := prog_2_method_11_code
def yX0_isAt : MethodName := ⟨RX0, "isAt", "(I[I)Z"⟩
abbrev cX0_compareRow : ByteArray := prog_2_method_12_code
def yX0_compareRow : MethodName := ⟨RX0, "compareRow", "(I[II)I"⟩
abbrev cX0_setTimes : ByteArray := prog_2_method_13_code
def yX0_setTimes : MethodName := ⟨RX0, "setTimes", "(IJ)Z"⟩
abbrev cX0_insert : ByteArray := prog_2_method_14_code
def yX0_insert : MethodName := ⟨RX0, "insert", "(I[IJ)Z"⟩
abbrev cX0_remove : ByteArray := prog_2_method_15_code
def yX0_remove : MethodName := ⟨RX0, "remove", "(I)V"⟩
def RX1 : String := "BagViews$Choice"
def TX1 : u_T := fun k => match k with
  | 0 => ("BagViews$View", "left", "LBagViews$Relation;", true)
  | 1 => ("BagViews$View", "right", "LBagViews$Relation;", true)
  | 2 => ("BagViews$View", "depth", "I", true)
  | 3 => ("BagViews$View", "row", "[I", true)
  | _ => ("BagViews$Choice", "chosen", "[I", true)
def tyX1 : Nat → FieldType := fun k => match k with
  | 0 => .object "BagViews$Relation"
  | 1 => .object "BagViews$Relation"
  | 2 => .int
  | 3 => .array .int
  | _ => .array .int
abbrev wsX10 : List Cond := u_ws RX1 TX1 5
theorem nmX1 : ∀ a, a < 5 → ∀ b, b < 5 → a ≠ b → (TX1 a).2.1 ≠ (TX1 b).2.1 := by decide +kernel
theorem tyX1_ok : ∀ k, k < 5 → parseFieldDescriptor (TX1 k).2.2.1 = some (tyX1 k) := by decide +kernel
abbrev cX1_init : ByteArray := prog_3_method_1_code
def yX1_init : MethodName := ⟨RX1, "<init>", "(LBagViews$Relation;[I)V"⟩
abbrev cX1_makeInto : ByteArray := prog_3_method_2_code
def yX1_makeInto : MethodName := ⟨RX1, "makeInto", "(LBagViews$Bag;)Z"⟩
def RX2 : String := "BagViews$Difference"
def TX2 : u_T := fun k => match k with
  | 0 => ("BagViews$View", "left", "LBagViews$Relation;", true)
  | 1 => ("BagViews$View", "right", "LBagViews$Relation;", true)
  | 2 => ("BagViews$View", "depth", "I", true)
  | _ => ("BagViews$View", "row", "[I", true)
def tyX2 : Nat → FieldType := fun k => match k with
  | 0 => .object "BagViews$Relation"
  | 1 => .object "BagViews$Relation"
  | 2 => .int
  | _ => .array .int
abbrev wsX20 : List Cond := u_ws RX2 TX2 4
theorem nmX2 : ∀ a, a < 4 → ∀ b, b < 4 → a ≠ b → (TX2 a).2.1 ≠ (TX2 b).2.1 := by decide +kernel
theorem tyX2_ok : ∀ k, k < 4 → parseFieldDescriptor (TX2 k).2.2.1 = some (tyX2 k) := by decide +kernel
abbrev cX2_init : ByteArray := prog_4_method_1_code
def yX2_init : MethodName := ⟨RX2, "<init>", "(LBagViews$Relation;LBagViews$Relation;)V"⟩
abbrev cX2_makeInto : ByteArray := prog_4_method_2_code
def yX2_makeInto : MethodName := ⟨RX2, "makeInto", "(LBagViews$Bag;)Z"⟩
def RX3 : String := "BagViews$Group"
def TX3 : u_T := fun k => match k with
  | 0 => ("BagViews$View", "left", "LBagViews$Relation;", true)
  | 1 => ("BagViews$View", "right", "LBagViews$Relation;", true)
  | 2 => ("BagViews$View", "depth", "I", true)
  | 3 => ("BagViews$View", "row", "[I", true)
  | 4 => ("BagViews$Group", "by", "I", true)
  | 5 => ("BagViews$Group", "sort", "I", true)
  | _ => ("BagViews$Group", "column", "I", true)
def tyX3 : Nat → FieldType := fun k => match k with
  | 0 => .object "BagViews$Relation"
  | 1 => .object "BagViews$Relation"
  | 2 => .int
  | 3 => .array .int
  | 4 => .int
  | 5 => .int
  | _ => .int
abbrev wsX30 : List Cond := u_ws RX3 TX3 7
theorem nmX3 : ∀ a, a < 7 → ∀ b, b < 7 → a ≠ b → (TX3 a).2.1 ≠ (TX3 b).2.1 := by decide +kernel
theorem tyX3_ok : ∀ k, k < 7 → parseFieldDescriptor (TX3 k).2.2.1 = some (tyX3 k) := by decide +kernel
abbrev cX3_init : ByteArray := prog_5_method_1_code
def yX3_init : MethodName := ⟨RX3, "<init>", "(LBagViews$Relation;III)V"⟩
abbrev cX3_makeInto : ByteArray := prog_5_method_2_code
def yX3_makeInto : MethodName := ⟨RX3, "makeInto", "(LBagViews$Bag;)Z"⟩
abbrev cX3_isFirst : ByteArray := prog_5_method_3_code
def yX3_isFirst : MethodName := ⟨RX3, "isFirst", "(LBagViews$Bag;I)Z"⟩
abbrev cX3_isTogether : ByteArray := prog_5_method_4_code
def yX3_isTogether : MethodName := ⟨RX3, "isTogether", "(LBagViews$Bag;II)Z"⟩
abbrev cX3_valueFrom : ByteArray := prog_5_method_5_code
def yX3_valueFrom : MethodName := ⟨RX3, "valueFrom", "(LBagViews$Bag;I)I"⟩
abbrev cX3_withRow : ByteArray := prog_5_method_6_code
def yX3_withRow : MethodName := ⟨RX3, "withRow", "(III)I"⟩
def RX4 : String := "BagViews$Join"
def TX4 : u_T := fun k => match k with
  | 0 => ("BagViews$View", "left", "LBagViews$Relation;", true)
  | 1 => ("BagViews$View", "right", "LBagViews$Relation;", true)
  | 2 => ("BagViews$View", "depth", "I", true)
  | 3 => ("BagViews$View", "row", "[I", true)
  | 4 => ("BagViews$Join", "leftColumn", "I", true)
  | _ => ("BagViews$Join", "rightColumn", "I", true)
def tyX4 : Nat → FieldType := fun k => match k with
  | 0 => .object "BagViews$Relation"
  | 1 => .object "BagViews$Relation"
  | 2 => .int
  | 3 => .array .int
  | 4 => .int
  | _ => .int
abbrev wsX40 : List Cond := u_ws RX4 TX4 6
theorem nmX4 : ∀ a, a < 6 → ∀ b, b < 6 → a ≠ b → (TX4 a).2.1 ≠ (TX4 b).2.1 := by decide +kernel
theorem tyX4_ok : ∀ k, k < 6 → parseFieldDescriptor (TX4 k).2.2.1 = some (tyX4 k) := by decide +kernel
abbrev cX4_init : ByteArray := prog_6_method_1_code
def yX4_init : MethodName := ⟨RX4, "<init>", "(LBagViews$Relation;LBagViews$Relation;II)V"⟩
abbrev cX4_makeInto : ByteArray := prog_6_method_2_code
def yX4_makeInto : MethodName := ⟨RX4, "makeInto", "(LBagViews$Bag;)Z"⟩
abbrev cX4_readPair : ByteArray := prog_6_method_3_code
def yX4_readPair : MethodName := ⟨RX4, "readPair", "(LBagViews$Bag;ILBagViews$Bag;I)V"⟩
def RX5 : String := "BagViews$Once"
def TX5 : u_T := fun k => match k with
  | 0 => ("BagViews$View", "left", "LBagViews$Relation;", true)
  | 1 => ("BagViews$View", "right", "LBagViews$Relation;", true)
  | 2 => ("BagViews$View", "depth", "I", true)
  | _ => ("BagViews$View", "row", "[I", true)
def tyX5 : Nat → FieldType := fun k => match k with
  | 0 => .object "BagViews$Relation"
  | 1 => .object "BagViews$Relation"
  | 2 => .int
  | _ => .array .int
abbrev wsX50 : List Cond := u_ws RX5 TX5 4
theorem nmX5 : ∀ a, a < 4 → ∀ b, b < 4 → a ≠ b → (TX5 a).2.1 ≠ (TX5 b).2.1 := by decide +kernel
theorem tyX5_ok : ∀ k, k < 4 → parseFieldDescriptor (TX5 k).2.2.1 = some (tyX5 k) := by decide +kernel
abbrev cX5_init : ByteArray := prog_7_method_1_code
def yX5_init : MethodName := ⟨RX5, "<init>", "(LBagViews$Relation;)V"⟩
abbrev cX5_makeInto : ByteArray := prog_7_method_2_code
def yX5_makeInto : MethodName := ⟨RX5, "makeInto", "(LBagViews$Bag;)Z"⟩
def RX6 : String := "BagViews$Relation"
def TX6 : u_T := fun k => match k with
  | 0 => ("BagViews$Relation", "now", "LBagViews$Bag;", false)
  | 1 => ("BagViews$Relation", "next", "LBagViews$Bag;", false)
  | 2 => ("BagViews$Relation", "view", "LBagViews$View;", false)
  | 3 => ("BagViews$Relation", "columnCount", "I", false)
  | 4 => ("BagViews$Relation", "pending", "I", false)
  | _ => ("BagViews$Relation", "changedRows", "I", false)
def tyX6 : Nat → FieldType := fun k => match k with
  | 0 => .object "BagViews$Bag"
  | 1 => .object "BagViews$Bag"
  | 2 => .object "BagViews$View"
  | 3 => .int
  | 4 => .int
  | _ => .int
abbrev wsX60 : List Cond := u_ws RX6 TX6 6
theorem nmX6 : ∀ a, a < 6 → ∀ b, b < 6 → a ≠ b → (TX6 a).2.1 ≠ (TX6 b).2.1 := by decide +kernel
theorem tyX6_ok : ∀ k, k < 6 → parseFieldDescriptor (TX6 k).2.2.1 = some (tyX6 k) := by decide +kernel
abbrev cX6_init : ByteArray := prog_8_method_1_code
def yX6_init : MethodName := ⟨RX6, "<init>", "()V"⟩
abbrev cX6_begin : ByteArray := prog_8_method_2_code
def yX6_begin : MethodName := ⟨RX6, "begin", "(ILBagViews$View;)V"⟩
abbrev cX6_end : ByteArray := prog_8_method_3_code
def yX6_end : MethodName := ⟨RX6, "end", "()V"⟩
abbrev cX6_isThere : ByteArray := prog_8_method_4_code
def yX6_isThere : MethodName := ⟨RX6, "isThere", "()Z"⟩
abbrev cX6_isOf : ByteArray := prog_8_method_5_code
def yX6_isOf : MethodName := ⟨RX6, "isOf", "(LBagViews$Relation;)Z"⟩
abbrev cX6_depth : ByteArray := prog_8_method_6_code
def yX6_depth : MethodName := ⟨RX6, "depth", "()I"⟩
abbrev cX6_latest : ByteArray := prog_8_method_7_code
def yX6_latest : MethodName := ⟨RX6, "latest", "()LBagViews$Bag;"⟩
abbrev cX6_remake : ByteArray := prog_8_method_8_code
def yX6_remake : MethodName := ⟨RX6, "remake", "()Z"⟩
abbrev cX6_settle : ByteArray := prog_8_method_9_code
def yX6_settle : MethodName := ⟨RX6, "settle", "(Z)V"⟩
def RX7 : String := "BagViews$Selection"
def TX7 : u_T := fun k => match k with
  | 0 => ("BagViews$View", "left", "LBagViews$Relation;", true)
  | 1 => ("BagViews$View", "right", "LBagViews$Relation;", true)
  | 2 => ("BagViews$View", "depth", "I", true)
  | 3 => ("BagViews$View", "row", "[I", true)
  | 4 => ("BagViews$Selection", "column", "I", true)
  | 5 => ("BagViews$Selection", "compare", "I", true)
  | 6 => ("BagViews$Selection", "than", "I", true)
  | _ => ("BagViews$Selection", "thanColumn", "Z", true)
def tyX7 : Nat → FieldType := fun k => match k with
  | 0 => .object "BagViews$Relation"
  | 1 => .object "BagViews$Relation"
  | 2 => .int
  | 3 => .array .int
  | 4 => .int
  | 5 => .int
  | 6 => .int
  | _ => .boolean
abbrev wsX70 : List Cond := u_ws RX7 TX7 8
theorem nmX7 : ∀ a, a < 8 → ∀ b, b < 8 → a ≠ b → (TX7 a).2.1 ≠ (TX7 b).2.1 := by decide +kernel
theorem tyX7_ok : ∀ k, k < 8 → parseFieldDescriptor (TX7 k).2.2.1 = some (tyX7 k) := by decide +kernel
abbrev cX7_init : ByteArray := prog_9_method_1_code
def yX7_init : MethodName := ⟨RX7, "<init>", "(LBagViews$Relation;IIIZ)V"⟩
abbrev cX7_makeInto : ByteArray := prog_9_method_2_code
def yX7_makeInto : MethodName := ⟨RX7, "makeInto", "(LBagViews$Bag;)Z"⟩
abbrev cX7_holds : ByteArray := prog_9_method_3_code
def yX7_holds : MethodName := ⟨RX7, "holds", "(II)Z"⟩
def RX8 : String := "BagViews$Union"
def TX8 : u_T := fun k => match k with
  | 0 => ("BagViews$View", "left", "LBagViews$Relation;", true)
  | 1 => ("BagViews$View", "right", "LBagViews$Relation;", true)
  | 2 => ("BagViews$View", "depth", "I", true)
  | _ => ("BagViews$View", "row", "[I", true)
def tyX8 : Nat → FieldType := fun k => match k with
  | 0 => .object "BagViews$Relation"
  | 1 => .object "BagViews$Relation"
  | 2 => .int
  | _ => .array .int
abbrev wsX80 : List Cond := u_ws RX8 TX8 4
theorem nmX8 : ∀ a, a < 4 → ∀ b, b < 4 → a ≠ b → (TX8 a).2.1 ≠ (TX8 b).2.1 := by decide +kernel
theorem tyX8_ok : ∀ k, k < 4 → parseFieldDescriptor (TX8 k).2.2.1 = some (tyX8 k) := by decide +kernel
abbrev cX8_init : ByteArray := prog_10_method_1_code
def yX8_init : MethodName := ⟨RX8, "<init>", "(LBagViews$Relation;LBagViews$Relation;)V"⟩
abbrev cX8_makeInto : ByteArray := prog_10_method_2_code
def yX8_makeInto : MethodName := ⟨RX8, "makeInto", "(LBagViews$Bag;)Z"⟩
def RX9 : String := "BagViews$View"
def TX9 : u_T := fun k => match k with
  | _ => ("", "", "", false)
def tyX9 : Nat → FieldType := fun k => match k with
  | _ => .int
abbrev wsX90 : List Cond := u_ws RX9 TX9 0
theorem nmX9 : ∀ a, a < 0 → ∀ b, b < 0 → a ≠ b → (TX9 a).2.1 ≠ (TX9 b).2.1 := by decide +kernel
theorem tyX9_ok : ∀ k, k < 0 → parseFieldDescriptor (TX9 k).2.2.1 = some (tyX9 k) := by decide +kernel
abbrev cX9_init : ByteArray := prog_11_method_1_code
def yX9_init : MethodName := ⟨RX9, "<init>", "(LBagViews$Relation;LBagViews$Relation;)V"⟩
abbrev cX9_isTouched : ByteArray := prog_11_method_2_code
def yX9_isTouched : MethodName := ⟨RX9, "isTouched", "()Z"⟩
def RX10 : String := "BagViews"
def TX10 : u_T := fun k => match k with
  | 0 => ("BagViews", "relations", "[LBagViews$Relation;", true)
  | _ => ("BagViews", "told", "[I", true)
def tyX10 : Nat → FieldType := fun k => match k with
  | 0 => .array (.object "BagViews$Relation")
  | _ => .array .int
abbrev wsX100 : List Cond := u_ws RX10 TX10 2
theorem nmX10 : ∀ a, a < 2 → ∀ b, b < 2 → a ≠ b → (TX10 a).2.1 ≠ (TX10 b).2.1 := by decide +kernel
theorem tyX10_ok : ∀ k, k < 2 → parseFieldDescriptor (TX10 k).2.2.1 = some (tyX10 k) := by decide +kernel
abbrev cX10_init : ByteArray := prog_1_method_1_code
def yX10_init : MethodName := ⟨RX10, "<init>", "()V"⟩
abbrev cX10_table : ByteArray := prog_1_method_2_code
def yX10_table : MethodName := ⟨RX10, "table", "(II)V"⟩
abbrev cX10_select : ByteArray := prog_1_method_3_code
def yX10_select : MethodName := ⟨RX10, "select", "(IIIIIZ)V"⟩
abbrev cX10_columns : ByteArray := prog_1_method_4_code
def yX10_columns : MethodName := ⟨RX10, "columns", "(IIIIII)V"⟩
abbrev cX10_join : ByteArray := prog_1_method_5_code
def yX10_join : MethodName := ⟨RX10, "join", "(IIIII)V"⟩
abbrev cX10_both : ByteArray := prog_1_method_6_code
def yX10_both : MethodName := ⟨RX10, "both", "(IIIZ)V"⟩
abbrev cX10_once : ByteArray := prog_1_method_7_code
def yX10_once : MethodName := ⟨RX10, "once", "(II)V"⟩
abbrev cX10_group : ByteArray := prog_1_method_8_code
def yX10_group : MethodName := ⟨RX10, "group", "(IIIII)V"⟩
abbrev cX10_drop : ByteArray := prog_1_method_9_code
def yX10_drop : MethodName := ⟨RX10, "drop", "(I)V"⟩
abbrev cX10_put : ByteArray := prog_1_method_10_code
def yX10_put : MethodName := ⟨RX10, "put", "(IIIIII)I"⟩
abbrev cX10_fill : ByteArray := prog_1_method_11_code
def yX10_fill : MethodName := ⟨RX10, "fill", "(IIIIII)I"⟩
abbrev cX10_width : ByteArray := prog_1_method_12_code
def yX10_width : MethodName := ⟨RX10, "width", "(I)I"⟩
abbrev cX10_rows : ByteArray := prog_1_method_13_code
def yX10_rows : MethodName := ⟨RX10, "rows", "(I)I"⟩
abbrev cX10_size : ByteArray := prog_1_method_14_code
def yX10_size : MethodName := ⟨RX10, "size", "(I)J"⟩
abbrev cX10_times : ByteArray := prog_1_method_15_code
def yX10_times : MethodName := ⟨RX10, "times", "(IIIII)I"⟩
abbrev cX10_cell : ByteArray := prog_1_method_16_code
def yX10_cell : MethodName := ⟨RX10, "cell", "(III)I"⟩
abbrev cX10_changed : ByteArray := prog_1_method_17_code
def yX10_changed : MethodName := ⟨RX10, "changed", "(I)I"⟩
abbrev cX10_count : ByteArray := prog_1_method_18_code
def yX10_count : MethodName := ⟨RX10, "count", "(I)I"⟩
abbrev cX10_countIn : ByteArray := prog_1_method_19_code
def yX10_countIn : MethodName := ⟨RX10, "countIn", "(LBagViews$Relation;I)I"⟩
abbrev cX10_placeAt : ByteArray := prog_1_method_20_code
def yX10_placeAt : MethodName := ⟨RX10, "placeAt", "(I)LBagViews$Relation;"⟩
abbrev cX10_relationAt : ByteArray := prog_1_method_21_code
def yX10_relationAt : MethodName := ⟨RX10, "relationAt", "(I)LBagViews$Relation;"⟩
abbrev cX10_tableAt : ByteArray := prog_1_method_22_code
def yX10_tableAt : MethodName := ⟨RX10, "tableAt", "(I)LBagViews$Relation;"⟩
abbrev cX10_needFree : ByteArray := prog_1_method_23_code
def yX10_needFree : MethodName := ⟨RX10, "needFree", "(LBagViews$Relation;)V"⟩
abbrev cX10_needColumn : ByteArray := prog_1_method_24_code
def yX10_needColumn : MethodName := ⟨RX10, "needColumn", "(LBagViews$Relation;I)V"⟩
abbrev cX10_needColumnOrNone : ByteArray := prog_1_method_25_code
def yX10_needColumnOrNone : MethodName := ⟨RX10, "needColumnOrNone", "(LBagViews$Relation;I)V"⟩
abbrev cX10_countChosen : ByteArray := prog_1_method_26_code
def yX10_countChosen : MethodName := ⟨RX10, "countChosen", "([I)I"⟩
abbrev cX10_makeView : ByteArray := prog_1_method_27_code
def yX10_makeView : MethodName := ⟨RX10, "makeView", "(LBagViews$Relation;ILBagViews$View;)V"⟩
abbrev cX10_tell : ByteArray := prog_1_method_28_code
def yX10_tell : MethodName := ⟨RX10, "tell", "(LBagViews$Relation;IIII)V"⟩
abbrev cX10_viewsFit : ByteArray := prog_1_method_29_code
def yX10_viewsFit : MethodName := ⟨RX10, "viewsFit", "(LBagViews$Relation;)Z"⟩
abbrev cX10_takeOver : ByteArray := prog_1_method_30_code
def yX10_takeOver : MethodName := ⟨RX10, "takeOver", "(Z)V"⟩
def RX11 : String := "BagViewsModel"
def TX11 : u_T := fun k => match k with
  | 0 => ("BagViewsModel", "thrown", "I", false)
  | 1 => ("BagViewsModel", "kinds", "[I", true)
  | 2 => ("BagViewsModel", "widths", "[I", true)
  | 3 => ("BagViewsModel", "lefts", "[I", true)
  | 4 => ("BagViewsModel", "rights", "[I", true)
  | 5 => ("BagViewsModel", "numbers", "[I", true)
  | 6 => ("BagViewsModel", "others", "[Z", true)
  | 7 => ("BagViewsModel", "order", "[I", true)
  | 8 => ("BagViewsModel", "orderCount", "I", false)
  | 9 => ("BagViewsModel", "changes", "[I", true)
  | 10 => ("BagViewsModel", "cells", "[I", true)
  | 11 => ("BagViewsModel", "times", "[I", true)
  | 12 => ("BagViewsModel", "counts", "[I", true)
  | 13 => ("BagViewsModel", "newCells", "[I", true)
  | 14 => ("BagViewsModel", "newTimes", "[I", true)
  | 15 => ("BagViewsModel", "newCounts", "[I", true)
  | 16 => ("BagViewsModel", "fits", "Z", false)
  | _ => ("BagViewsModel", "row", "[I", true)
def tyX11 : Nat → FieldType := fun k => match k with
  | 0 => .int
  | 1 => .array .int
  | 2 => .array .int
  | 3 => .array .int
  | 4 => .array .int
  | 5 => .array .int
  | 6 => .array .boolean
  | 7 => .array .int
  | 8 => .int
  | 9 => .array .int
  | 10 => .array .int
  | 11 => .array .int
  | 12 => .array .int
  | 13 => .array .int
  | 14 => .array .int
  | 15 => .array .int
  | 16 => .boolean
  | _ => .array .int
abbrev wsX110 : List Cond := u_ws RX11 TX11 18
theorem nmX11 : ∀ a, a < 18 → ∀ b, b < 18 → a ≠ b → (TX11 a).2.1 ≠ (TX11 b).2.1 := by decide +kernel
theorem tyX11_ok : ∀ k, k < 18 → parseFieldDescriptor (TX11 k).2.2.1 = some (tyX11 k) := by decide +kernel
abbrev cX11_init : ByteArray := prog_13_method_1_code
def yX11_init : MethodName := ⟨RX11, "<init>", "()V"⟩
abbrev cX11_thrown : ByteArray := prog_13_method_2_code
def yX11_thrown : MethodName := ⟨RX11, "thrown", "()I"⟩
abbrev cX11_place : ByteArray := prog_13_method_3_code
def yX11_place : MethodName := ⟨RX11, "place", "(I)I"⟩
abbrev cX11_isAt : ByteArray := prog_13_method_4_code
def yX11_isAt : MethodName := ⟨RX11, "isAt", "(II)Z"⟩
abbrev cX11_add : ByteArray := prog_13_method_5_code
def yX11_add : MethodName := ⟨RX11, "add", "(IJ)V"⟩
abbrev cX11_cut : ByteArray := prog_13_method_6_code
def yX11_cut : MethodName := ⟨RX11, "cut", "(II)V"⟩
abbrev cX11_cellOf : ByteArray := prog_13_method_7_code
def yX11_cellOf : MethodName := ⟨RX11, "cellOf", "(III)I"⟩
abbrev cX11_timesOf : ByteArray := prog_13_method_8_code
def yX11_timesOf : MethodName := ⟨RX11, "timesOf", "(II)J"⟩
abbrev cX11_take : ByteArray := prog_13_method_9_code
def yX11_take : MethodName := ⟨RX11, "take", "(II)V"⟩
abbrev cX11_compares : ByteArray := prog_13_method_10_code
def yX11_compares : MethodName := ⟨RX11, "compares", "(III)Z"⟩
abbrev cX11_make : ByteArray := prog_13_method_11_code
def yX11_make : MethodName := ⟨RX11, "make", "(I)V"⟩
abbrev cX11_makeRow : ByteArray := prog_13_method_12_code
def yX11_makeRow : MethodName := ⟨RX11, "makeRow", "(III)V"⟩
abbrev cX11_makeJoin : ByteArray := prog_13_method_13_code
def yX11_makeJoin : MethodName := ⟨RX11, "makeJoin", "(I)V"⟩
abbrev cX11_isSameGroup : ByteArray := prog_13_method_14_code
def yX11_isSameGroup : MethodName := ⟨RX11, "isSameGroup", "(IIII)Z"⟩
abbrev cX11_makeGroups : ByteArray := prog_13_method_15_code
def yX11_makeGroups : MethodName := ⟨RX11, "makeGroups", "(I)V"⟩
abbrev cX11_begin : ByteArray := prog_13_method_16_code
def yX11_begin : MethodName := ⟨RX11, "begin", "()V"⟩
abbrev cX11_become : ByteArray := prog_13_method_17_code
def yX11_become : MethodName := ⟨RX11, "become", "()V"⟩
abbrev cX11_difference : ByteArray := prog_13_method_18_code
def yX11_difference : MethodName := ⟨RX11, "difference", "(I)I"⟩
abbrev cX11_isPlace : ByteArray := prog_13_method_19_code
def yX11_isPlace : MethodName := ⟨RX11, "isPlace", "(I)Z"⟩
abbrev cX11_is : ByteArray := prog_13_method_20_code
def yX11_is : MethodName := ⟨RX11, "is", "(I)Z"⟩
abbrev cX11_isColumn : ByteArray := prog_13_method_21_code
def yX11_isColumn : MethodName := ⟨RX11, "isColumn", "(II)Z"⟩
abbrev cX11_enter : ByteArray := prog_13_method_22_code
def yX11_enter : MethodName := ⟨RX11, "enter", "(IIIII)V"⟩
abbrev cX11_leave : ByteArray := prog_13_method_23_code
def yX11_leave : MethodName := ⟨RX11, "leave", "(I)V"⟩
abbrev cX11_view : ByteArray := prog_13_method_24_code
def yX11_view : MethodName := ⟨RX11, "view", "(IIIII)V"⟩
abbrev cX11_table : ByteArray := prog_13_method_25_code
def yX11_table : MethodName := ⟨RX11, "table", "(II)V"⟩
abbrev cX11_select : ByteArray := prog_13_method_26_code
def yX11_select : MethodName := ⟨RX11, "select", "(IIIIIZ)V"⟩
abbrev cX11_columns : ByteArray := prog_13_method_27_code
def yX11_columns : MethodName := ⟨RX11, "columns", "(IIIIII)V"⟩
abbrev cX11_join : ByteArray := prog_13_method_28_code
def yX11_join : MethodName := ⟨RX11, "join", "(IIIII)V"⟩
abbrev cX11_both : ByteArray := prog_13_method_29_code
def yX11_both : MethodName := ⟨RX11, "both", "(IIIZ)V"⟩
abbrev cX11_once : ByteArray := prog_13_method_30_code
def yX11_once : MethodName := ⟨RX11, "once", "(II)V"⟩
abbrev cX11_group : ByteArray := prog_13_method_31_code
def yX11_group : MethodName := ⟨RX11, "group", "(IIIII)V"⟩
abbrev cX11_drop : ByteArray := prog_13_method_32_code
def yX11_drop : MethodName := ⟨RX11, "drop", "(I)V"⟩
abbrev cX11_change : ByteArray := prog_13_method_33_code
def yX11_change : MethodName := ⟨RX11, "change", "(II)V"⟩
abbrev cX11_settle : ByteArray := prog_13_method_34_code
def yX11_settle : MethodName := ⟨RX11, "settle", "()Z"⟩
abbrev cX11_setRow : ByteArray := prog_13_method_35_code
def yX11_setRow : MethodName := ⟨RX11, "setRow", "(IIII)V"⟩
abbrev cX11_timesHere : ByteArray := prog_13_method_36_code
def yX11_timesHere : MethodName := ⟨RX11, "timesHere", "(I)I"⟩
abbrev cX11_put : ByteArray := prog_13_method_37_code
def yX11_put : MethodName := ⟨RX11, "put", "(IIIIII)I"⟩
abbrev cX11_fill : ByteArray := prog_13_method_38_code
def yX11_fill : MethodName := ⟨RX11, "fill", "(IIIIII)I"⟩
abbrev cX11_width : ByteArray := prog_13_method_39_code
def yX11_width : MethodName := ⟨RX11, "width", "(I)I"⟩
abbrev cX11_rows : ByteArray := prog_13_method_40_code
def yX11_rows : MethodName := ⟨RX11, "rows", "(I)I"⟩
abbrev cX11_size : ByteArray := prog_13_method_41_code
def yX11_size : MethodName := ⟨RX11, "size", "(I)J"⟩
abbrev cX11_times : ByteArray := prog_13_method_42_code
def yX11_times : MethodName := ⟨RX11, "times", "(IIIII)I"⟩
abbrev cX11_cell : ByteArray := prog_13_method_43_code
def yX11_cell : MethodName := ⟨RX11, "cell", "(III)I"⟩
abbrev cX11_changed : ByteArray := prog_13_method_44_code
def yX11_changed : MethodName := ⟨RX11, "changed", "(I)I"⟩
abbrev cX11_count : ByteArray := prog_13_method_45_code
def yX11_count : MethodName := ⟨RX11, "count", "(I)I"⟩
def RJ9 : String := "java/lang/Math"
def TJ9 : u_T := fun k => match k with
  | _ => ("", "", "", false)
def tyJ9 : Nat → FieldType := fun k => match k with
  | _ => .int
abbrev wsJ90 : List Cond := u_ws RJ9 TJ9 0
theorem nmJ9 : ∀ a, a < 0 → ∀ b, b < 0 → a ≠ b → (TJ9 a).2.1 ≠ (TJ9 b).2.1 := by decide +kernel
theorem tyJ9_ok : ∀ k, k < 0 → parseFieldDescriptor (TJ9 k).2.2.1 = some (tyJ9 k) := by decide +kernel
abbrev cJ9_max_7cf53 : ByteArray := prog_18_method_65_code
def yJ9_max_7cf53 : MethodName := ⟨RJ9, "max", "(II)I"⟩
abbrev cJ9_min_7cf53 : ByteArray := prog_18_method_69_code
def yJ9_min_7cf53 : MethodName := ⟨RJ9, "min", "(II)I"⟩
def RJ0 : String := "java/lang/String"
def TJ0 : u_T := fun k => match k with
  | _ => ("", "", "", false)
def tyJ0 : Nat → FieldType := fun k => match k with
  | _ => .int
abbrev wsJ00 : List Cond := u_ws RJ0 TJ0 0
theorem nmJ0 : ∀ a, a < 0 → ∀ b, b < 0 → a ≠ b → (TJ0 a).2.1 ≠ (TJ0 b).2.1 := by decide +kernel
theorem tyJ0_ok : ∀ k, k < 0 → parseFieldDescriptor (TJ0 k).2.2.1 = some (tyJ0 k) := by decide +kernel
def RJ10 : String := "java/lang/System"
def TJ10 : u_T := fun k => match k with
  | _ => ("", "", "", false)
def tyJ10 : Nat → FieldType := fun k => match k with
  | _ => .int
abbrev wsJ100 : List Cond := u_ws RJ10 TJ10 0
theorem nmJ10 : ∀ a, a < 0 → ∀ b, b < 0 → a ≠ b → (TJ10 a).2.1 ≠ (TJ10 b).2.1 := by decide +kernel
theorem tyJ10_ok : ∀ k, k < 0 → parseFieldDescriptor (TJ10 k).2.2.1 = some (tyJ10 k) := by decide +kernel
def RL : String := "BagViewsLaw"
abbrev cL_table : ByteArray := method_3_code
def yL_table : MethodName := ⟨RL, "table", "(LBagViews;II)I"⟩
abbrev cL_select : ByteArray := method_4_code
def yL_select : MethodName := ⟨RL, "select", "(LBagViews;IIIIIZ)I"⟩
abbrev cL_columns : ByteArray := method_5_code
def yL_columns : MethodName := ⟨RL, "columns", "(LBagViews;IIIIII)I"⟩
abbrev cL_join : ByteArray := method_6_code
def yL_join : MethodName := ⟨RL, "join", "(LBagViews;IIIII)I"⟩
abbrev cL_both : ByteArray := method_7_code
def yL_both : MethodName := ⟨RL, "both", "(LBagViews;IIIZ)I"⟩
abbrev cL_once : ByteArray := method_8_code
def yL_once : MethodName := ⟨RL, "once", "(LBagViews;II)I"⟩
abbrev cL_group : ByteArray := method_9_code
def yL_group : MethodName := ⟨RL, "group", "(LBagViews;IIIII)I"⟩
abbrev cL_drop : ByteArray := method_10_code
def yL_drop : MethodName := ⟨RL, "drop", "(LBagViews;I)I"⟩
abbrev cL_put : ByteArray := method_11_code
def yL_put : MethodName := ⟨RL, "put", "(LBagViews;IIIIII[J)I"⟩
abbrev cL_fill : ByteArray := method_12_code
def yL_fill : MethodName := ⟨RL, "fill", "(LBagViews;IIIIII[J)I"⟩
abbrev cL_width : ByteArray := method_13_code
def yL_width : MethodName := ⟨RL, "width", "(LBagViews;I[J)I"⟩
abbrev cL_rows : ByteArray := method_14_code
def yL_rows : MethodName := ⟨RL, "rows", "(LBagViews;I[J)I"⟩
abbrev cL_size : ByteArray := method_15_code
def yL_size : MethodName := ⟨RL, "size", "(LBagViews;I[J)I"⟩
abbrev cL_times : ByteArray := method_16_code
def yL_times : MethodName := ⟨RL, "times", "(LBagViews;IIIII[J)I"⟩
abbrev cL_cell : ByteArray := method_17_code
def yL_cell : MethodName := ⟨RL, "cell", "(LBagViews;III[J)I"⟩
abbrev cL_changed : ByteArray := method_18_code
def yL_changed : MethodName := ⟨RL, "changed", "(LBagViews;I[J)I"⟩
abbrev cL_count : ByteArray := method_19_code
def yL_count : MethodName := ⟨RL, "count", "(LBagViews;I[J)I"⟩
abbrev cL_law : ByteArray := code
def yL_law : MethodName := ⟨RL, "law", "([I)Z"⟩
abbrev vwCl : List vw_C := [(RX0, TX0, 3), (RX1, TX1, 5), (RX2, TX2, 4), (RX3, TX3, 7), (RX4, TX4, 6), (RX5, TX5, 4), (RX6, TX6, 6), (RX7, TX7, 8), (RX8, TX8, 4), (RX10, TX10, 2), (RX11, TX11, 18)]
def wsL_law0_r1 : List Cond := [Cond.classLink RL 8 RX10, Cond.instantiable RX10 2, Cond.initialized RX10, Cond.classLink RL 80 RX11, Cond.instantiable RX11 18, Cond.initialized RX11, Cond.arrayClass .long, Cond.methodLink RL 79 yX10_init, Cond.instanceMethod yX10_init, Cond.code yX10_init cX10_init 2 none, Cond.methodLink RX10 1 objectInit, Cond.instanceMethod objectInit, Cond.code objectInit ⟨#[0xb1]⟩ 1 none, Cond.classLink RX10 9 RX6, Cond.fieldLink RX10 11 "BagViews" "relations" "[LBagViews$Relation;", Cond.arrayClass .int, Cond.fieldLink RX10 15 "BagViews" "told" "[I", Cond.instantiable RX6 6, Cond.initialized RX6, Cond.instanceMethod yX6_init, Cond.code yX6_init cX6_init 1 none, Cond.methodLink RX6 1 objectInit, Cond.classLink RX6 7 RX0, Cond.instantiable RX0 3]
def wsL_law0_r2 : List Cond := [Cond.initialized RX0, Cond.fieldLink RX6 10 "BagViews$Relation" "now" "LBagViews$Bag;", Cond.fieldLink RX6 16 "BagViews$Relation" "next" "LBagViews$Bag;", Cond.fieldLink RX6 19 "BagViews$Relation" "view" "LBagViews$View;", Cond.fieldLink RX6 23 "BagViews$Relation" "columnCount" "I", Cond.fieldLink RX6 27 "BagViews$Relation" "pending" "I", Cond.fieldLink RX6 30 "BagViews$Relation" "changedRows" "I", Cond.instanceMethod yX0_init, Cond.code yX0_init cX0_init 1 none, Cond.methodLink RX0 3 objectInit, Cond.fieldLink RX0 9 "BagViews$Bag" "cells" "[I", Cond.fieldLink RX0 15 "BagViews$Bag" "often" "[I", Cond.methodLink RL 82 yX11_init, Cond.instanceMethod yX11_init, Cond.code yX11_init cX11_init 1 none, Cond.methodLink RX11 1 objectInit, Cond.fieldLink RX11 7 "BagViewsModel" "kinds" "[I", Cond.fieldLink RX11 13 "BagViewsModel" "widths" "[I", Cond.fieldLink RX11 16 "BagViewsModel" "lefts" "[I", Cond.fieldLink RX11 19 "BagViewsModel" "rights" "[I", Cond.fieldLink RX11 22 "BagViewsModel" "numbers" "[I", Cond.arrayClass .boolean, Cond.fieldLink RX11 25 "BagViewsModel" "others" "[Z", Cond.fieldLink RX11 29 "BagViewsModel" "order" "[I"]
def wsL_law0_r3 : List Cond := [Cond.fieldLink RX11 32 "BagViewsModel" "changes" "[I", Cond.fieldLink RX11 35 "BagViewsModel" "cells" "[I", Cond.fieldLink RX11 38 "BagViewsModel" "times" "[I", Cond.fieldLink RX11 41 "BagViewsModel" "counts" "[I", Cond.fieldLink RX11 44 "BagViewsModel" "newCells" "[I", Cond.fieldLink RX11 47 "BagViewsModel" "newTimes" "[I", Cond.fieldLink RX11 50 "BagViewsModel" "newCounts" "[I", Cond.fieldLink RX11 53 "BagViewsModel" "row" "[I", Cond.methodLink RL 83 yL_table, Cond.static yL_table, Cond.initialized RL, Cond.codeWith yL_table cL_table 4 (some .int) [(0, 6, 9, 13), (0, 6, 12, 15), (0, 6, 15, 17)], Cond.classLink RL 13 "java/lang/IndexOutOfBoundsException", Cond.classLink RL 15 "java/lang/IllegalStateException", Cond.classLink RL 17 "java/lang/IllegalArgumentException", Cond.methodLink RL 7 yX10_table, Cond.instanceMethod yX10_table, Cond.selects RX10 yX10_table yX10_table, Cond.code yX10_table cX10_table 4 none, Cond.classLink RX10 28 "java/lang/IllegalArgumentException", Cond.initialized "java/lang/IllegalArgumentException", Cond.methodLink RX10 20 yX10_placeAt, Cond.instanceMethod yX10_placeAt, Cond.selects RX10 yX10_placeAt yX10_placeAt]
def wsL_law0_r4 : List Cond := [Cond.code yX10_placeAt cX10_placeAt 2 (some (.object "BagViews$Relation")), Cond.classLink RX10 165 "java/lang/IndexOutOfBoundsException", Cond.initialized "java/lang/IndexOutOfBoundsException", Cond.methodLink RX10 24 yX10_needFree, Cond.static yX10_needFree, Cond.code yX10_needFree cX10_needFree 1 none, Cond.classLink RX10 114 "java/lang/IllegalStateException", Cond.initialized "java/lang/IllegalStateException", Cond.methodLink RX10 182 yX6_isThere, Cond.instanceMethod yX6_isThere, Cond.selects RX6 yX6_isThere yX6_isThere, Cond.code yX6_isThere cX6_isThere 1 (some .boolean), Cond.methodLink RX10 39 yX0_clear, Cond.instanceMethod yX0_clear, Cond.selects RX0 yX0_clear yX0_clear, Cond.code yX0_clear cX0_clear 1 none, Cond.fieldLink RX0 18 "BagViews$Bag" "rowCount" "I", Cond.methodLink RX10 44 yX6_begin, Cond.instanceMethod yX6_begin, Cond.selects RX6 yX6_begin yX6_begin, Cond.code yX6_begin cX6_begin 3 none, Cond.methodLink RL 88 yX11_table, Cond.instanceMethod yX11_table, Cond.selects RX11 yX11_table yX11_table]
def wsL_law0_r5 : List Cond := [Cond.code yX11_table cX11_table 3 none, Cond.fieldLink RX11 56 "BagViewsModel" "thrown" "I", Cond.methodLink RX11 109 yX11_isPlace, Cond.static yX11_isPlace, Cond.code yX11_isPlace cX11_isPlace 1 (some .boolean), Cond.methodLink RX11 119 yX11_enter, Cond.instanceMethod yX11_enter, Cond.selects RX11 yX11_enter yX11_enter, Cond.code yX11_enter cX11_enter 6 none, Cond.fieldLink RX11 116 "BagViewsModel" "orderCount" "I", Cond.methodLink RL 89 yX11_thrown, Cond.instanceMethod yX11_thrown, Cond.selects RX11 yX11_thrown yX11_thrown, Cond.code yX11_thrown cX11_thrown 1 (some .int), Cond.methodLink RL 93 yL_select, Cond.static yL_select, Cond.codeWith yL_select cL_select 8 (some .int) [(0, 13, 16, 13), (0, 13, 20, 15), (0, 13, 24, 17), (0, 13, 28, 23)], Cond.classLink RL 23 "java/lang/UnsupportedOperationException", Cond.methodLink RL 19 yX10_select, Cond.instanceMethod yX10_select, Cond.selects RX10 yX10_select yX10_select, Cond.code yX10_select cX10_select 9 none, Cond.classLink RX10 61 RX7, Cond.instantiable RX7 8]
def wsL_law0_r6 : List Cond := [Cond.initialized RX7, Cond.methodLink RX10 48 yX10_relationAt, Cond.instanceMethod yX10_relationAt, Cond.selects RX10 yX10_relationAt yX10_relationAt, Cond.code yX10_relationAt cX10_relationAt 3 (some (.object "BagViews$Relation")), Cond.methodLink RX10 51 yX10_needColumn, Cond.static yX10_needColumn, Cond.code yX10_needColumn cX10_needColumn 2 none, Cond.methodLink RX10 63 yX7_init, Cond.instanceMethod yX7_init, Cond.code yX7_init cX7_init 6 none, Cond.fieldLink RX7 9 "BagViews$Selection" "column" "I", Cond.fieldLink RX7 15 "BagViews$Selection" "compare" "I", Cond.fieldLink RX7 18 "BagViews$Selection" "than" "I", Cond.fieldLink RX7 21 "BagViews$Selection" "thanColumn" "Z", Cond.methodLink RX7 3 yX9_init, Cond.instanceMethod yX9_init, Cond.initialized RX9, Cond.code yX9_init cX9_init 3 none, Cond.methodLink RX9 3 objectInit, Cond.fieldLink RX9 9 "BagViews$View" "row" "[I", Cond.fieldLink RX9 15 "BagViews$View" "left" "LBagViews$Relation;", Cond.fieldLink RX9 19 "BagViews$View" "right" "LBagViews$Relation;", Cond.methodLink RX9 28 Lib.Math.max.name]
def wsL_law0_r7 : List Cond := [Cond.static Lib.Math.max.name, Cond.initialized "java/lang/Math", Cond.code Lib.Math.max.name Lib.Math.max.code 2 (some .int), Cond.fieldLink RX9 34 "BagViews$View" "depth" "I", Cond.methodLink RX9 22 yX6_depth, Cond.instanceMethod yX6_depth, Cond.selects RX6 yX6_depth yX6_depth, Cond.code yX6_depth cX6_depth 1 (some .int), Cond.fieldLink RX6 42 "BagViews$View" "depth" "I", Cond.methodLink RX10 66 yX10_makeView, Cond.static yX10_makeView, Cond.code yX10_makeView cX10_makeView 3 none, Cond.classLink RX10 214 "java/lang/UnsupportedOperationException", Cond.initialized "java/lang/UnsupportedOperationException", Cond.methodLink RX10 208 ⟨"BagViews$View", "makeInto", "(LBagViews$Bag;)Z"⟩, Cond.sameMethod "BagViews$View" "BagViews$View" "makeInto" "(LBagViews$Bag;)Z", Cond.selects RX1 ⟨"BagViews$View", "makeInto", "(LBagViews$Bag;)Z"⟩ yX1_makeInto, Cond.instanceMethod yX1_makeInto, Cond.initialized RX1, Cond.code yX1_makeInto cX1_makeInto 6 (some .boolean), Cond.fieldLink RX1 15 "BagViews$Choice" "left" "LBagViews$Relation;", Cond.sameField "BagViews$Choice" "BagViews$View" "left" "LBagViews$Relation;", Cond.fieldLink RX1 31 "BagViews$Choice" "row" "[I", Cond.sameField "BagViews$Choice" "BagViews$View" "row" "[I"]
def wsL_law0_r8 : List Cond := [Cond.fieldLink RX1 9 "BagViews$Choice" "chosen" "[I", Cond.methodLink RX1 19 yX6_latest, Cond.instanceMethod yX6_latest, Cond.selects RX6 yX6_latest yX6_latest, Cond.code yX6_latest cX6_latest 1 (some (.object "BagViews$Bag")), Cond.methodLink RX1 34 yX0_cellAt, Cond.instanceMethod yX0_cellAt, Cond.selects RX0 yX0_cellAt yX0_cellAt, Cond.code yX0_cellAt cX0_cellAt 3 (some .int), Cond.methodLink RX1 41 yX0_add, Cond.instanceMethod yX0_add, Cond.selects RX0 yX0_add yX0_add, Cond.code yX0_add cX0_add 5 (some .boolean), Cond.methodLink RX0 28 yX0_placeBehind, Cond.instanceMethod yX0_placeBehind, Cond.selects RX0 yX0_placeBehind yX0_placeBehind, Cond.code yX0_placeBehind cX0_placeBehind 3 (some .int), Cond.methodLink RX0 44 yX0_compareRow, Cond.instanceMethod yX0_compareRow, Cond.selects RX0 yX0_compareRow yX0_compareRow, Cond.code yX0_compareRow cX0_compareRow 7 (some .int), Cond.methodLink RX0 32 yX0_isAt, Cond.instanceMethod yX0_isAt, Cond.selects RX0 yX0_isAt yX0_isAt]
def wsL_law0_r9 : List Cond := [Cond.code yX0_isAt cX0_isAt 3 (some .boolean), Cond.methodLink RX0 36 yX0_setTimes, Cond.instanceMethod yX0_setTimes, Cond.selects RX0 yX0_setTimes yX0_setTimes, Cond.code yX0_setTimes cX0_setTimes 4 (some .boolean), Cond.constantLong RX0 48 (1000000000), Cond.methodLink RX0 50 yX0_remove, Cond.instanceMethod yX0_remove, Cond.selects RX0 yX0_remove yX0_remove, Cond.code yX0_remove cX0_remove 4 none, Cond.methodLink RX0 22 arraycopyName, Cond.native arraycopyName, Cond.static arraycopyName, Cond.initialized "java/lang/System", Cond.methodLink RX0 40 yX0_insert, Cond.instanceMethod yX0_insert, Cond.selects RX0 yX0_insert yX0_insert, Cond.code yX0_insert cX0_insert 7 (some .boolean), Cond.selects RX2 ⟨"BagViews$View", "makeInto", "(LBagViews$Bag;)Z"⟩ yX2_makeInto, Cond.instanceMethod yX2_makeInto, Cond.initialized RX2, Cond.code yX2_makeInto cX2_makeInto 6 (some .boolean), Cond.fieldLink RX2 7 "BagViews$Difference" "left" "LBagViews$Relation;", Cond.sameField "BagViews$Difference" "BagViews$View" "left" "LBagViews$Relation;"]
def wsL_law0_r10 : List Cond := [Cond.fieldLink RX2 19 "BagViews$Difference" "right" "LBagViews$Relation;", Cond.sameField "BagViews$Difference" "BagViews$View" "right" "LBagViews$Relation;", Cond.fieldLink RX2 28 "BagViews$Difference" "row" "[I", Cond.sameField "BagViews$Difference" "BagViews$View" "row" "[I", Cond.methodLink RX2 13 yX6_latest, Cond.methodLink RX2 32 yX0_readRow, Cond.instanceMethod yX0_readRow, Cond.selects RX0 yX0_readRow yX0_readRow, Cond.code yX0_readRow cX0_readRow 3 none, Cond.methodLink RX2 39 yX0_timesOf, Cond.instanceMethod yX0_timesOf, Cond.selects RX0 yX0_timesOf yX0_timesOf, Cond.code yX0_timesOf cX0_timesOf 3 (some .int), Cond.methodLink RX2 43 yX0_add, Cond.selects RX3 ⟨"BagViews$View", "makeInto", "(LBagViews$Bag;)Z"⟩ yX3_makeInto, Cond.instanceMethod yX3_makeInto, Cond.initialized RX3, Cond.code yX3_makeInto cX3_makeInto 5 (some .boolean), Cond.fieldLink RX3 21 "BagViews$Group" "left" "LBagViews$Relation;", Cond.sameField "BagViews$Group" "BagViews$View" "left" "LBagViews$Relation;", Cond.fieldLink RX3 40 "BagViews$Group" "row" "[I", Cond.sameField "BagViews$Group" "BagViews$View" "row" "[I", Cond.fieldLink RX3 9 "BagViews$Group" "by" "I", Cond.methodLink RX3 25 yX6_latest]
def wsL_law0_r11 : List Cond := [Cond.methodLink RX3 36 yX3_isFirst, Cond.instanceMethod yX3_isFirst, Cond.selects RX3 yX3_isFirst yX3_isFirst, Cond.code yX3_isFirst cX3_isFirst 4 (some .boolean), Cond.methodLink RX3 56 yX3_isTogether, Cond.instanceMethod yX3_isTogether, Cond.selects RX3 yX3_isTogether yX3_isTogether, Cond.code yX3_isTogether cX3_isTogether 4 (some .boolean), Cond.methodLink RX3 44 yX0_cellAt, Cond.methodLink RX3 48 yX3_valueFrom, Cond.instanceMethod yX3_valueFrom, Cond.selects RX3 yX3_valueFrom yX3_valueFrom, Cond.code yX3_valueFrom cX3_valueFrom 5 (some .int), Cond.fieldLink RX3 15 "BagViews$Group" "sort" "I", Cond.fieldLink RX3 18 "BagViews$Group" "column" "I", Cond.methodLink RX3 63 yX3_withRow, Cond.instanceMethod yX3_withRow, Cond.selects RX3 yX3_withRow yX3_withRow, Cond.code yX3_withRow cX3_withRow 4 (some .int), Cond.methodLink RX3 67 Lib.Math.min.name, Cond.static Lib.Math.min.name, Cond.code Lib.Math.min.name Lib.Math.min.code 2 (some .int), Cond.methodLink RX3 72 Lib.Math.max.name, Cond.methodLink RX3 52 yX0_add]
def wsL_law0_r12 : List Cond := [Cond.selects RX4 ⟨"BagViews$View", "makeInto", "(LBagViews$Bag;)Z"⟩ yX4_makeInto, Cond.instanceMethod yX4_makeInto, Cond.initialized RX4, Cond.code yX4_makeInto cX4_makeInto 6 (some .boolean), Cond.fieldLink RX4 18 "BagViews$Join" "left" "LBagViews$Relation;", Cond.sameField "BagViews$Join" "BagViews$View" "left" "LBagViews$Relation;", Cond.fieldLink RX4 28 "BagViews$Join" "right" "LBagViews$Relation;", Cond.sameField "BagViews$Join" "BagViews$View" "right" "LBagViews$Relation;", Cond.fieldLink RX4 9 "BagViews$Join" "leftColumn" "I", Cond.fieldLink RX4 15 "BagViews$Join" "rightColumn" "I", Cond.fieldLink RX4 44 "BagViews$Join" "row" "[I", Cond.sameField "BagViews$Join" "BagViews$View" "row" "[I", Cond.methodLink RX4 22 yX6_latest, Cond.methodLink RX4 36 yX0_cellAt, Cond.methodLink RX4 40 yX4_readPair, Cond.instanceMethod yX4_readPair, Cond.selects RX4 yX4_readPair yX4_readPair, Cond.code yX4_readPair cX4_readPair 6 none, Cond.methodLink RX4 55 yX0_readRow, Cond.methodLink RX4 51 yX0_add, Cond.selects RX5 ⟨"BagViews$View", "makeInto", "(LBagViews$Bag;)Z"⟩ yX5_makeInto, Cond.instanceMethod yX5_makeInto, Cond.initialized RX5, Cond.code yX5_makeInto cX5_makeInto 5 (some .boolean)]
def wsL_law0_r13 : List Cond := [Cond.fieldLink RX5 7 "BagViews$Once" "left" "LBagViews$Relation;", Cond.sameField "BagViews$Once" "BagViews$View" "left" "LBagViews$Relation;", Cond.fieldLink RX5 25 "BagViews$Once" "row" "[I", Cond.sameField "BagViews$Once" "BagViews$View" "row" "[I", Cond.methodLink RX5 13 yX6_latest, Cond.methodLink RX5 29 yX0_readRow, Cond.methodLink RX5 33 yX0_add, Cond.selects RX7 ⟨"BagViews$View", "makeInto", "(LBagViews$Bag;)Z"⟩ yX7_makeInto, Cond.instanceMethod yX7_makeInto, Cond.code yX7_makeInto cX7_makeInto 6 (some .boolean), Cond.fieldLink RX7 25 "BagViews$Selection" "left" "LBagViews$Relation;", Cond.sameField "BagViews$Selection" "BagViews$View" "left" "LBagViews$Relation;", Cond.fieldLink RX7 48 "BagViews$Selection" "row" "[I", Cond.sameField "BagViews$Selection" "BagViews$View" "row" "[I", Cond.methodLink RX7 29 yX6_latest, Cond.methodLink RX7 40 yX0_cellAt, Cond.methodLink RX7 44 yX7_holds, Cond.instanceMethod yX7_holds, Cond.selects RX7 yX7_holds yX7_holds, Cond.code yX7_holds cX7_holds 3 (some .boolean), Cond.methodLink RX7 52 yX0_readRow, Cond.methodLink RX7 59 yX0_add, Cond.selects RX8 ⟨"BagViews$View", "makeInto", "(LBagViews$Bag;)Z"⟩ yX8_makeInto, Cond.instanceMethod yX8_makeInto]
def wsL_law0_r14 : List Cond := [Cond.initialized RX8, Cond.code yX8_makeInto cX8_makeInto 5 (some .boolean), Cond.fieldLink RX8 7 "BagViews$Union" "left" "LBagViews$Relation;", Cond.sameField "BagViews$Union" "BagViews$View" "left" "LBagViews$Relation;", Cond.fieldLink RX8 25 "BagViews$Union" "right" "LBagViews$Relation;", Cond.sameField "BagViews$Union" "BagViews$View" "right" "LBagViews$Relation;", Cond.fieldLink RX8 32 "BagViews$Union" "row" "[I", Cond.sameField "BagViews$Union" "BagViews$View" "row" "[I", Cond.methodLink RX8 13 yX6_latest, Cond.methodLink RX8 19 yX0_copyFrom, Cond.instanceMethod yX0_copyFrom, Cond.selects RX0 yX0_copyFrom yX0_copyFrom, Cond.code yX0_copyFrom cX0_copyFrom 2 none, Cond.methodLink RX8 36 yX0_readRow, Cond.methodLink RX8 43 yX0_add, Cond.methodLink RL 96 yX11_select, Cond.instanceMethod yX11_select, Cond.selects RX11 yX11_select yX11_select, Cond.code yX11_select cX11_select 8 none, Cond.methodLink RX11 135 yX11_isColumn, Cond.instanceMethod yX11_isColumn, Cond.selects RX11 yX11_isColumn yX11_isColumn, Cond.code yX11_isColumn cX11_isColumn 3 (some .boolean), Cond.methodLink RX11 113 yX11_is]
def wsL_law0_r15 : List Cond := [Cond.instanceMethod yX11_is, Cond.selects RX11 yX11_is yX11_is, Cond.code yX11_is cX11_is 2 (some .boolean), Cond.methodLink RX11 138 yX11_view, Cond.instanceMethod yX11_view, Cond.selects RX11 yX11_view yX11_view, Cond.code yX11_view cX11_view 6 none, Cond.fieldLink RX11 68 "BagViewsModel" "fits" "Z", Cond.methodLink RX11 123 yX11_begin, Cond.instanceMethod yX11_begin, Cond.selects RX11 yX11_begin yX11_begin, Cond.code yX11_begin cX11_begin 4 none, Cond.methodLink RX11 126 yX11_make, Cond.instanceMethod yX11_make, Cond.selects RX11 yX11_make yX11_make, Cond.code yX11_make cX11_make 4 none, Cond.methodLink RX11 78 yX11_makeJoin, Cond.instanceMethod yX11_makeJoin, Cond.selects RX11 yX11_makeJoin yX11_makeJoin, Cond.code yX11_makeJoin cX11_makeJoin 7 none, Cond.methodLink RX11 74 yX11_cellOf, Cond.instanceMethod yX11_cellOf, Cond.selects RX11 yX11_cellOf yX11_cellOf, Cond.code yX11_cellOf cX11_cellOf 4 (some .int)]
def wsL_law0_r16 : List Cond := [Cond.methodLink RX11 93 yX11_timesOf, Cond.instanceMethod yX11_timesOf, Cond.selects RX11 yX11_timesOf yX11_timesOf, Cond.code yX11_timesOf cX11_timesOf 3 (some .long), Cond.methodLink RX11 97 yX11_add, Cond.instanceMethod yX11_add, Cond.selects RX11 yX11_add yX11_add, Cond.code yX11_add cX11_add 8 none, Cond.constantLong RX11 72 (1000000000), Cond.methodLink RX11 60 yX11_place, Cond.instanceMethod yX11_place, Cond.selects RX11 yX11_place yX11_place, Cond.code yX11_place cX11_place 8 (some .int), Cond.methodLink RX11 64 yX11_isAt, Cond.instanceMethod yX11_isAt, Cond.selects RX11 yX11_isAt yX11_isAt, Cond.code yX11_isAt cX11_isAt 5 (some .boolean), Cond.methodLink RX11 82 yX11_makeGroups, Cond.instanceMethod yX11_makeGroups, Cond.selects RX11 yX11_makeGroups yX11_makeGroups, Cond.code yX11_makeGroups cX11_makeGroups 12 none, Cond.methodLink RX11 105 yX11_isSameGroup, Cond.instanceMethod yX11_isSameGroup, Cond.selects RX11 yX11_isSameGroup yX11_isSameGroup]
def wsL_law0_r17 : List Cond := [Cond.code yX11_isSameGroup cX11_isSameGroup 5 (some .boolean), Cond.methodLink RX11 85 yX11_makeRow, Cond.instanceMethod yX11_makeRow, Cond.selects RX11 yX11_makeRow yX11_makeRow, Cond.code yX11_makeRow cX11_makeRow 8 none, Cond.methodLink RX11 89 yX11_take, Cond.instanceMethod yX11_take, Cond.selects RX11 yX11_take yX11_take, Cond.code yX11_take cX11_take 4 none, Cond.methodLink RX11 101 yX11_compares, Cond.static yX11_compares, Cond.code yX11_compares cX11_compares 3 (some .boolean), Cond.methodLink RX11 129 yX11_become, Cond.instanceMethod yX11_become, Cond.selects RX11 yX11_become yX11_become, Cond.code yX11_become cX11_become 4 none, Cond.methodLink RX11 132 yX11_leave, Cond.instanceMethod yX11_leave, Cond.selects RX11 yX11_leave yX11_leave, Cond.code yX11_leave cX11_leave 4 none, Cond.methodLink RL 97 yL_columns, Cond.static yL_columns, Cond.codeWith yL_columns cL_columns 8 (some .int) [(0, 13, 16, 13), (0, 13, 20, 15), (0, 13, 24, 17), (0, 13, 28, 23)], Cond.methodLink RL 25 yX10_columns]
def wsL_law0_r18 : List Cond := [Cond.instanceMethod yX10_columns, Cond.selects RX10 yX10_columns yX10_columns, Cond.code yX10_columns cX10_columns 10 none, Cond.classLink RX10 77 RX1, Cond.instantiable RX1 5, Cond.methodLink RX10 70 yX10_needColumnOrNone, Cond.static yX10_needColumnOrNone, Cond.code yX10_needColumnOrNone cX10_needColumnOrNone 2 none, Cond.methodLink RX10 73 yX10_countChosen, Cond.static yX10_countChosen, Cond.code yX10_countChosen cX10_countChosen 3 (some .int), Cond.methodLink RX10 79 yX1_init, Cond.instanceMethod yX1_init, Cond.code yX1_init cX1_init 3 none, Cond.methodLink RX1 3 yX9_init, Cond.methodLink RL 100 yX11_columns, Cond.instanceMethod yX11_columns, Cond.selects RX11 yX11_columns yX11_columns, Cond.code yX11_columns cX11_columns 12 none, Cond.methodLink RL 101 yL_join, Cond.static yL_join, Cond.codeWith yL_join cL_join 7 (some .int) [(0, 11, 14, 13), (0, 11, 18, 15), (0, 11, 22, 17), (0, 11, 26, 23)], Cond.methodLink RL 29 yX10_join, Cond.instanceMethod yX10_join]
def wsL_law0_r19 : List Cond := [Cond.selects RX10 yX10_join yX10_join, Cond.code yX10_join cX10_join 10 none, Cond.classLink RX10 84 RX4, Cond.instantiable RX4 6, Cond.methodLink RX10 86 yX4_init, Cond.instanceMethod yX4_init, Cond.code yX4_init cX4_init 5 none, Cond.methodLink RX4 3 yX9_init, Cond.methodLink RL 104 yX11_join, Cond.instanceMethod yX11_join, Cond.selects RX11 yX11_join yX11_join, Cond.code yX11_join cX11_join 7 none, Cond.methodLink RL 105 yL_both, Cond.static yL_both, Cond.codeWith yL_both cL_both 6 (some .int) [(0, 9, 12, 13), (0, 9, 16, 15), (0, 9, 20, 17), (0, 9, 24, 23)], Cond.methodLink RL 33 yX10_both, Cond.instanceMethod yX10_both, Cond.selects RX10 yX10_both yX10_both, Cond.code yX10_both cX10_both 9 none, Cond.classLink RX10 91 RX2, Cond.instantiable RX2 4, Cond.classLink RX10 96 RX8, Cond.instantiable RX8 4, Cond.methodLink RX10 93 yX2_init]
def wsL_law0_r20 : List Cond := [Cond.instanceMethod yX2_init, Cond.code yX2_init cX2_init 3 none, Cond.methodLink RX2 1 yX9_init, Cond.methodLink RX10 98 yX8_init, Cond.instanceMethod yX8_init, Cond.code yX8_init cX8_init 3 none, Cond.methodLink RX8 1 yX9_init, Cond.methodLink RL 108 yX11_both, Cond.instanceMethod yX11_both, Cond.selects RX11 yX11_both yX11_both, Cond.code yX11_both cX11_both 6 none, Cond.methodLink RL 109 yL_once, Cond.static yL_once, Cond.codeWith yL_once cL_once 4 (some .int) [(0, 6, 9, 13), (0, 6, 12, 15), (0, 6, 15, 23)], Cond.methodLink RL 37 yX10_once, Cond.instanceMethod yX10_once, Cond.selects RX10 yX10_once yX10_once, Cond.code yX10_once cX10_once 5 none, Cond.classLink RX10 99 RX5, Cond.instantiable RX5 4, Cond.methodLink RX10 101 yX5_init, Cond.instanceMethod yX5_init, Cond.code yX5_init cX5_init 2 none, Cond.methodLink RX5 1 yX9_init]
def wsL_law0_r21 : List Cond := [Cond.methodLink RL 111 yX11_once, Cond.instanceMethod yX11_once, Cond.selects RX11 yX11_once yX11_once, Cond.code yX11_once cX11_once 4 none, Cond.methodLink RL 112 yL_group, Cond.static yL_group, Cond.codeWith yL_group cL_group 7 (some .int) [(0, 11, 14, 13), (0, 11, 18, 15), (0, 11, 22, 17), (0, 11, 26, 23)], Cond.methodLink RL 40 yX10_group, Cond.instanceMethod yX10_group, Cond.selects RX10 yX10_group yX10_group, Cond.code yX10_group cX10_group 8 none, Cond.classLink RX10 105 RX3, Cond.instantiable RX3 7, Cond.methodLink RX10 107 yX3_init, Cond.instanceMethod yX3_init, Cond.code yX3_init cX3_init 5 none, Cond.methodLink RX3 3 yX9_init, Cond.methodLink RL 114 yX11_group, Cond.instanceMethod yX11_group, Cond.selects RX11 yX11_group yX11_group, Cond.code yX11_group cX11_group 7 none, Cond.methodLink RL 115 yL_drop, Cond.static yL_drop, Cond.codeWith yL_drop cL_drop 3 (some .int) [(0, 5, 8, 13), (0, 5, 11, 15)]]
def wsL_law0_r22 : List Cond := [Cond.methodLink RL 43 yX10_drop, Cond.instanceMethod yX10_drop, Cond.selects RX10 yX10_drop yX10_drop, Cond.code yX10_drop cX10_drop 7 none, Cond.methodLink RX10 110 yX6_isOf, Cond.instanceMethod yX6_isOf, Cond.selects RX6 yX6_isOf yX6_isOf, Cond.code yX6_isOf cX6_isOf 2 (some .boolean), Cond.fieldLink RX6 33 "BagViews$View" "left" "LBagViews$Relation;", Cond.fieldLink RX6 39 "BagViews$View" "right" "LBagViews$Relation;", Cond.methodLink RX10 119 yX6_end, Cond.instanceMethod yX6_end, Cond.selects RX6 yX6_end yX6_end, Cond.code yX6_end cX6_end 1 none, Cond.methodLink RL 118 yX11_drop, Cond.instanceMethod yX11_drop, Cond.selects RX11 yX11_drop yX11_drop, Cond.code yX11_drop cX11_drop 4 none, Cond.methodLink RL 119 yL_put, Cond.static yL_put, Cond.codeWith yL_put cL_put 9 (some .int) [(0, 18, 21, 13), (0, 18, 25, 15), (0, 18, 29, 17), (0, 18, 33, 23)], Cond.methodLink RL 47 yX10_put, Cond.instanceMethod yX10_put, Cond.selects RX10 yX10_put yX10_put]
def wsL_law0_r23 : List Cond := [Cond.code yX10_put cX10_put 9 (some .int), Cond.constant RX10 125 (-1000000), Cond.constant RX10 126 (1000000), Cond.methodLink RX10 122 yX10_tableAt, Cond.instanceMethod yX10_tableAt, Cond.selects RX10 yX10_tableAt yX10_tableAt, Cond.code yX10_tableAt cX10_tableAt 3 (some (.object "BagViews$Relation")), Cond.methodLink RX10 129 yX10_tell, Cond.instanceMethod yX10_tell, Cond.selects RX10 yX10_tell yX10_tell, Cond.code yX10_tell cX10_tell 6 none, Cond.methodLink RX10 133 yX0_timesOf, Cond.methodLink RX10 141 yX0_copyFrom, Cond.methodLink RX10 145 yX0_add, Cond.methodLink RX10 149 yX10_viewsFit, Cond.instanceMethod yX10_viewsFit, Cond.selects RX10 yX10_viewsFit yX10_viewsFit, Cond.code yX10_viewsFit cX10_viewsFit 7 (some .boolean), Cond.methodLink RX10 219 yX0_countDifferent, Cond.instanceMethod yX0_countDifferent, Cond.selects RX0 yX0_countDifferent yX0_countDifferent, Cond.code yX0_countDifferent cX0_countDifferent 6 (some .int), Cond.methodLink RX10 226 yX6_depth, Cond.methodLink RX10 230 yX6_remake]
def wsL_law0_r24 : List Cond := [Cond.instanceMethod yX6_remake, Cond.selects RX6 yX6_remake yX6_remake, Cond.code yX6_remake cX6_remake 1 (some .boolean), Cond.methodLink RX6 45 ⟨"BagViews$View", "isTouched", "()Z"⟩, Cond.sameMethod "BagViews$View" "BagViews$View" "isTouched" "()Z", Cond.selects RX1 ⟨"BagViews$View", "isTouched", "()Z"⟩ yX9_isTouched, Cond.instanceMethod yX9_isTouched, Cond.code yX9_isTouched cX9_isTouched 1 (some .boolean), Cond.selects RX2 ⟨"BagViews$View", "isTouched", "()Z"⟩ yX9_isTouched, Cond.selects RX3 ⟨"BagViews$View", "isTouched", "()Z"⟩ yX9_isTouched, Cond.selects RX4 ⟨"BagViews$View", "isTouched", "()Z"⟩ yX9_isTouched, Cond.selects RX5 ⟨"BagViews$View", "isTouched", "()Z"⟩ yX9_isTouched, Cond.selects RX7 ⟨"BagViews$View", "isTouched", "()Z"⟩ yX9_isTouched, Cond.selects RX8 ⟨"BagViews$View", "isTouched", "()Z"⟩ yX9_isTouched, Cond.methodLink RX6 49 yX0_clear, Cond.methodLink RX6 52 ⟨"BagViews$View", "makeInto", "(LBagViews$Bag;)Z"⟩, Cond.methodLink RX6 56 yX0_countDifferent, Cond.methodLink RX10 152 yX10_takeOver, Cond.instanceMethod yX10_takeOver, Cond.selects RX10 yX10_takeOver yX10_takeOver, Cond.code yX10_takeOver cX10_takeOver 6 none, Cond.methodLink RX10 233 yX6_settle, Cond.instanceMethod yX6_settle, Cond.selects RX6 yX6_settle yX6_settle]
def wsL_law0_r25 : List Cond := [Cond.code yX6_settle cX6_settle 3 none, Cond.methodLink RL 122 yX11_put, Cond.instanceMethod yX11_put, Cond.selects RX11 yX11_put yX11_put, Cond.code yX11_put cX11_put 8 (some .int), Cond.constant RX11 151 (-1000000), Cond.constant RX11 152 (1000000), Cond.methodLink RX11 147 yX11_setRow, Cond.instanceMethod yX11_setRow, Cond.selects RX11 yX11_setRow yX11_setRow, Cond.code yX11_setRow cX11_setRow 5 none, Cond.methodLink RX11 153 yX11_timesHere, Cond.instanceMethod yX11_timesHere, Cond.selects RX11 yX11_timesHere yX11_timesHere, Cond.code yX11_timesHere cX11_timesHere 5 (some .int), Cond.methodLink RX11 156 yX11_change, Cond.instanceMethod yX11_change, Cond.selects RX11 yX11_change yX11_change, Cond.code yX11_change cX11_change 4 none, Cond.methodLink RX11 141 yX11_cut, Cond.instanceMethod yX11_cut, Cond.selects RX11 yX11_cut yX11_cut, Cond.code yX11_cut cX11_cut 5 none, Cond.methodLink RX11 159 yX11_settle]
def wsL_law0_r26 : List Cond := [Cond.instanceMethod yX11_settle, Cond.selects RX11 yX11_settle yX11_settle, Cond.code yX11_settle cX11_settle 2 (some .boolean), Cond.methodLink RX11 144 yX11_difference, Cond.instanceMethod yX11_difference, Cond.selects RX11 yX11_difference yX11_difference, Cond.code yX11_difference cX11_difference 10 (some .int), Cond.methodLink RL 123 yL_fill, Cond.static yL_fill, Cond.codeWith yL_fill cL_fill 9 (some .int) [(0, 18, 21, 13), (0, 18, 25, 15), (0, 18, 29, 17), (0, 18, 33, 23)], Cond.methodLink RL 51 yX10_fill, Cond.instanceMethod yX10_fill, Cond.selects RX10 yX10_fill yX10_fill, Cond.code yX10_fill cX10_fill 10 (some .int), Cond.methodLink RL 125 yX11_fill, Cond.instanceMethod yX11_fill, Cond.selects RX11 yX11_fill yX11_fill, Cond.code yX11_fill cX11_fill 8 (some .int), Cond.methodLink RL 126 yL_width, Cond.static yL_width, Cond.codeWith yL_width cL_width 4 (some .int) [(0, 9, 12, 13)], Cond.methodLink RL 54 yX10_width, Cond.instanceMethod yX10_width, Cond.selects RX10 yX10_width yX10_width]
def wsL_law0_r27 : List Cond := [Cond.code yX10_width cX10_width 2 (some .int), Cond.methodLink RL 129 yX11_width, Cond.instanceMethod yX11_width, Cond.selects RX11 yX11_width yX11_width, Cond.code yX11_width cX11_width 2 (some .int), Cond.methodLink RL 130 yL_rows, Cond.static yL_rows, Cond.codeWith yL_rows cL_rows 4 (some .int) [(0, 9, 12, 13)], Cond.methodLink RL 58 yX10_rows, Cond.instanceMethod yX10_rows, Cond.selects RX10 yX10_rows yX10_rows, Cond.code yX10_rows cX10_rows 2 (some .int), Cond.methodLink RL 132 yX11_rows, Cond.instanceMethod yX11_rows, Cond.selects RX11 yX11_rows yX11_rows, Cond.code yX11_rows cX11_rows 2 (some .int), Cond.methodLink RL 133 yL_size, Cond.static yL_size, Cond.codeWith yL_size cL_size 4 (some .int) [(0, 8, 11, 13)], Cond.methodLink RL 61 yX10_size, Cond.instanceMethod yX10_size, Cond.selects RX10 yX10_size yX10_size, Cond.code yX10_size cX10_size 2 (some .long), Cond.methodLink RX10 161 yX0_allTimes]
def wsL_law0_r28 : List Cond := [Cond.instanceMethod yX0_allTimes, Cond.selects RX0 yX0_allTimes yX0_allTimes, Cond.code yX0_allTimes cX0_allTimes 4 (some .long), Cond.methodLink RL 135 yX11_size, Cond.instanceMethod yX11_size, Cond.selects RX11 yX11_size yX11_size, Cond.code yX11_size cX11_size 5 (some .long), Cond.methodLink RL 136 yL_times, Cond.static yL_times, Cond.codeWith yL_times cL_times 8 (some .int) [(0, 16, 19, 13)], Cond.methodLink RL 65 yX10_times, Cond.instanceMethod yX10_times, Cond.selects RX10 yX10_times yX10_times, Cond.code yX10_times cX10_times 7 (some .int), Cond.methodLink RL 139 yX11_times, Cond.instanceMethod yX11_times, Cond.selects RX11 yX11_times yX11_times, Cond.code yX11_times cX11_times 6 (some .int), Cond.methodLink RL 140 yL_cell, Cond.static yL_cell, Cond.codeWith yL_cell cL_cell 6 (some .int) [(0, 12, 15, 13)], Cond.methodLink RL 69 yX10_cell, Cond.instanceMethod yX10_cell, Cond.selects RX10 yX10_cell yX10_cell]
def wsL_law0_r29 : List Cond := [Cond.code yX10_cell cX10_cell 5 (some .int), Cond.methodLink RX10 173 yX0_cellAt, Cond.methodLink RL 143 yX11_cell, Cond.instanceMethod yX11_cell, Cond.selects RX11 yX11_cell yX11_cell, Cond.code yX11_cell cX11_cell 4 (some .int), Cond.methodLink RL 144 yL_changed, Cond.static yL_changed, Cond.codeWith yL_changed cL_changed 4 (some .int) [(0, 9, 12, 13)], Cond.methodLink RL 73 yX10_changed, Cond.instanceMethod yX10_changed, Cond.selects RX10 yX10_changed yX10_changed, Cond.code yX10_changed cX10_changed 2 (some .int), Cond.methodLink RL 146 yX11_changed, Cond.instanceMethod yX11_changed, Cond.selects RX11 yX11_changed yX11_changed, Cond.code yX11_changed cX11_changed 2 (some .int), Cond.methodLink RL 147 yL_count, Cond.static yL_count, Cond.codeWith yL_count cL_count 4 (some .int) [(0, 9, 12, 17)], Cond.methodLink RL 76 yX10_count, Cond.instanceMethod yX10_count, Cond.selects RX10 yX10_count yX10_count, Cond.code yX10_count cX10_count 7 (some .int)]
def wsL_law0_r30 : List Cond := [Cond.methodLink RX10 186 yX10_countIn, Cond.static yX10_countIn, Cond.code yX10_countIn cX10_countIn 2 (some .int), Cond.methodLink RL 149 yX11_count, Cond.instanceMethod yX11_count, Cond.selects RX11 yX11_count yX11_count, Cond.code yX11_count cX11_count 6 (some .int)]
def wsL_law0 : List Cond := (wsL_law0_r1 ++ (wsL_law0_r2 ++ (wsL_law0_r3 ++ (wsL_law0_r4 ++ (wsL_law0_r5 ++ (wsL_law0_r6 ++ (wsL_law0_r7 ++ (wsL_law0_r8 ++ (wsL_law0_r9 ++ (wsL_law0_r10 ++ (wsL_law0_r11 ++ (wsL_law0_r12 ++ (wsL_law0_r13 ++ (wsL_law0_r14 ++ (wsL_law0_r15 ++ (wsL_law0_r16 ++ (wsL_law0_r17 ++ (wsL_law0_r18 ++ (wsL_law0_r19 ++ (wsL_law0_r20 ++ (wsL_law0_r21 ++ (wsL_law0_r22 ++ (wsL_law0_r23 ++ (wsL_law0_r24 ++ (wsL_law0_r25 ++ (wsL_law0_r26 ++ (wsL_law0_r27 ++ (wsL_law0_r28 ++ (wsL_law0_r29 ++ wsL_law0_r30))))))))))))))))))))))))))))) ++ wsX100 ++ wsX110 ++ wsX60 ++ wsX00 ++ wsX70 ++ wsX10 ++ wsX20 ++ wsX30 ++ wsX40 ++ wsX50 ++ wsX80 ++ ([] : List Cond)
def wsL_law : List Cond := wsL_law0 ++ (vx_atS RX10 32 "java/lang/IllegalArgumentException" ["java/lang/RuntimeException", "java/lang/Exception"]).filter goodWord ++ (vx_atS RX10 169 "java/lang/IndexOutOfBoundsException" ["java/lang/RuntimeException", "java/lang/Exception"]).filter goodWord ++ (vx_atS RX10 118 "java/lang/IllegalStateException" ["java/lang/RuntimeException", "java/lang/Exception"]).filter goodWord ++ (vx_atS RX10 218 "java/lang/UnsupportedOperationException" ["java/lang/RuntimeException", "java/lang/Exception"]).filter goodWord
theorem wb_0 : ∀ w ∈ wsL_law0, w ∈ wsL_law := fun w h => List.mem_append_left _ (List.mem_append_left _ (List.mem_append_left _ (List.mem_append_left _ (h))))
theorem wb_1 : ∀ w ∈ wsL_law0_r1, w ∈ wsL_law := fun w h => wb_0 w (List.mem_append_left _ (List.mem_append_left _ (List.mem_append_left _ (List.mem_append_left _ (List.mem_append_left _ (List.mem_append_left _ (List.mem_append_left _ (List.mem_append_left _ (List.mem_append_left _ (List.mem_append_left _ (List.mem_append_left _ (List.mem_append_left _ (List.mem_append_left _ h)))))))))))))
theorem wb_2 : ∀ w ∈ wsL_law0_r2, w ∈ wsL_law := fun w h => wb_0 w (List.mem_append_left _ (List.mem_append_left _ (List.mem_append_left _ (List.mem_append_left _ (List.mem_append_left _ (List.mem_append_left _ (List.mem_append_left _ (List.mem_append_left _ (List.mem_append_left _ (List.mem_append_left _ (List.mem_append_left _ (List.mem_append_left _ (List.mem_append_right _ (List.mem_append_left _ h))))))))))))))
theorem wb_3 : ∀ w ∈ wsL_law0_r3, w ∈ wsL_law := fun w h => wb_0 w (List.mem_append_left _ (List.mem_append_left _ (List.mem_append_left _ (List.mem_append_left _ (List.mem_append_left _ (List.mem_append_left _ (List.mem_append_left _ (List.mem_append_left _ (List.mem_append_left _ (List.mem_append_left _ (List.mem_append_left _ (List.mem_append_left _ (List.mem_append_right _ (List.mem_append_right _ (List.mem_append_left _ h)))))))))))))))
theorem wb_4 : ∀ w ∈ wsL_law0_r4, w ∈ wsL_law := fun w h => wb_0 w (List.mem_append_left _ (List.mem_append_left _ (List.mem_append_left _ (List.mem_append_left _ (List.mem_append_left _ (List.mem_append_left _ (List.mem_append_left _ (List.mem_append_left _ (List.mem_append_left _ (List.mem_append_left _ (List.mem_append_left _ (List.mem_append_left _ (List.mem_append_right _ (List.mem_append_right _ (List.mem_append_right _ (List.mem_append_left _ h))))))))))))))))
theorem wb_5 : ∀ w ∈ wsL_law0_r5, w ∈ wsL_law := fun w h => wb_0 w (List.mem_append_left _ (List.mem_append_left _ (List.mem_append_left _ (List.mem_append_left _ (List.mem_append_left _ (List.mem_append_left _ (List.mem_append_left _ (List.mem_append_left _ (List.mem_append_left _ (List.mem_append_left _ (List.mem_append_left _ (List.mem_append_left _ (List.mem_append_right _ (List.mem_append_right _ (List.mem_append_right _ (List.mem_append_right _ (List.mem_append_left _ h)))))))))))))))))
theorem wb_6 : ∀ w ∈ wsL_law0_r6, w ∈ wsL_law := fun w h => wb_0 w (List.mem_append_left _ (List.mem_append_left _ (List.mem_append_left _ (List.mem_append_left _ (List.mem_append_left _ (List.mem_append_left _ (List.mem_append_left _ (List.mem_append_left _ (List.mem_append_left _ (List.mem_append_left _ (List.mem_append_left _ (List.mem_append_left _ (List.mem_append_right _ (List.mem_append_right _ (List.mem_append_right _ (List.mem_append_right _ (List.mem_append_right _ (List.mem_append_left _ h))))))))))))))))))
theorem wb_7 : ∀ w ∈ wsL_law0_r7, w ∈ wsL_law := fun w h => wb_0 w (List.mem_append_left _ (List.mem_append_left _ (List.mem_append_left _ (List.mem_append_left _ (List.mem_append_left _ (List.mem_append_left _ (List.mem_append_left _ (List.mem_append_left _ (List.mem_append_left _ (List.mem_append_left _ (List.mem_append_left _ (List.mem_append_left _ (List.mem_append_right _ (List.mem_append_right _ (List.mem_append_right _ (List.mem_append_right _ (List.mem_append_right _ (List.mem_append_right _ (List.mem_append_left _ h)))))))))))))))))))
theorem wb_8 : ∀ w ∈ wsL_law0_r8, w ∈ wsL_law := fun w h => wb_0 w (List.mem_append_left _ (List.mem_append_left _ (List.mem_append_left _ (List.mem_append_left _ (List.mem_append_left _ (List.mem_append_left _ (List.mem_append_left _ (List.mem_append_left _ (List.mem_append_left _ (List.mem_append_left _ (List.mem_append_left _ (List.mem_append_left _ (List.mem_append_right _ (List.mem_append_right _ (List.mem_append_right _ (List.mem_append_right _ (List.mem_append_right _ (List.mem_append_right _ (List.mem_append_right _ (List.mem_append_left _ h))))))))))))))))))))
theorem wb_9 : ∀ w ∈ wsL_law0_r9, w ∈ wsL_law := fun w h => wb_0 w (List.mem_append_left _ (List.mem_append_left _ (List.mem_append_left _ (List.mem_append_left _ (List.mem_append_left _ (List.mem_append_left _ (List.mem_append_left _ (List.mem_append_left _ (List.mem_append_left _ (List.mem_append_left _ (List.mem_append_left _ (List.mem_append_left _ (List.mem_append_right _ (List.mem_append_right _ (List.mem_append_right _ (List.mem_append_right _ (List.mem_append_right _ (List.mem_append_right _ (List.mem_append_right _ (List.mem_append_right _ (List.mem_append_left _ h)))))))))))))))))))))
theorem wb_10 : ∀ w ∈ wsL_law0_r10, w ∈ wsL_law := fun w h => wb_0 w (List.mem_append_left _ (List.mem_append_left _ (List.mem_append_left _ (List.mem_append_left _ (List.mem_append_left _ (List.mem_append_left _ (List.mem_append_left _ (List.mem_append_left _ (List.mem_append_left _ (List.mem_append_left _ (List.mem_append_left _ (List.mem_append_left _ (List.mem_append_right _ (List.mem_append_right _ (List.mem_append_right _ (List.mem_append_right _ (List.mem_append_right _ (List.mem_append_right _ (List.mem_append_right _ (List.mem_append_right _ (List.mem_append_right _ (List.mem_append_left _ h))))))))))))))))))))))
theorem wb_11 : ∀ w ∈ wsL_law0_r11, w ∈ wsL_law := fun w h => wb_0 w (List.mem_append_left _ (List.mem_append_left _ (List.mem_append_left _ (List.mem_append_left _ (List.mem_append_left _ (List.mem_append_left _ (List.mem_append_left _ (List.mem_append_left _ (List.mem_append_left _ (List.mem_append_left _ (List.mem_append_left _ (List.mem_append_left _ (List.mem_append_right _ (List.mem_append_right _ (List.mem_append_right _ (List.mem_append_right _ (List.mem_append_right _ (List.mem_append_right _ (List.mem_append_right _ (List.mem_append_right _ (List.mem_append_right _ (List.mem_append_right _ (List.mem_append_left _ h)))))))))))))))))))))))
theorem wb_12 : ∀ w ∈ wsL_law0_r12, w ∈ wsL_law := fun w h => wb_0 w (List.mem_append_left _ (List.mem_append_left _ (List.mem_append_left _ (List.mem_append_left _ (List.mem_append_left _ (List.mem_append_left _ (List.mem_append_left _ (List.mem_append_left _ (List.mem_append_left _ (List.mem_append_left _ (List.mem_append_left _ (List.mem_append_left _ (List.mem_append_right _ (List.mem_append_right _ (List.mem_append_right _ (List.mem_append_right _ (List.mem_append_right _ (List.mem_append_right _ (List.mem_append_right _ (List.mem_append_right _ (List.mem_append_right _ (List.mem_append_right _ (List.mem_append_right _ (List.mem_append_left _ h))))))))))))))))))))))))
theorem wb_13 : ∀ w ∈ wsL_law0_r13, w ∈ wsL_law := fun w h => wb_0 w (List.mem_append_left _ (List.mem_append_left _ (List.mem_append_left _ (List.mem_append_left _ (List.mem_append_left _ (List.mem_append_left _ (List.mem_append_left _ (List.mem_append_left _ (List.mem_append_left _ (List.mem_append_left _ (List.mem_append_left _ (List.mem_append_left _ (List.mem_append_right _ (List.mem_append_right _ (List.mem_append_right _ (List.mem_append_right _ (List.mem_append_right _ (List.mem_append_right _ (List.mem_append_right _ (List.mem_append_right _ (List.mem_append_right _ (List.mem_append_right _ (List.mem_append_right _ (List.mem_append_right _ (List.mem_append_left _ h)))))))))))))))))))))))))
theorem wb_14 : ∀ w ∈ wsL_law0_r14, w ∈ wsL_law := fun w h => wb_0 w (List.mem_append_left _ (List.mem_append_left _ (List.mem_append_left _ (List.mem_append_left _ (List.mem_append_left _ (List.mem_append_left _ (List.mem_append_left _ (List.mem_append_left _ (List.mem_append_left _ (List.mem_append_left _ (List.mem_append_left _ (List.mem_append_left _ (List.mem_append_right _ (List.mem_append_right _ (List.mem_append_right _ (List.mem_append_right _ (List.mem_append_right _ (List.mem_append_right _ (List.mem_append_right _ (List.mem_append_right _ (List.mem_append_right _ (List.mem_append_right _ (List.mem_append_right _ (List.mem_append_right _ (List.mem_append_right _ (List.mem_append_left _ h))))))))))))))))))))))))))
theorem wb_15 : ∀ w ∈ wsL_law0_r15, w ∈ wsL_law := fun w h => wb_0 w (List.mem_append_left _ (List.mem_append_left _ (List.mem_append_left _ (List.mem_append_left _ (List.mem_append_left _ (List.mem_append_left _ (List.mem_append_left _ (List.mem_append_left _ (List.mem_append_left _ (List.mem_append_left _ (List.mem_append_left _ (List.mem_append_left _ (List.mem_append_right _ (List.mem_append_right _ (List.mem_append_right _ (List.mem_append_right _ (List.mem_append_right _ (List.mem_append_right _ (List.mem_append_right _ (List.mem_append_right _ (List.mem_append_right _ (List.mem_append_right _ (List.mem_append_right _ (List.mem_append_right _ (List.mem_append_right _ (List.mem_append_right _ (List.mem_append_left _ h)))))))))))))))))))))))))))
theorem wb_16 : ∀ w ∈ wsL_law0_r16, w ∈ wsL_law := fun w h => wb_0 w (List.mem_append_left _ (List.mem_append_left _ (List.mem_append_left _ (List.mem_append_left _ (List.mem_append_left _ (List.mem_append_left _ (List.mem_append_left _ (List.mem_append_left _ (List.mem_append_left _ (List.mem_append_left _ (List.mem_append_left _ (List.mem_append_left _ (List.mem_append_right _ (List.mem_append_right _ (List.mem_append_right _ (List.mem_append_right _ (List.mem_append_right _ (List.mem_append_right _ (List.mem_append_right _ (List.mem_append_right _ (List.mem_append_right _ (List.mem_append_right _ (List.mem_append_right _ (List.mem_append_right _ (List.mem_append_right _ (List.mem_append_right _ (List.mem_append_right _ (List.mem_append_left _ h))))))))))))))))))))))))))))
theorem wb_17 : ∀ w ∈ wsL_law0_r17, w ∈ wsL_law := fun w h => wb_0 w (List.mem_append_left _ (List.mem_append_left _ (List.mem_append_left _ (List.mem_append_left _ (List.mem_append_left _ (List.mem_append_left _ (List.mem_append_left _ (List.mem_append_left _ (List.mem_append_left _ (List.mem_append_left _ (List.mem_append_left _ (List.mem_append_left _ (List.mem_append_right _ (List.mem_append_right _ (List.mem_append_right _ (List.mem_append_right _ (List.mem_append_right _ (List.mem_append_right _ (List.mem_append_right _ (List.mem_append_right _ (List.mem_append_right _ (List.mem_append_right _ (List.mem_append_right _ (List.mem_append_right _ (List.mem_append_right _ (List.mem_append_right _ (List.mem_append_right _ (List.mem_append_right _ (List.mem_append_left _ h)))))))))))))))))))))))))))))
theorem wb_18 : ∀ w ∈ wsL_law0_r18, w ∈ wsL_law := fun w h => wb_0 w (List.mem_append_left _ (List.mem_append_left _ (List.mem_append_left _ (List.mem_append_left _ (List.mem_append_left _ (List.mem_append_left _ (List.mem_append_left _ (List.mem_append_left _ (List.mem_append_left _ (List.mem_append_left _ (List.mem_append_left _ (List.mem_append_left _ (List.mem_append_right _ (List.mem_append_right _ (List.mem_append_right _ (List.mem_append_right _ (List.mem_append_right _ (List.mem_append_right _ (List.mem_append_right _ (List.mem_append_right _ (List.mem_append_right _ (List.mem_append_right _ (List.mem_append_right _ (List.mem_append_right _ (List.mem_append_right _ (List.mem_append_right _ (List.mem_append_right _ (List.mem_append_right _ (List.mem_append_right _ (List.mem_append_left _ h))))))))))))))))))))))))))))))
theorem wb_19 : ∀ w ∈ wsL_law0_r19, w ∈ wsL_law := fun w h => wb_0 w (List.mem_append_left _ (List.mem_append_left _ (List.mem_append_left _ (List.mem_append_left _ (List.mem_append_left _ (List.mem_append_left _ (List.mem_append_left _ (List.mem_append_left _ (List.mem_append_left _ (List.mem_append_left _ (List.mem_append_left _ (List.mem_append_left _ (List.mem_append_right _ (List.mem_append_right _ (List.mem_append_right _ (List.mem_append_right _ (List.mem_append_right _ (List.mem_append_right _ (List.mem_append_right _ (List.mem_append_right _ (List.mem_append_right _ (List.mem_append_right _ (List.mem_append_right _ (List.mem_append_right _ (List.mem_append_right _ (List.mem_append_right _ (List.mem_append_right _ (List.mem_append_right _ (List.mem_append_right _ (List.mem_append_right _ (List.mem_append_left _ h)))))))))))))))))))))))))))))))
theorem wb_20 : ∀ w ∈ wsL_law0_r20, w ∈ wsL_law := fun w h => wb_0 w (List.mem_append_left _ (List.mem_append_left _ (List.mem_append_left _ (List.mem_append_left _ (List.mem_append_left _ (List.mem_append_left _ (List.mem_append_left _ (List.mem_append_left _ (List.mem_append_left _ (List.mem_append_left _ (List.mem_append_left _ (List.mem_append_left _ (List.mem_append_right _ (List.mem_append_right _ (List.mem_append_right _ (List.mem_append_right _ (List.mem_append_right _ (List.mem_append_right _ (List.mem_append_right _ (List.mem_append_right _ (List.mem_append_right _ (List.mem_append_right _ (List.mem_append_right _ (List.mem_append_right _ (List.mem_append_right _ (List.mem_append_right _ (List.mem_append_right _ (List.mem_append_right _ (List.mem_append_right _ (List.mem_append_right _ (List.mem_append_right _ (List.mem_append_left _ h))))))))))))))))))))))))))))))))
theorem wb_21 : ∀ w ∈ wsL_law0_r21, w ∈ wsL_law := fun w h => wb_0 w (List.mem_append_left _ (List.mem_append_left _ (List.mem_append_left _ (List.mem_append_left _ (List.mem_append_left _ (List.mem_append_left _ (List.mem_append_left _ (List.mem_append_left _ (List.mem_append_left _ (List.mem_append_left _ (List.mem_append_left _ (List.mem_append_left _ (List.mem_append_right _ (List.mem_append_right _ (List.mem_append_right _ (List.mem_append_right _ (List.mem_append_right _ (List.mem_append_right _ (List.mem_append_right _ (List.mem_append_right _ (List.mem_append_right _ (List.mem_append_right _ (List.mem_append_right _ (List.mem_append_right _ (List.mem_append_right _ (List.mem_append_right _ (List.mem_append_right _ (List.mem_append_right _ (List.mem_append_right _ (List.mem_append_right _ (List.mem_append_right _ (List.mem_append_right _ (List.mem_append_left _ h)))))))))))))))))))))))))))))))))
theorem wb_22 : ∀ w ∈ wsL_law0_r22, w ∈ wsL_law := fun w h => wb_0 w (List.mem_append_left _ (List.mem_append_left _ (List.mem_append_left _ (List.mem_append_left _ (List.mem_append_left _ (List.mem_append_left _ (List.mem_append_left _ (List.mem_append_left _ (List.mem_append_left _ (List.mem_append_left _ (List.mem_append_left _ (List.mem_append_left _ (List.mem_append_right _ (List.mem_append_right _ (List.mem_append_right _ (List.mem_append_right _ (List.mem_append_right _ (List.mem_append_right _ (List.mem_append_right _ (List.mem_append_right _ (List.mem_append_right _ (List.mem_append_right _ (List.mem_append_right _ (List.mem_append_right _ (List.mem_append_right _ (List.mem_append_right _ (List.mem_append_right _ (List.mem_append_right _ (List.mem_append_right _ (List.mem_append_right _ (List.mem_append_right _ (List.mem_append_right _ (List.mem_append_right _ (List.mem_append_left _ h))))))))))))))))))))))))))))))))))
theorem wb_23 : ∀ w ∈ wsL_law0_r23, w ∈ wsL_law := fun w h => wb_0 w (List.mem_append_left _ (List.mem_append_left _ (List.mem_append_left _ (List.mem_append_left _ (List.mem_append_left _ (List.mem_append_left _ (List.mem_append_left _ (List.mem_append_left _ (List.mem_append_left _ (List.mem_append_left _ (List.mem_append_left _ (List.mem_append_left _ (List.mem_append_right _ (List.mem_append_right _ (List.mem_append_right _ (List.mem_append_right _ (List.mem_append_right _ (List.mem_append_right _ (List.mem_append_right _ (List.mem_append_right _ (List.mem_append_right _ (List.mem_append_right _ (List.mem_append_right _ (List.mem_append_right _ (List.mem_append_right _ (List.mem_append_right _ (List.mem_append_right _ (List.mem_append_right _ (List.mem_append_right _ (List.mem_append_right _ (List.mem_append_right _ (List.mem_append_right _ (List.mem_append_right _ (List.mem_append_right _ (List.mem_append_left _ h)))))))))))))))))))))))))))))))))))
theorem wb_24 : ∀ w ∈ wsL_law0_r24, w ∈ wsL_law := fun w h => wb_0 w (List.mem_append_left _ (List.mem_append_left _ (List.mem_append_left _ (List.mem_append_left _ (List.mem_append_left _ (List.mem_append_left _ (List.mem_append_left _ (List.mem_append_left _ (List.mem_append_left _ (List.mem_append_left _ (List.mem_append_left _ (List.mem_append_left _ (List.mem_append_right _ (List.mem_append_right _ (List.mem_append_right _ (List.mem_append_right _ (List.mem_append_right _ (List.mem_append_right _ (List.mem_append_right _ (List.mem_append_right _ (List.mem_append_right _ (List.mem_append_right _ (List.mem_append_right _ (List.mem_append_right _ (List.mem_append_right _ (List.mem_append_right _ (List.mem_append_right _ (List.mem_append_right _ (List.mem_append_right _ (List.mem_append_right _ (List.mem_append_right _ (List.mem_append_right _ (List.mem_append_right _ (List.mem_append_right _ (List.mem_append_right _ (List.mem_append_left _ h))))))))))))))))))))))))))))))))))))
theorem wb_25 : ∀ w ∈ wsL_law0_r25, w ∈ wsL_law := fun w h => wb_0 w (List.mem_append_left _ (List.mem_append_left _ (List.mem_append_left _ (List.mem_append_left _ (List.mem_append_left _ (List.mem_append_left _ (List.mem_append_left _ (List.mem_append_left _ (List.mem_append_left _ (List.mem_append_left _ (List.mem_append_left _ (List.mem_append_left _ (List.mem_append_right _ (List.mem_append_right _ (List.mem_append_right _ (List.mem_append_right _ (List.mem_append_right _ (List.mem_append_right _ (List.mem_append_right _ (List.mem_append_right _ (List.mem_append_right _ (List.mem_append_right _ (List.mem_append_right _ (List.mem_append_right _ (List.mem_append_right _ (List.mem_append_right _ (List.mem_append_right _ (List.mem_append_right _ (List.mem_append_right _ (List.mem_append_right _ (List.mem_append_right _ (List.mem_append_right _ (List.mem_append_right _ (List.mem_append_right _ (List.mem_append_right _ (List.mem_append_right _ (List.mem_append_left _ h)))))))))))))))))))))))))))))))))))))
theorem wb_26 : ∀ w ∈ wsL_law0_r26, w ∈ wsL_law := fun w h => wb_0 w (List.mem_append_left _ (List.mem_append_left _ (List.mem_append_left _ (List.mem_append_left _ (List.mem_append_left _ (List.mem_append_left _ (List.mem_append_left _ (List.mem_append_left _ (List.mem_append_left _ (List.mem_append_left _ (List.mem_append_left _ (List.mem_append_left _ (List.mem_append_right _ (List.mem_append_right _ (List.mem_append_right _ (List.mem_append_right _ (List.mem_append_right _ (List.mem_append_right _ (List.mem_append_right _ (List.mem_append_right _ (List.mem_append_right _ (List.mem_append_right _ (List.mem_append_right _ (List.mem_append_right _ (List.mem_append_right _ (List.mem_append_right _ (List.mem_append_right _ (List.mem_append_right _ (List.mem_append_right _ (List.mem_append_right _ (List.mem_append_right _ (List.mem_append_right _ (List.mem_append_right _ (List.mem_append_right _ (List.mem_append_right _ (List.mem_append_right _ (List.mem_append_right _ (List.mem_append_left _ h))))))))))))))))))))))))))))))))))))))
theorem wb_27 : ∀ w ∈ wsL_law0_r27, w ∈ wsL_law := fun w h => wb_0 w (List.mem_append_left _ (List.mem_append_left _ (List.mem_append_left _ (List.mem_append_left _ (List.mem_append_left _ (List.mem_append_left _ (List.mem_append_left _ (List.mem_append_left _ (List.mem_append_left _ (List.mem_append_left _ (List.mem_append_left _ (List.mem_append_left _ (List.mem_append_right _ (List.mem_append_right _ (List.mem_append_right _ (List.mem_append_right _ (List.mem_append_right _ (List.mem_append_right _ (List.mem_append_right _ (List.mem_append_right _ (List.mem_append_right _ (List.mem_append_right _ (List.mem_append_right _ (List.mem_append_right _ (List.mem_append_right _ (List.mem_append_right _ (List.mem_append_right _ (List.mem_append_right _ (List.mem_append_right _ (List.mem_append_right _ (List.mem_append_right _ (List.mem_append_right _ (List.mem_append_right _ (List.mem_append_right _ (List.mem_append_right _ (List.mem_append_right _ (List.mem_append_right _ (List.mem_append_right _ (List.mem_append_left _ h)))))))))))))))))))))))))))))))))))))))
theorem wb_28 : ∀ w ∈ wsL_law0_r28, w ∈ wsL_law := fun w h => wb_0 w (List.mem_append_left _ (List.mem_append_left _ (List.mem_append_left _ (List.mem_append_left _ (List.mem_append_left _ (List.mem_append_left _ (List.mem_append_left _ (List.mem_append_left _ (List.mem_append_left _ (List.mem_append_left _ (List.mem_append_left _ (List.mem_append_left _ (List.mem_append_right _ (List.mem_append_right _ (List.mem_append_right _ (List.mem_append_right _ (List.mem_append_right _ (List.mem_append_right _ (List.mem_append_right _ (List.mem_append_right _ (List.mem_append_right _ (List.mem_append_right _ (List.mem_append_right _ (List.mem_append_right _ (List.mem_append_right _ (List.mem_append_right _ (List.mem_append_right _ (List.mem_append_right _ (List.mem_append_right _ (List.mem_append_right _ (List.mem_append_right _ (List.mem_append_right _ (List.mem_append_right _ (List.mem_append_right _ (List.mem_append_right _ (List.mem_append_right _ (List.mem_append_right _ (List.mem_append_right _ (List.mem_append_right _ (List.mem_append_left _ h))))))))))))))))))))))))))))))))))))))))
theorem wb_29 : ∀ w ∈ wsL_law0_r29, w ∈ wsL_law := fun w h => wb_0 w (List.mem_append_left _ (List.mem_append_left _ (List.mem_append_left _ (List.mem_append_left _ (List.mem_append_left _ (List.mem_append_left _ (List.mem_append_left _ (List.mem_append_left _ (List.mem_append_left _ (List.mem_append_left _ (List.mem_append_left _ (List.mem_append_left _ (List.mem_append_right _ (List.mem_append_right _ (List.mem_append_right _ (List.mem_append_right _ (List.mem_append_right _ (List.mem_append_right _ (List.mem_append_right _ (List.mem_append_right _ (List.mem_append_right _ (List.mem_append_right _ (List.mem_append_right _ (List.mem_append_right _ (List.mem_append_right _ (List.mem_append_right _ (List.mem_append_right _ (List.mem_append_right _ (List.mem_append_right _ (List.mem_append_right _ (List.mem_append_right _ (List.mem_append_right _ (List.mem_append_right _ (List.mem_append_right _ (List.mem_append_right _ (List.mem_append_right _ (List.mem_append_right _ (List.mem_append_right _ (List.mem_append_right _ (List.mem_append_right _ (List.mem_append_left _ h)))))))))))))))))))))))))))))))))))))))))
theorem wb_30 : ∀ w ∈ wsL_law0_r30, w ∈ wsL_law := fun w h => wb_0 w (List.mem_append_left _ (List.mem_append_left _ (List.mem_append_left _ (List.mem_append_left _ (List.mem_append_left _ (List.mem_append_left _ (List.mem_append_left _ (List.mem_append_left _ (List.mem_append_left _ (List.mem_append_left _ (List.mem_append_left _ (List.mem_append_left _ (List.mem_append_right _ (List.mem_append_right _ (List.mem_append_right _ (List.mem_append_right _ (List.mem_append_right _ (List.mem_append_right _ (List.mem_append_right _ (List.mem_append_right _ (List.mem_append_right _ (List.mem_append_right _ (List.mem_append_right _ (List.mem_append_right _ (List.mem_append_right _ (List.mem_append_right _ (List.mem_append_right _ (List.mem_append_right _ (List.mem_append_right _ (List.mem_append_right _ (List.mem_append_right _ (List.mem_append_right _ (List.mem_append_right _ (List.mem_append_right _ (List.mem_append_right _ (List.mem_append_right _ (List.mem_append_right _ (List.mem_append_right _ (List.mem_append_right _ (List.mem_append_right _ (List.mem_append_right _ (h))))))))))))))))))))))))))))))))))))))))))
theorem wf_X10 : ∀ w ∈ wsX100, w ∈ wsL_law := fun w h => wb_0 w (List.mem_append_left _ (List.mem_append_left _ (List.mem_append_left _ (List.mem_append_left _ (List.mem_append_left _ (List.mem_append_left _ (List.mem_append_left _ (List.mem_append_left _ (List.mem_append_left _ (List.mem_append_left _ (List.mem_append_left _ (List.mem_append_right _ h))))))))))))
theorem wf_X11 : ∀ w ∈ wsX110, w ∈ wsL_law := fun w h => wb_0 w (List.mem_append_left _ (List.mem_append_left _ (List.mem_append_left _ (List.mem_append_left _ (List.mem_append_left _ (List.mem_append_left _ (List.mem_append_left _ (List.mem_append_left _ (List.mem_append_left _ (List.mem_append_left _ (List.mem_append_right _ h)))))))))))
theorem wf_X6 : ∀ w ∈ wsX60, w ∈ wsL_law := fun w h => wb_0 w (List.mem_append_left _ (List.mem_append_left _ (List.mem_append_left _ (List.mem_append_left _ (List.mem_append_left _ (List.mem_append_left _ (List.mem_append_left _ (List.mem_append_left _ (List.mem_append_left _ (List.mem_append_right _ h))))))))))
theorem wf_X0 : ∀ w ∈ wsX00, w ∈ wsL_law := fun w h => wb_0 w (List.mem_append_left _ (List.mem_append_left _ (List.mem_append_left _ (List.mem_append_left _ (List.mem_append_left _ (List.mem_append_left _ (List.mem_append_left _ (List.mem_append_left _ (List.mem_append_right _ h)))))))))
theorem wf_X7 : ∀ w ∈ wsX70, w ∈ wsL_law := fun w h => wb_0 w (List.mem_append_left _ (List.mem_append_left _ (List.mem_append_left _ (List.mem_append_left _ (List.mem_append_left _ (List.mem_append_left _ (List.mem_append_left _ (List.mem_append_right _ h))))))))
theorem wf_X1 : ∀ w ∈ wsX10, w ∈ wsL_law := fun w h => wb_0 w (List.mem_append_left _ (List.mem_append_left _ (List.mem_append_left _ (List.mem_append_left _ (List.mem_append_left _ (List.mem_append_left _ (List.mem_append_right _ h)))))))
theorem wf_X2 : ∀ w ∈ wsX20, w ∈ wsL_law := fun w h => wb_0 w (List.mem_append_left _ (List.mem_append_left _ (List.mem_append_left _ (List.mem_append_left _ (List.mem_append_left _ (List.mem_append_right _ h))))))
theorem wf_X3 : ∀ w ∈ wsX30, w ∈ wsL_law := fun w h => wb_0 w (List.mem_append_left _ (List.mem_append_left _ (List.mem_append_left _ (List.mem_append_left _ (List.mem_append_right _ h)))))
theorem wf_X4 : ∀ w ∈ wsX40, w ∈ wsL_law := fun w h => wb_0 w (List.mem_append_left _ (List.mem_append_left _ (List.mem_append_left _ (List.mem_append_right _ h))))
theorem wf_X5 : ∀ w ∈ wsX50, w ∈ wsL_law := fun w h => wb_0 w (List.mem_append_left _ (List.mem_append_left _ (List.mem_append_right _ h)))
theorem wf_X8 : ∀ w ∈ wsX80, w ∈ wsL_law := fun w h => wb_0 w (List.mem_append_left _ (List.mem_append_right _ h))
theorem lk_L_8 : Cond.classLink RL 8 RX10 ∈ wsL_law := wb_1 _ (List.mem_of_getElem? (i := 0) rfl)
theorem wA_X10 : Cond.instantiable RX10 2 ∈ wsL_law := wb_1 _ (List.mem_of_getElem? (i := 1) rfl)
theorem wN_X10 : Cond.initialized RX10 ∈ wsL_law := wb_1 _ (List.mem_of_getElem? (i := 2) rfl)
theorem lk_L_80 : Cond.classLink RL 80 RX11 ∈ wsL_law := wb_1 _ (List.mem_of_getElem? (i := 3) rfl)
theorem wA_X11 : Cond.instantiable RX11 18 ∈ wsL_law := wb_1 _ (List.mem_of_getElem? (i := 4) rfl)
theorem wN_X11 : Cond.initialized RX11 ∈ wsL_law := wb_1 _ (List.mem_of_getElem? (i := 5) rfl)
theorem wR_long : Cond.arrayClass .long ∈ wsL_law := wb_1 _ (List.mem_of_getElem? (i := 6) rfl)
theorem lk_L_79 : Cond.methodLink RL 79 yX10_init ∈ wsL_law := wb_1 _ (List.mem_of_getElem? (i := 7) rfl)
theorem wI_X10_init : Cond.instanceMethod yX10_init ∈ wsL_law := wb_1 _ (List.mem_of_getElem? (i := 8) rfl)
theorem wC_X10_init : Cond.code yX10_init cX10_init 2 none ∈ wsL_law := wb_1 _ (List.mem_of_getElem? (i := 9) rfl)
theorem lk_X10_1 : Cond.methodLink RX10 1 objectInit ∈ wsL_law := wb_1 _ (List.mem_of_getElem? (i := 10) rfl)
theorem wz_1 : Cond.instanceMethod objectInit ∈ wsL_law := wb_1 _ (List.mem_of_getElem? (i := 11) rfl)
theorem wz_2 : Cond.code objectInit ⟨#[0xb1]⟩ 1 none ∈ wsL_law := wb_1 _ (List.mem_of_getElem? (i := 12) rfl)
theorem lk_X10_9 : Cond.classLink RX10 9 RX6 ∈ wsL_law := wb_1 _ (List.mem_of_getElem? (i := 13) rfl)
theorem lk_X10_11 : Cond.fieldLink RX10 11 "BagViews" "relations" "[LBagViews$Relation;" ∈ wsL_law := wb_1 _ (List.mem_of_getElem? (i := 14) rfl)
theorem wR_int : Cond.arrayClass .int ∈ wsL_law := wb_1 _ (List.mem_of_getElem? (i := 15) rfl)
theorem lk_X10_15 : Cond.fieldLink RX10 15 "BagViews" "told" "[I" ∈ wsL_law := wb_1 _ (List.mem_of_getElem? (i := 16) rfl)
theorem wA_X6 : Cond.instantiable RX6 6 ∈ wsL_law := wb_1 _ (List.mem_of_getElem? (i := 17) rfl)
theorem wN_X6 : Cond.initialized RX6 ∈ wsL_law := wb_1 _ (List.mem_of_getElem? (i := 18) rfl)
theorem wI_X6_init : Cond.instanceMethod yX6_init ∈ wsL_law := wb_1 _ (List.mem_of_getElem? (i := 19) rfl)
theorem wC_X6_init : Cond.code yX6_init cX6_init 1 none ∈ wsL_law := wb_1 _ (List.mem_of_getElem? (i := 20) rfl)
theorem lk_X6_1 : Cond.methodLink RX6 1 objectInit ∈ wsL_law := wb_1 _ (List.mem_of_getElem? (i := 21) rfl)
theorem lk_X6_7 : Cond.classLink RX6 7 RX0 ∈ wsL_law := wb_1 _ (List.mem_of_getElem? (i := 22) rfl)
theorem wA_X0 : Cond.instantiable RX0 3 ∈ wsL_law := wb_1 _ (List.mem_of_getElem? (i := 23) rfl)
theorem wN_X0 : Cond.initialized RX0 ∈ wsL_law := wb_2 _ (List.mem_of_getElem? (i := 0) rfl)
theorem lk_X6_10 : Cond.fieldLink RX6 10 "BagViews$Relation" "now" "LBagViews$Bag;" ∈ wsL_law := wb_2 _ (List.mem_of_getElem? (i := 1) rfl)
theorem lk_X6_16 : Cond.fieldLink RX6 16 "BagViews$Relation" "next" "LBagViews$Bag;" ∈ wsL_law := wb_2 _ (List.mem_of_getElem? (i := 2) rfl)
theorem lk_X6_19 : Cond.fieldLink RX6 19 "BagViews$Relation" "view" "LBagViews$View;" ∈ wsL_law := wb_2 _ (List.mem_of_getElem? (i := 3) rfl)
theorem lk_X6_23 : Cond.fieldLink RX6 23 "BagViews$Relation" "columnCount" "I" ∈ wsL_law := wb_2 _ (List.mem_of_getElem? (i := 4) rfl)
theorem lk_X6_27 : Cond.fieldLink RX6 27 "BagViews$Relation" "pending" "I" ∈ wsL_law := wb_2 _ (List.mem_of_getElem? (i := 5) rfl)
theorem lk_X6_30 : Cond.fieldLink RX6 30 "BagViews$Relation" "changedRows" "I" ∈ wsL_law := wb_2 _ (List.mem_of_getElem? (i := 6) rfl)
theorem wI_X0_init : Cond.instanceMethod yX0_init ∈ wsL_law := wb_2 _ (List.mem_of_getElem? (i := 7) rfl)
theorem wC_X0_init : Cond.code yX0_init cX0_init 1 none ∈ wsL_law := wb_2 _ (List.mem_of_getElem? (i := 8) rfl)
theorem lk_X0_3 : Cond.methodLink RX0 3 objectInit ∈ wsL_law := wb_2 _ (List.mem_of_getElem? (i := 9) rfl)
theorem lk_X0_9 : Cond.fieldLink RX0 9 "BagViews$Bag" "cells" "[I" ∈ wsL_law := wb_2 _ (List.mem_of_getElem? (i := 10) rfl)
theorem lk_X0_15 : Cond.fieldLink RX0 15 "BagViews$Bag" "often" "[I" ∈ wsL_law := wb_2 _ (List.mem_of_getElem? (i := 11) rfl)
theorem lk_L_82 : Cond.methodLink RL 82 yX11_init ∈ wsL_law := wb_2 _ (List.mem_of_getElem? (i := 12) rfl)
theorem wI_X11_init : Cond.instanceMethod yX11_init ∈ wsL_law := wb_2 _ (List.mem_of_getElem? (i := 13) rfl)
theorem wC_X11_init : Cond.code yX11_init cX11_init 1 none ∈ wsL_law := wb_2 _ (List.mem_of_getElem? (i := 14) rfl)
theorem lk_X11_1 : Cond.methodLink RX11 1 objectInit ∈ wsL_law := wb_2 _ (List.mem_of_getElem? (i := 15) rfl)
theorem lk_X11_7 : Cond.fieldLink RX11 7 "BagViewsModel" "kinds" "[I" ∈ wsL_law := wb_2 _ (List.mem_of_getElem? (i := 16) rfl)
theorem lk_X11_13 : Cond.fieldLink RX11 13 "BagViewsModel" "widths" "[I" ∈ wsL_law := wb_2 _ (List.mem_of_getElem? (i := 17) rfl)
theorem lk_X11_16 : Cond.fieldLink RX11 16 "BagViewsModel" "lefts" "[I" ∈ wsL_law := wb_2 _ (List.mem_of_getElem? (i := 18) rfl)
theorem lk_X11_19 : Cond.fieldLink RX11 19 "BagViewsModel" "rights" "[I" ∈ wsL_law := wb_2 _ (List.mem_of_getElem? (i := 19) rfl)
theorem lk_X11_22 : Cond.fieldLink RX11 22 "BagViewsModel" "numbers" "[I" ∈ wsL_law := wb_2 _ (List.mem_of_getElem? (i := 20) rfl)
theorem wR_boolean : Cond.arrayClass .boolean ∈ wsL_law := wb_2 _ (List.mem_of_getElem? (i := 21) rfl)
theorem lk_X11_25 : Cond.fieldLink RX11 25 "BagViewsModel" "others" "[Z" ∈ wsL_law := wb_2 _ (List.mem_of_getElem? (i := 22) rfl)
theorem lk_X11_29 : Cond.fieldLink RX11 29 "BagViewsModel" "order" "[I" ∈ wsL_law := wb_2 _ (List.mem_of_getElem? (i := 23) rfl)
theorem lk_X11_32 : Cond.fieldLink RX11 32 "BagViewsModel" "changes" "[I" ∈ wsL_law := wb_3 _ (List.mem_of_getElem? (i := 0) rfl)
theorem lk_X11_35 : Cond.fieldLink RX11 35 "BagViewsModel" "cells" "[I" ∈ wsL_law := wb_3 _ (List.mem_of_getElem? (i := 1) rfl)
theorem lk_X11_38 : Cond.fieldLink RX11 38 "BagViewsModel" "times" "[I" ∈ wsL_law := wb_3 _ (List.mem_of_getElem? (i := 2) rfl)
theorem lk_X11_41 : Cond.fieldLink RX11 41 "BagViewsModel" "counts" "[I" ∈ wsL_law := wb_3 _ (List.mem_of_getElem? (i := 3) rfl)
theorem lk_X11_44 : Cond.fieldLink RX11 44 "BagViewsModel" "newCells" "[I" ∈ wsL_law := wb_3 _ (List.mem_of_getElem? (i := 4) rfl)
theorem lk_X11_47 : Cond.fieldLink RX11 47 "BagViewsModel" "newTimes" "[I" ∈ wsL_law := wb_3 _ (List.mem_of_getElem? (i := 5) rfl)
theorem lk_X11_50 : Cond.fieldLink RX11 50 "BagViewsModel" "newCounts" "[I" ∈ wsL_law := wb_3 _ (List.mem_of_getElem? (i := 6) rfl)
theorem lk_X11_53 : Cond.fieldLink RX11 53 "BagViewsModel" "row" "[I" ∈ wsL_law := wb_3 _ (List.mem_of_getElem? (i := 7) rfl)
theorem lk_L_83 : Cond.methodLink RL 83 yL_table ∈ wsL_law := wb_3 _ (List.mem_of_getElem? (i := 8) rfl)
theorem wS_L_table : Cond.static yL_table ∈ wsL_law := wb_3 _ (List.mem_of_getElem? (i := 9) rfl)
theorem wN_L : Cond.initialized RL ∈ wsL_law := wb_3 _ (List.mem_of_getElem? (i := 10) rfl)
theorem wH_L_table : Cond.codeWith yL_table cL_table 4 (some .int) [(0, 6, 9, 13), (0, 6, 12, 15), (0, 6, 15, 17)] ∈ wsL_law := wb_3 _ (List.mem_of_getElem? (i := 11) rfl)
theorem lk_L_13 : Cond.classLink RL 13 "java/lang/IndexOutOfBoundsException" ∈ wsL_law := wb_3 _ (List.mem_of_getElem? (i := 12) rfl)
theorem lk_L_15 : Cond.classLink RL 15 "java/lang/IllegalStateException" ∈ wsL_law := wb_3 _ (List.mem_of_getElem? (i := 13) rfl)
theorem lk_L_17 : Cond.classLink RL 17 "java/lang/IllegalArgumentException" ∈ wsL_law := wb_3 _ (List.mem_of_getElem? (i := 14) rfl)
theorem lk_L_7 : Cond.methodLink RL 7 yX10_table ∈ wsL_law := wb_3 _ (List.mem_of_getElem? (i := 15) rfl)
theorem wI_X10_table : Cond.instanceMethod yX10_table ∈ wsL_law := wb_3 _ (List.mem_of_getElem? (i := 16) rfl)
theorem wV_X10_X10_table : Cond.selects RX10 yX10_table yX10_table ∈ wsL_law := wb_3 _ (List.mem_of_getElem? (i := 17) rfl)
theorem wC_X10_table : Cond.code yX10_table cX10_table 4 none ∈ wsL_law := wb_3 _ (List.mem_of_getElem? (i := 18) rfl)
theorem lk_X10_28 : Cond.classLink RX10 28 "java/lang/IllegalArgumentException" ∈ wsL_law := wb_3 _ (List.mem_of_getElem? (i := 19) rfl)
theorem wN_IllegalArgumentException : Cond.initialized "java/lang/IllegalArgumentException" ∈ wsL_law := wb_3 _ (List.mem_of_getElem? (i := 20) rfl)
theorem lk_X10_20 : Cond.methodLink RX10 20 yX10_placeAt ∈ wsL_law := wb_3 _ (List.mem_of_getElem? (i := 21) rfl)
theorem wI_X10_placeAt : Cond.instanceMethod yX10_placeAt ∈ wsL_law := wb_3 _ (List.mem_of_getElem? (i := 22) rfl)
theorem wV_X10_X10_placeAt : Cond.selects RX10 yX10_placeAt yX10_placeAt ∈ wsL_law := wb_3 _ (List.mem_of_getElem? (i := 23) rfl)
theorem wC_X10_placeAt : Cond.code yX10_placeAt cX10_placeAt 2 (some (.object "BagViews$Relation")) ∈ wsL_law := wb_4 _ (List.mem_of_getElem? (i := 0) rfl)
theorem lk_X10_165 : Cond.classLink RX10 165 "java/lang/IndexOutOfBoundsException" ∈ wsL_law := wb_4 _ (List.mem_of_getElem? (i := 1) rfl)
theorem wN_IndexOutOfBoundsException : Cond.initialized "java/lang/IndexOutOfBoundsException" ∈ wsL_law := wb_4 _ (List.mem_of_getElem? (i := 2) rfl)
theorem lk_X10_24 : Cond.methodLink RX10 24 yX10_needFree ∈ wsL_law := wb_4 _ (List.mem_of_getElem? (i := 3) rfl)
theorem wS_X10_needFree : Cond.static yX10_needFree ∈ wsL_law := wb_4 _ (List.mem_of_getElem? (i := 4) rfl)
theorem wC_X10_needFree : Cond.code yX10_needFree cX10_needFree 1 none ∈ wsL_law := wb_4 _ (List.mem_of_getElem? (i := 5) rfl)
theorem lk_X10_114 : Cond.classLink RX10 114 "java/lang/IllegalStateException" ∈ wsL_law := wb_4 _ (List.mem_of_getElem? (i := 6) rfl)
theorem wN_IllegalStateException : Cond.initialized "java/lang/IllegalStateException" ∈ wsL_law := wb_4 _ (List.mem_of_getElem? (i := 7) rfl)
theorem lk_X10_182 : Cond.methodLink RX10 182 yX6_isThere ∈ wsL_law := wb_4 _ (List.mem_of_getElem? (i := 8) rfl)
theorem wI_X6_isThere : Cond.instanceMethod yX6_isThere ∈ wsL_law := wb_4 _ (List.mem_of_getElem? (i := 9) rfl)
theorem wV_X6_X6_isThere : Cond.selects RX6 yX6_isThere yX6_isThere ∈ wsL_law := wb_4 _ (List.mem_of_getElem? (i := 10) rfl)
theorem wC_X6_isThere : Cond.code yX6_isThere cX6_isThere 1 (some .boolean) ∈ wsL_law := wb_4 _ (List.mem_of_getElem? (i := 11) rfl)
theorem lk_X10_39 : Cond.methodLink RX10 39 yX0_clear ∈ wsL_law := wb_4 _ (List.mem_of_getElem? (i := 12) rfl)
theorem wI_X0_clear : Cond.instanceMethod yX0_clear ∈ wsL_law := wb_4 _ (List.mem_of_getElem? (i := 13) rfl)
theorem wV_X0_X0_clear : Cond.selects RX0 yX0_clear yX0_clear ∈ wsL_law := wb_4 _ (List.mem_of_getElem? (i := 14) rfl)
theorem wC_X0_clear : Cond.code yX0_clear cX0_clear 1 none ∈ wsL_law := wb_4 _ (List.mem_of_getElem? (i := 15) rfl)
theorem lk_X0_18 : Cond.fieldLink RX0 18 "BagViews$Bag" "rowCount" "I" ∈ wsL_law := wb_4 _ (List.mem_of_getElem? (i := 16) rfl)
theorem lk_X10_44 : Cond.methodLink RX10 44 yX6_begin ∈ wsL_law := wb_4 _ (List.mem_of_getElem? (i := 17) rfl)
theorem wI_X6_begin : Cond.instanceMethod yX6_begin ∈ wsL_law := wb_4 _ (List.mem_of_getElem? (i := 18) rfl)
theorem wV_X6_X6_begin : Cond.selects RX6 yX6_begin yX6_begin ∈ wsL_law := wb_4 _ (List.mem_of_getElem? (i := 19) rfl)
theorem wC_X6_begin : Cond.code yX6_begin cX6_begin 3 none ∈ wsL_law := wb_4 _ (List.mem_of_getElem? (i := 20) rfl)
theorem lk_L_88 : Cond.methodLink RL 88 yX11_table ∈ wsL_law := wb_4 _ (List.mem_of_getElem? (i := 21) rfl)
theorem wI_X11_table : Cond.instanceMethod yX11_table ∈ wsL_law := wb_4 _ (List.mem_of_getElem? (i := 22) rfl)
theorem wV_X11_X11_table : Cond.selects RX11 yX11_table yX11_table ∈ wsL_law := wb_4 _ (List.mem_of_getElem? (i := 23) rfl)
theorem wC_X11_table : Cond.code yX11_table cX11_table 3 none ∈ wsL_law := wb_5 _ (List.mem_of_getElem? (i := 0) rfl)
theorem lk_X11_56 : Cond.fieldLink RX11 56 "BagViewsModel" "thrown" "I" ∈ wsL_law := wb_5 _ (List.mem_of_getElem? (i := 1) rfl)
theorem lk_X11_109 : Cond.methodLink RX11 109 yX11_isPlace ∈ wsL_law := wb_5 _ (List.mem_of_getElem? (i := 2) rfl)
theorem wS_X11_isPlace : Cond.static yX11_isPlace ∈ wsL_law := wb_5 _ (List.mem_of_getElem? (i := 3) rfl)
theorem wC_X11_isPlace : Cond.code yX11_isPlace cX11_isPlace 1 (some .boolean) ∈ wsL_law := wb_5 _ (List.mem_of_getElem? (i := 4) rfl)
theorem lk_X11_119 : Cond.methodLink RX11 119 yX11_enter ∈ wsL_law := wb_5 _ (List.mem_of_getElem? (i := 5) rfl)
theorem wI_X11_enter : Cond.instanceMethod yX11_enter ∈ wsL_law := wb_5 _ (List.mem_of_getElem? (i := 6) rfl)
theorem wV_X11_X11_enter : Cond.selects RX11 yX11_enter yX11_enter ∈ wsL_law := wb_5 _ (List.mem_of_getElem? (i := 7) rfl)
theorem wC_X11_enter : Cond.code yX11_enter cX11_enter 6 none ∈ wsL_law := wb_5 _ (List.mem_of_getElem? (i := 8) rfl)
theorem lk_X11_116 : Cond.fieldLink RX11 116 "BagViewsModel" "orderCount" "I" ∈ wsL_law := wb_5 _ (List.mem_of_getElem? (i := 9) rfl)
theorem lk_L_89 : Cond.methodLink RL 89 yX11_thrown ∈ wsL_law := wb_5 _ (List.mem_of_getElem? (i := 10) rfl)
theorem wI_X11_thrown : Cond.instanceMethod yX11_thrown ∈ wsL_law := wb_5 _ (List.mem_of_getElem? (i := 11) rfl)
theorem wV_X11_X11_thrown : Cond.selects RX11 yX11_thrown yX11_thrown ∈ wsL_law := wb_5 _ (List.mem_of_getElem? (i := 12) rfl)
theorem wC_X11_thrown : Cond.code yX11_thrown cX11_thrown 1 (some .int) ∈ wsL_law := wb_5 _ (List.mem_of_getElem? (i := 13) rfl)
theorem lk_L_93 : Cond.methodLink RL 93 yL_select ∈ wsL_law := wb_5 _ (List.mem_of_getElem? (i := 14) rfl)
theorem wS_L_select : Cond.static yL_select ∈ wsL_law := wb_5 _ (List.mem_of_getElem? (i := 15) rfl)
theorem wH_L_select : Cond.codeWith yL_select cL_select 8 (some .int) [(0, 13, 16, 13), (0, 13, 20, 15), (0, 13, 24, 17), (0, 13, 28, 23)] ∈ wsL_law := wb_5 _ (List.mem_of_getElem? (i := 16) rfl)
theorem lk_L_23 : Cond.classLink RL 23 "java/lang/UnsupportedOperationException" ∈ wsL_law := wb_5 _ (List.mem_of_getElem? (i := 17) rfl)
theorem lk_L_19 : Cond.methodLink RL 19 yX10_select ∈ wsL_law := wb_5 _ (List.mem_of_getElem? (i := 18) rfl)
theorem wI_X10_select : Cond.instanceMethod yX10_select ∈ wsL_law := wb_5 _ (List.mem_of_getElem? (i := 19) rfl)
theorem wV_X10_X10_select : Cond.selects RX10 yX10_select yX10_select ∈ wsL_law := wb_5 _ (List.mem_of_getElem? (i := 20) rfl)
theorem wC_X10_select : Cond.code yX10_select cX10_select 9 none ∈ wsL_law := wb_5 _ (List.mem_of_getElem? (i := 21) rfl)
theorem lk_X10_61 : Cond.classLink RX10 61 RX7 ∈ wsL_law := wb_5 _ (List.mem_of_getElem? (i := 22) rfl)
theorem wA_X7 : Cond.instantiable RX7 8 ∈ wsL_law := wb_5 _ (List.mem_of_getElem? (i := 23) rfl)
theorem wN_X7 : Cond.initialized RX7 ∈ wsL_law := wb_6 _ (List.mem_of_getElem? (i := 0) rfl)
theorem lk_X10_48 : Cond.methodLink RX10 48 yX10_relationAt ∈ wsL_law := wb_6 _ (List.mem_of_getElem? (i := 1) rfl)
theorem wI_X10_relationAt : Cond.instanceMethod yX10_relationAt ∈ wsL_law := wb_6 _ (List.mem_of_getElem? (i := 2) rfl)
theorem wV_X10_X10_relationAt : Cond.selects RX10 yX10_relationAt yX10_relationAt ∈ wsL_law := wb_6 _ (List.mem_of_getElem? (i := 3) rfl)
theorem wC_X10_relationAt : Cond.code yX10_relationAt cX10_relationAt 3 (some (.object "BagViews$Relation")) ∈ wsL_law := wb_6 _ (List.mem_of_getElem? (i := 4) rfl)
theorem lk_X10_51 : Cond.methodLink RX10 51 yX10_needColumn ∈ wsL_law := wb_6 _ (List.mem_of_getElem? (i := 5) rfl)
theorem wS_X10_needColumn : Cond.static yX10_needColumn ∈ wsL_law := wb_6 _ (List.mem_of_getElem? (i := 6) rfl)
theorem wC_X10_needColumn : Cond.code yX10_needColumn cX10_needColumn 2 none ∈ wsL_law := wb_6 _ (List.mem_of_getElem? (i := 7) rfl)
theorem lk_X10_63 : Cond.methodLink RX10 63 yX7_init ∈ wsL_law := wb_6 _ (List.mem_of_getElem? (i := 8) rfl)
theorem wI_X7_init : Cond.instanceMethod yX7_init ∈ wsL_law := wb_6 _ (List.mem_of_getElem? (i := 9) rfl)
theorem wC_X7_init : Cond.code yX7_init cX7_init 6 none ∈ wsL_law := wb_6 _ (List.mem_of_getElem? (i := 10) rfl)
theorem lk_X7_9 : Cond.fieldLink RX7 9 "BagViews$Selection" "column" "I" ∈ wsL_law := wb_6 _ (List.mem_of_getElem? (i := 11) rfl)
theorem lk_X7_15 : Cond.fieldLink RX7 15 "BagViews$Selection" "compare" "I" ∈ wsL_law := wb_6 _ (List.mem_of_getElem? (i := 12) rfl)
theorem lk_X7_18 : Cond.fieldLink RX7 18 "BagViews$Selection" "than" "I" ∈ wsL_law := wb_6 _ (List.mem_of_getElem? (i := 13) rfl)
theorem lk_X7_21 : Cond.fieldLink RX7 21 "BagViews$Selection" "thanColumn" "Z" ∈ wsL_law := wb_6 _ (List.mem_of_getElem? (i := 14) rfl)
theorem lk_X7_3 : Cond.methodLink RX7 3 yX9_init ∈ wsL_law := wb_6 _ (List.mem_of_getElem? (i := 15) rfl)
theorem wI_X9_init : Cond.instanceMethod yX9_init ∈ wsL_law := wb_6 _ (List.mem_of_getElem? (i := 16) rfl)
theorem wN_X9 : Cond.initialized RX9 ∈ wsL_law := wb_6 _ (List.mem_of_getElem? (i := 17) rfl)
theorem wC_X9_init : Cond.code yX9_init cX9_init 3 none ∈ wsL_law := wb_6 _ (List.mem_of_getElem? (i := 18) rfl)
theorem lk_X9_3 : Cond.methodLink RX9 3 objectInit ∈ wsL_law := wb_6 _ (List.mem_of_getElem? (i := 19) rfl)
theorem lk_X9_9 : Cond.fieldLink RX9 9 "BagViews$View" "row" "[I" ∈ wsL_law := wb_6 _ (List.mem_of_getElem? (i := 20) rfl)
theorem lk_X9_15 : Cond.fieldLink RX9 15 "BagViews$View" "left" "LBagViews$Relation;" ∈ wsL_law := wb_6 _ (List.mem_of_getElem? (i := 21) rfl)
theorem lk_X9_19 : Cond.fieldLink RX9 19 "BagViews$View" "right" "LBagViews$Relation;" ∈ wsL_law := wb_6 _ (List.mem_of_getElem? (i := 22) rfl)
theorem lk_X9_28 : Cond.methodLink RX9 28 Lib.Math.max.name ∈ wsL_law := wb_6 _ (List.mem_of_getElem? (i := 23) rfl)
theorem wz_3 : Cond.static Lib.Math.max.name ∈ wsL_law := wb_7 _ (List.mem_of_getElem? (i := 0) rfl)
theorem wN_Math : Cond.initialized "java/lang/Math" ∈ wsL_law := wb_7 _ (List.mem_of_getElem? (i := 1) rfl)
theorem wz_4 : Cond.code Lib.Math.max.name Lib.Math.max.code 2 (some .int) ∈ wsL_law := wb_7 _ (List.mem_of_getElem? (i := 2) rfl)
theorem lk_X9_34 : Cond.fieldLink RX9 34 "BagViews$View" "depth" "I" ∈ wsL_law := wb_7 _ (List.mem_of_getElem? (i := 3) rfl)
theorem lk_X9_22 : Cond.methodLink RX9 22 yX6_depth ∈ wsL_law := wb_7 _ (List.mem_of_getElem? (i := 4) rfl)
theorem wI_X6_depth : Cond.instanceMethod yX6_depth ∈ wsL_law := wb_7 _ (List.mem_of_getElem? (i := 5) rfl)
theorem wV_X6_X6_depth : Cond.selects RX6 yX6_depth yX6_depth ∈ wsL_law := wb_7 _ (List.mem_of_getElem? (i := 6) rfl)
theorem wC_X6_depth : Cond.code yX6_depth cX6_depth 1 (some .int) ∈ wsL_law := wb_7 _ (List.mem_of_getElem? (i := 7) rfl)
theorem lk_X6_42 : Cond.fieldLink RX6 42 "BagViews$View" "depth" "I" ∈ wsL_law := wb_7 _ (List.mem_of_getElem? (i := 8) rfl)
theorem lk_X10_66 : Cond.methodLink RX10 66 yX10_makeView ∈ wsL_law := wb_7 _ (List.mem_of_getElem? (i := 9) rfl)
theorem wS_X10_makeView : Cond.static yX10_makeView ∈ wsL_law := wb_7 _ (List.mem_of_getElem? (i := 10) rfl)
theorem wC_X10_makeView : Cond.code yX10_makeView cX10_makeView 3 none ∈ wsL_law := wb_7 _ (List.mem_of_getElem? (i := 11) rfl)
theorem lk_X10_214 : Cond.classLink RX10 214 "java/lang/UnsupportedOperationException" ∈ wsL_law := wb_7 _ (List.mem_of_getElem? (i := 12) rfl)
theorem wN_UnsupportedOperationException : Cond.initialized "java/lang/UnsupportedOperationException" ∈ wsL_law := wb_7 _ (List.mem_of_getElem? (i := 13) rfl)
theorem lk_X10_208 : Cond.methodLink RX10 208 ⟨"BagViews$View", "makeInto", "(LBagViews$Bag;)Z"⟩ ∈ wsL_law := wb_7 _ (List.mem_of_getElem? (i := 14) rfl)
theorem wz_5 : Cond.sameMethod "BagViews$View" "BagViews$View" "makeInto" "(LBagViews$Bag;)Z" ∈ wsL_law := wb_7 _ (List.mem_of_getElem? (i := 15) rfl)
theorem wV_X1_X1_makeInto : Cond.selects RX1 ⟨"BagViews$View", "makeInto", "(LBagViews$Bag;)Z"⟩ yX1_makeInto ∈ wsL_law := wb_7 _ (List.mem_of_getElem? (i := 16) rfl)
theorem wI_X1_makeInto : Cond.instanceMethod yX1_makeInto ∈ wsL_law := wb_7 _ (List.mem_of_getElem? (i := 17) rfl)
theorem wN_X1 : Cond.initialized RX1 ∈ wsL_law := wb_7 _ (List.mem_of_getElem? (i := 18) rfl)
theorem wC_X1_makeInto : Cond.code yX1_makeInto cX1_makeInto 6 (some .boolean) ∈ wsL_law := wb_7 _ (List.mem_of_getElem? (i := 19) rfl)
theorem lk_X1_15 : Cond.fieldLink RX1 15 "BagViews$Choice" "left" "LBagViews$Relation;" ∈ wsL_law := wb_7 _ (List.mem_of_getElem? (i := 20) rfl)
theorem wz_6 : Cond.sameField "BagViews$Choice" "BagViews$View" "left" "LBagViews$Relation;" ∈ wsL_law := wb_7 _ (List.mem_of_getElem? (i := 21) rfl)
theorem lk_X1_31 : Cond.fieldLink RX1 31 "BagViews$Choice" "row" "[I" ∈ wsL_law := wb_7 _ (List.mem_of_getElem? (i := 22) rfl)
theorem wz_7 : Cond.sameField "BagViews$Choice" "BagViews$View" "row" "[I" ∈ wsL_law := wb_7 _ (List.mem_of_getElem? (i := 23) rfl)
theorem lk_X1_9 : Cond.fieldLink RX1 9 "BagViews$Choice" "chosen" "[I" ∈ wsL_law := wb_8 _ (List.mem_of_getElem? (i := 0) rfl)
theorem lk_X1_19 : Cond.methodLink RX1 19 yX6_latest ∈ wsL_law := wb_8 _ (List.mem_of_getElem? (i := 1) rfl)
theorem wI_X6_latest : Cond.instanceMethod yX6_latest ∈ wsL_law := wb_8 _ (List.mem_of_getElem? (i := 2) rfl)
theorem wV_X6_X6_latest : Cond.selects RX6 yX6_latest yX6_latest ∈ wsL_law := wb_8 _ (List.mem_of_getElem? (i := 3) rfl)
theorem wC_X6_latest : Cond.code yX6_latest cX6_latest 1 (some (.object "BagViews$Bag")) ∈ wsL_law := wb_8 _ (List.mem_of_getElem? (i := 4) rfl)
theorem lk_X1_34 : Cond.methodLink RX1 34 yX0_cellAt ∈ wsL_law := wb_8 _ (List.mem_of_getElem? (i := 5) rfl)
theorem wI_X0_cellAt : Cond.instanceMethod yX0_cellAt ∈ wsL_law := wb_8 _ (List.mem_of_getElem? (i := 6) rfl)
theorem wV_X0_X0_cellAt : Cond.selects RX0 yX0_cellAt yX0_cellAt ∈ wsL_law := wb_8 _ (List.mem_of_getElem? (i := 7) rfl)
theorem wC_X0_cellAt : Cond.code yX0_cellAt cX0_cellAt 3 (some .int) ∈ wsL_law := wb_8 _ (List.mem_of_getElem? (i := 8) rfl)
theorem lk_X1_41 : Cond.methodLink RX1 41 yX0_add ∈ wsL_law := wb_8 _ (List.mem_of_getElem? (i := 9) rfl)
theorem wI_X0_add : Cond.instanceMethod yX0_add ∈ wsL_law := wb_8 _ (List.mem_of_getElem? (i := 10) rfl)
theorem wV_X0_X0_add : Cond.selects RX0 yX0_add yX0_add ∈ wsL_law := wb_8 _ (List.mem_of_getElem? (i := 11) rfl)
theorem wC_X0_add : Cond.code yX0_add cX0_add 5 (some .boolean) ∈ wsL_law := wb_8 _ (List.mem_of_getElem? (i := 12) rfl)
theorem lk_X0_28 : Cond.methodLink RX0 28 yX0_placeBehind ∈ wsL_law := wb_8 _ (List.mem_of_getElem? (i := 13) rfl)
theorem wI_X0_placeBehind : Cond.instanceMethod yX0_placeBehind ∈ wsL_law := wb_8 _ (List.mem_of_getElem? (i := 14) rfl)
theorem wV_X0_X0_placeBehind : Cond.selects RX0 yX0_placeBehind yX0_placeBehind ∈ wsL_law := wb_8 _ (List.mem_of_getElem? (i := 15) rfl)
theorem wC_X0_placeBehind : Cond.code yX0_placeBehind cX0_placeBehind 3 (some .int) ∈ wsL_law := wb_8 _ (List.mem_of_getElem? (i := 16) rfl)
theorem lk_X0_44 : Cond.methodLink RX0 44 yX0_compareRow ∈ wsL_law := wb_8 _ (List.mem_of_getElem? (i := 17) rfl)
theorem wI_X0_compareRow : Cond.instanceMethod yX0_compareRow ∈ wsL_law := wb_8 _ (List.mem_of_getElem? (i := 18) rfl)
theorem wV_X0_X0_compareRow : Cond.selects RX0 yX0_compareRow yX0_compareRow ∈ wsL_law := wb_8 _ (List.mem_of_getElem? (i := 19) rfl)
theorem wC_X0_compareRow : Cond.code yX0_compareRow cX0_compareRow 7 (some .int) ∈ wsL_law := wb_8 _ (List.mem_of_getElem? (i := 20) rfl)
theorem lk_X0_32 : Cond.methodLink RX0 32 yX0_isAt ∈ wsL_law := wb_8 _ (List.mem_of_getElem? (i := 21) rfl)
theorem wI_X0_isAt : Cond.instanceMethod yX0_isAt ∈ wsL_law := wb_8 _ (List.mem_of_getElem? (i := 22) rfl)
theorem wV_X0_X0_isAt : Cond.selects RX0 yX0_isAt yX0_isAt ∈ wsL_law := wb_8 _ (List.mem_of_getElem? (i := 23) rfl)
theorem wC_X0_isAt : Cond.code yX0_isAt cX0_isAt 3 (some .boolean) ∈ wsL_law := wb_9 _ (List.mem_of_getElem? (i := 0) rfl)
theorem lk_X0_36 : Cond.methodLink RX0 36 yX0_setTimes ∈ wsL_law := wb_9 _ (List.mem_of_getElem? (i := 1) rfl)
theorem wI_X0_setTimes : Cond.instanceMethod yX0_setTimes ∈ wsL_law := wb_9 _ (List.mem_of_getElem? (i := 2) rfl)
theorem wV_X0_X0_setTimes : Cond.selects RX0 yX0_setTimes yX0_setTimes ∈ wsL_law := wb_9 _ (List.mem_of_getElem? (i := 3) rfl)
theorem wC_X0_setTimes : Cond.code yX0_setTimes cX0_setTimes 4 (some .boolean) ∈ wsL_law := wb_9 _ (List.mem_of_getElem? (i := 4) rfl)
theorem lk_X0_48 : Cond.constantLong RX0 48 (1000000000) ∈ wsL_law := wb_9 _ (List.mem_of_getElem? (i := 5) rfl)
theorem lk_X0_50 : Cond.methodLink RX0 50 yX0_remove ∈ wsL_law := wb_9 _ (List.mem_of_getElem? (i := 6) rfl)
theorem wI_X0_remove : Cond.instanceMethod yX0_remove ∈ wsL_law := wb_9 _ (List.mem_of_getElem? (i := 7) rfl)
theorem wV_X0_X0_remove : Cond.selects RX0 yX0_remove yX0_remove ∈ wsL_law := wb_9 _ (List.mem_of_getElem? (i := 8) rfl)
theorem wC_X0_remove : Cond.code yX0_remove cX0_remove 4 none ∈ wsL_law := wb_9 _ (List.mem_of_getElem? (i := 9) rfl)
theorem lk_X0_22 : Cond.methodLink RX0 22 arraycopyName ∈ wsL_law := wb_9 _ (List.mem_of_getElem? (i := 10) rfl)
theorem wz_8 : Cond.native arraycopyName ∈ wsL_law := wb_9 _ (List.mem_of_getElem? (i := 11) rfl)
theorem wz_9 : Cond.static arraycopyName ∈ wsL_law := wb_9 _ (List.mem_of_getElem? (i := 12) rfl)
theorem wN_System : Cond.initialized "java/lang/System" ∈ wsL_law := wb_9 _ (List.mem_of_getElem? (i := 13) rfl)
theorem lk_X0_40 : Cond.methodLink RX0 40 yX0_insert ∈ wsL_law := wb_9 _ (List.mem_of_getElem? (i := 14) rfl)
theorem wI_X0_insert : Cond.instanceMethod yX0_insert ∈ wsL_law := wb_9 _ (List.mem_of_getElem? (i := 15) rfl)
theorem wV_X0_X0_insert : Cond.selects RX0 yX0_insert yX0_insert ∈ wsL_law := wb_9 _ (List.mem_of_getElem? (i := 16) rfl)
theorem wC_X0_insert : Cond.code yX0_insert cX0_insert 7 (some .boolean) ∈ wsL_law := wb_9 _ (List.mem_of_getElem? (i := 17) rfl)
theorem wV_X2_X2_makeInto : Cond.selects RX2 ⟨"BagViews$View", "makeInto", "(LBagViews$Bag;)Z"⟩ yX2_makeInto ∈ wsL_law := wb_9 _ (List.mem_of_getElem? (i := 18) rfl)
theorem wI_X2_makeInto : Cond.instanceMethod yX2_makeInto ∈ wsL_law := wb_9 _ (List.mem_of_getElem? (i := 19) rfl)
theorem wN_X2 : Cond.initialized RX2 ∈ wsL_law := wb_9 _ (List.mem_of_getElem? (i := 20) rfl)
theorem wC_X2_makeInto : Cond.code yX2_makeInto cX2_makeInto 6 (some .boolean) ∈ wsL_law := wb_9 _ (List.mem_of_getElem? (i := 21) rfl)
theorem lk_X2_7 : Cond.fieldLink RX2 7 "BagViews$Difference" "left" "LBagViews$Relation;" ∈ wsL_law := wb_9 _ (List.mem_of_getElem? (i := 22) rfl)
theorem wz_10 : Cond.sameField "BagViews$Difference" "BagViews$View" "left" "LBagViews$Relation;" ∈ wsL_law := wb_9 _ (List.mem_of_getElem? (i := 23) rfl)
theorem lk_X2_19 : Cond.fieldLink RX2 19 "BagViews$Difference" "right" "LBagViews$Relation;" ∈ wsL_law := wb_10 _ (List.mem_of_getElem? (i := 0) rfl)
theorem wz_11 : Cond.sameField "BagViews$Difference" "BagViews$View" "right" "LBagViews$Relation;" ∈ wsL_law := wb_10 _ (List.mem_of_getElem? (i := 1) rfl)
theorem lk_X2_28 : Cond.fieldLink RX2 28 "BagViews$Difference" "row" "[I" ∈ wsL_law := wb_10 _ (List.mem_of_getElem? (i := 2) rfl)
theorem wz_12 : Cond.sameField "BagViews$Difference" "BagViews$View" "row" "[I" ∈ wsL_law := wb_10 _ (List.mem_of_getElem? (i := 3) rfl)
theorem lk_X2_13 : Cond.methodLink RX2 13 yX6_latest ∈ wsL_law := wb_10 _ (List.mem_of_getElem? (i := 4) rfl)
theorem lk_X2_32 : Cond.methodLink RX2 32 yX0_readRow ∈ wsL_law := wb_10 _ (List.mem_of_getElem? (i := 5) rfl)
theorem wI_X0_readRow : Cond.instanceMethod yX0_readRow ∈ wsL_law := wb_10 _ (List.mem_of_getElem? (i := 6) rfl)
theorem wV_X0_X0_readRow : Cond.selects RX0 yX0_readRow yX0_readRow ∈ wsL_law := wb_10 _ (List.mem_of_getElem? (i := 7) rfl)
theorem wC_X0_readRow : Cond.code yX0_readRow cX0_readRow 3 none ∈ wsL_law := wb_10 _ (List.mem_of_getElem? (i := 8) rfl)
theorem lk_X2_39 : Cond.methodLink RX2 39 yX0_timesOf ∈ wsL_law := wb_10 _ (List.mem_of_getElem? (i := 9) rfl)
theorem wI_X0_timesOf : Cond.instanceMethod yX0_timesOf ∈ wsL_law := wb_10 _ (List.mem_of_getElem? (i := 10) rfl)
theorem wV_X0_X0_timesOf : Cond.selects RX0 yX0_timesOf yX0_timesOf ∈ wsL_law := wb_10 _ (List.mem_of_getElem? (i := 11) rfl)
theorem wC_X0_timesOf : Cond.code yX0_timesOf cX0_timesOf 3 (some .int) ∈ wsL_law := wb_10 _ (List.mem_of_getElem? (i := 12) rfl)
theorem lk_X2_43 : Cond.methodLink RX2 43 yX0_add ∈ wsL_law := wb_10 _ (List.mem_of_getElem? (i := 13) rfl)
theorem wV_X3_X3_makeInto : Cond.selects RX3 ⟨"BagViews$View", "makeInto", "(LBagViews$Bag;)Z"⟩ yX3_makeInto ∈ wsL_law := wb_10 _ (List.mem_of_getElem? (i := 14) rfl)
theorem wI_X3_makeInto : Cond.instanceMethod yX3_makeInto ∈ wsL_law := wb_10 _ (List.mem_of_getElem? (i := 15) rfl)
theorem wN_X3 : Cond.initialized RX3 ∈ wsL_law := wb_10 _ (List.mem_of_getElem? (i := 16) rfl)
theorem wC_X3_makeInto : Cond.code yX3_makeInto cX3_makeInto 5 (some .boolean) ∈ wsL_law := wb_10 _ (List.mem_of_getElem? (i := 17) rfl)
theorem lk_X3_21 : Cond.fieldLink RX3 21 "BagViews$Group" "left" "LBagViews$Relation;" ∈ wsL_law := wb_10 _ (List.mem_of_getElem? (i := 18) rfl)
theorem wz_13 : Cond.sameField "BagViews$Group" "BagViews$View" "left" "LBagViews$Relation;" ∈ wsL_law := wb_10 _ (List.mem_of_getElem? (i := 19) rfl)
theorem lk_X3_40 : Cond.fieldLink RX3 40 "BagViews$Group" "row" "[I" ∈ wsL_law := wb_10 _ (List.mem_of_getElem? (i := 20) rfl)
theorem wz_14 : Cond.sameField "BagViews$Group" "BagViews$View" "row" "[I" ∈ wsL_law := wb_10 _ (List.mem_of_getElem? (i := 21) rfl)
theorem lk_X3_9 : Cond.fieldLink RX3 9 "BagViews$Group" "by" "I" ∈ wsL_law := wb_10 _ (List.mem_of_getElem? (i := 22) rfl)
theorem lk_X3_25 : Cond.methodLink RX3 25 yX6_latest ∈ wsL_law := wb_10 _ (List.mem_of_getElem? (i := 23) rfl)
theorem lk_X3_36 : Cond.methodLink RX3 36 yX3_isFirst ∈ wsL_law := wb_11 _ (List.mem_of_getElem? (i := 0) rfl)
theorem wI_X3_isFirst : Cond.instanceMethod yX3_isFirst ∈ wsL_law := wb_11 _ (List.mem_of_getElem? (i := 1) rfl)
theorem wV_X3_X3_isFirst : Cond.selects RX3 yX3_isFirst yX3_isFirst ∈ wsL_law := wb_11 _ (List.mem_of_getElem? (i := 2) rfl)
theorem wC_X3_isFirst : Cond.code yX3_isFirst cX3_isFirst 4 (some .boolean) ∈ wsL_law := wb_11 _ (List.mem_of_getElem? (i := 3) rfl)
theorem lk_X3_56 : Cond.methodLink RX3 56 yX3_isTogether ∈ wsL_law := wb_11 _ (List.mem_of_getElem? (i := 4) rfl)
theorem wI_X3_isTogether : Cond.instanceMethod yX3_isTogether ∈ wsL_law := wb_11 _ (List.mem_of_getElem? (i := 5) rfl)
theorem wV_X3_X3_isTogether : Cond.selects RX3 yX3_isTogether yX3_isTogether ∈ wsL_law := wb_11 _ (List.mem_of_getElem? (i := 6) rfl)
theorem wC_X3_isTogether : Cond.code yX3_isTogether cX3_isTogether 4 (some .boolean) ∈ wsL_law := wb_11 _ (List.mem_of_getElem? (i := 7) rfl)
theorem lk_X3_44 : Cond.methodLink RX3 44 yX0_cellAt ∈ wsL_law := wb_11 _ (List.mem_of_getElem? (i := 8) rfl)
theorem lk_X3_48 : Cond.methodLink RX3 48 yX3_valueFrom ∈ wsL_law := wb_11 _ (List.mem_of_getElem? (i := 9) rfl)
theorem wI_X3_valueFrom : Cond.instanceMethod yX3_valueFrom ∈ wsL_law := wb_11 _ (List.mem_of_getElem? (i := 10) rfl)
theorem wV_X3_X3_valueFrom : Cond.selects RX3 yX3_valueFrom yX3_valueFrom ∈ wsL_law := wb_11 _ (List.mem_of_getElem? (i := 11) rfl)
theorem wC_X3_valueFrom : Cond.code yX3_valueFrom cX3_valueFrom 5 (some .int) ∈ wsL_law := wb_11 _ (List.mem_of_getElem? (i := 12) rfl)
theorem lk_X3_15 : Cond.fieldLink RX3 15 "BagViews$Group" "sort" "I" ∈ wsL_law := wb_11 _ (List.mem_of_getElem? (i := 13) rfl)
theorem lk_X3_18 : Cond.fieldLink RX3 18 "BagViews$Group" "column" "I" ∈ wsL_law := wb_11 _ (List.mem_of_getElem? (i := 14) rfl)
theorem lk_X3_63 : Cond.methodLink RX3 63 yX3_withRow ∈ wsL_law := wb_11 _ (List.mem_of_getElem? (i := 15) rfl)
theorem wI_X3_withRow : Cond.instanceMethod yX3_withRow ∈ wsL_law := wb_11 _ (List.mem_of_getElem? (i := 16) rfl)
theorem wV_X3_X3_withRow : Cond.selects RX3 yX3_withRow yX3_withRow ∈ wsL_law := wb_11 _ (List.mem_of_getElem? (i := 17) rfl)
theorem wC_X3_withRow : Cond.code yX3_withRow cX3_withRow 4 (some .int) ∈ wsL_law := wb_11 _ (List.mem_of_getElem? (i := 18) rfl)
theorem lk_X3_67 : Cond.methodLink RX3 67 Lib.Math.min.name ∈ wsL_law := wb_11 _ (List.mem_of_getElem? (i := 19) rfl)
theorem wz_15 : Cond.static Lib.Math.min.name ∈ wsL_law := wb_11 _ (List.mem_of_getElem? (i := 20) rfl)
theorem wz_16 : Cond.code Lib.Math.min.name Lib.Math.min.code 2 (some .int) ∈ wsL_law := wb_11 _ (List.mem_of_getElem? (i := 21) rfl)
theorem lk_X3_72 : Cond.methodLink RX3 72 Lib.Math.max.name ∈ wsL_law := wb_11 _ (List.mem_of_getElem? (i := 22) rfl)
theorem lk_X3_52 : Cond.methodLink RX3 52 yX0_add ∈ wsL_law := wb_11 _ (List.mem_of_getElem? (i := 23) rfl)
theorem wV_X4_X4_makeInto : Cond.selects RX4 ⟨"BagViews$View", "makeInto", "(LBagViews$Bag;)Z"⟩ yX4_makeInto ∈ wsL_law := wb_12 _ (List.mem_of_getElem? (i := 0) rfl)
theorem wI_X4_makeInto : Cond.instanceMethod yX4_makeInto ∈ wsL_law := wb_12 _ (List.mem_of_getElem? (i := 1) rfl)
theorem wN_X4 : Cond.initialized RX4 ∈ wsL_law := wb_12 _ (List.mem_of_getElem? (i := 2) rfl)
theorem wC_X4_makeInto : Cond.code yX4_makeInto cX4_makeInto 6 (some .boolean) ∈ wsL_law := wb_12 _ (List.mem_of_getElem? (i := 3) rfl)
theorem lk_X4_18 : Cond.fieldLink RX4 18 "BagViews$Join" "left" "LBagViews$Relation;" ∈ wsL_law := wb_12 _ (List.mem_of_getElem? (i := 4) rfl)
theorem wz_17 : Cond.sameField "BagViews$Join" "BagViews$View" "left" "LBagViews$Relation;" ∈ wsL_law := wb_12 _ (List.mem_of_getElem? (i := 5) rfl)
theorem lk_X4_28 : Cond.fieldLink RX4 28 "BagViews$Join" "right" "LBagViews$Relation;" ∈ wsL_law := wb_12 _ (List.mem_of_getElem? (i := 6) rfl)
theorem wz_18 : Cond.sameField "BagViews$Join" "BagViews$View" "right" "LBagViews$Relation;" ∈ wsL_law := wb_12 _ (List.mem_of_getElem? (i := 7) rfl)
theorem lk_X4_9 : Cond.fieldLink RX4 9 "BagViews$Join" "leftColumn" "I" ∈ wsL_law := wb_12 _ (List.mem_of_getElem? (i := 8) rfl)
theorem lk_X4_15 : Cond.fieldLink RX4 15 "BagViews$Join" "rightColumn" "I" ∈ wsL_law := wb_12 _ (List.mem_of_getElem? (i := 9) rfl)
theorem lk_X4_44 : Cond.fieldLink RX4 44 "BagViews$Join" "row" "[I" ∈ wsL_law := wb_12 _ (List.mem_of_getElem? (i := 10) rfl)
theorem wz_19 : Cond.sameField "BagViews$Join" "BagViews$View" "row" "[I" ∈ wsL_law := wb_12 _ (List.mem_of_getElem? (i := 11) rfl)
theorem lk_X4_22 : Cond.methodLink RX4 22 yX6_latest ∈ wsL_law := wb_12 _ (List.mem_of_getElem? (i := 12) rfl)
theorem lk_X4_36 : Cond.methodLink RX4 36 yX0_cellAt ∈ wsL_law := wb_12 _ (List.mem_of_getElem? (i := 13) rfl)
theorem lk_X4_40 : Cond.methodLink RX4 40 yX4_readPair ∈ wsL_law := wb_12 _ (List.mem_of_getElem? (i := 14) rfl)
theorem wI_X4_readPair : Cond.instanceMethod yX4_readPair ∈ wsL_law := wb_12 _ (List.mem_of_getElem? (i := 15) rfl)
theorem wV_X4_X4_readPair : Cond.selects RX4 yX4_readPair yX4_readPair ∈ wsL_law := wb_12 _ (List.mem_of_getElem? (i := 16) rfl)
theorem wC_X4_readPair : Cond.code yX4_readPair cX4_readPair 6 none ∈ wsL_law := wb_12 _ (List.mem_of_getElem? (i := 17) rfl)
theorem lk_X4_55 : Cond.methodLink RX4 55 yX0_readRow ∈ wsL_law := wb_12 _ (List.mem_of_getElem? (i := 18) rfl)
theorem lk_X4_51 : Cond.methodLink RX4 51 yX0_add ∈ wsL_law := wb_12 _ (List.mem_of_getElem? (i := 19) rfl)
theorem wV_X5_X5_makeInto : Cond.selects RX5 ⟨"BagViews$View", "makeInto", "(LBagViews$Bag;)Z"⟩ yX5_makeInto ∈ wsL_law := wb_12 _ (List.mem_of_getElem? (i := 20) rfl)
theorem wI_X5_makeInto : Cond.instanceMethod yX5_makeInto ∈ wsL_law := wb_12 _ (List.mem_of_getElem? (i := 21) rfl)
theorem wN_X5 : Cond.initialized RX5 ∈ wsL_law := wb_12 _ (List.mem_of_getElem? (i := 22) rfl)
theorem wC_X5_makeInto : Cond.code yX5_makeInto cX5_makeInto 5 (some .boolean) ∈ wsL_law := wb_12 _ (List.mem_of_getElem? (i := 23) rfl)
theorem lk_X5_7 : Cond.fieldLink RX5 7 "BagViews$Once" "left" "LBagViews$Relation;" ∈ wsL_law := wb_13 _ (List.mem_of_getElem? (i := 0) rfl)
theorem wz_20 : Cond.sameField "BagViews$Once" "BagViews$View" "left" "LBagViews$Relation;" ∈ wsL_law := wb_13 _ (List.mem_of_getElem? (i := 1) rfl)
theorem lk_X5_25 : Cond.fieldLink RX5 25 "BagViews$Once" "row" "[I" ∈ wsL_law := wb_13 _ (List.mem_of_getElem? (i := 2) rfl)
theorem wz_21 : Cond.sameField "BagViews$Once" "BagViews$View" "row" "[I" ∈ wsL_law := wb_13 _ (List.mem_of_getElem? (i := 3) rfl)
theorem lk_X5_13 : Cond.methodLink RX5 13 yX6_latest ∈ wsL_law := wb_13 _ (List.mem_of_getElem? (i := 4) rfl)
theorem lk_X5_29 : Cond.methodLink RX5 29 yX0_readRow ∈ wsL_law := wb_13 _ (List.mem_of_getElem? (i := 5) rfl)
theorem lk_X5_33 : Cond.methodLink RX5 33 yX0_add ∈ wsL_law := wb_13 _ (List.mem_of_getElem? (i := 6) rfl)
theorem wV_X7_X7_makeInto : Cond.selects RX7 ⟨"BagViews$View", "makeInto", "(LBagViews$Bag;)Z"⟩ yX7_makeInto ∈ wsL_law := wb_13 _ (List.mem_of_getElem? (i := 7) rfl)
theorem wI_X7_makeInto : Cond.instanceMethod yX7_makeInto ∈ wsL_law := wb_13 _ (List.mem_of_getElem? (i := 8) rfl)
theorem wC_X7_makeInto : Cond.code yX7_makeInto cX7_makeInto 6 (some .boolean) ∈ wsL_law := wb_13 _ (List.mem_of_getElem? (i := 9) rfl)
theorem lk_X7_25 : Cond.fieldLink RX7 25 "BagViews$Selection" "left" "LBagViews$Relation;" ∈ wsL_law := wb_13 _ (List.mem_of_getElem? (i := 10) rfl)
theorem wz_22 : Cond.sameField "BagViews$Selection" "BagViews$View" "left" "LBagViews$Relation;" ∈ wsL_law := wb_13 _ (List.mem_of_getElem? (i := 11) rfl)
theorem lk_X7_48 : Cond.fieldLink RX7 48 "BagViews$Selection" "row" "[I" ∈ wsL_law := wb_13 _ (List.mem_of_getElem? (i := 12) rfl)
theorem wz_23 : Cond.sameField "BagViews$Selection" "BagViews$View" "row" "[I" ∈ wsL_law := wb_13 _ (List.mem_of_getElem? (i := 13) rfl)
theorem lk_X7_29 : Cond.methodLink RX7 29 yX6_latest ∈ wsL_law := wb_13 _ (List.mem_of_getElem? (i := 14) rfl)
theorem lk_X7_40 : Cond.methodLink RX7 40 yX0_cellAt ∈ wsL_law := wb_13 _ (List.mem_of_getElem? (i := 15) rfl)
theorem lk_X7_44 : Cond.methodLink RX7 44 yX7_holds ∈ wsL_law := wb_13 _ (List.mem_of_getElem? (i := 16) rfl)
theorem wI_X7_holds : Cond.instanceMethod yX7_holds ∈ wsL_law := wb_13 _ (List.mem_of_getElem? (i := 17) rfl)
theorem wV_X7_X7_holds : Cond.selects RX7 yX7_holds yX7_holds ∈ wsL_law := wb_13 _ (List.mem_of_getElem? (i := 18) rfl)
theorem wC_X7_holds : Cond.code yX7_holds cX7_holds 3 (some .boolean) ∈ wsL_law := wb_13 _ (List.mem_of_getElem? (i := 19) rfl)
theorem lk_X7_52 : Cond.methodLink RX7 52 yX0_readRow ∈ wsL_law := wb_13 _ (List.mem_of_getElem? (i := 20) rfl)
theorem lk_X7_59 : Cond.methodLink RX7 59 yX0_add ∈ wsL_law := wb_13 _ (List.mem_of_getElem? (i := 21) rfl)
theorem wV_X8_X8_makeInto : Cond.selects RX8 ⟨"BagViews$View", "makeInto", "(LBagViews$Bag;)Z"⟩ yX8_makeInto ∈ wsL_law := wb_13 _ (List.mem_of_getElem? (i := 22) rfl)
theorem wI_X8_makeInto : Cond.instanceMethod yX8_makeInto ∈ wsL_law := wb_13 _ (List.mem_of_getElem? (i := 23) rfl)
theorem wN_X8 : Cond.initialized RX8 ∈ wsL_law := wb_14 _ (List.mem_of_getElem? (i := 0) rfl)
theorem wC_X8_makeInto : Cond.code yX8_makeInto cX8_makeInto 5 (some .boolean) ∈ wsL_law := wb_14 _ (List.mem_of_getElem? (i := 1) rfl)
theorem lk_X8_7 : Cond.fieldLink RX8 7 "BagViews$Union" "left" "LBagViews$Relation;" ∈ wsL_law := wb_14 _ (List.mem_of_getElem? (i := 2) rfl)
theorem wz_24 : Cond.sameField "BagViews$Union" "BagViews$View" "left" "LBagViews$Relation;" ∈ wsL_law := wb_14 _ (List.mem_of_getElem? (i := 3) rfl)
theorem lk_X8_25 : Cond.fieldLink RX8 25 "BagViews$Union" "right" "LBagViews$Relation;" ∈ wsL_law := wb_14 _ (List.mem_of_getElem? (i := 4) rfl)
theorem wz_25 : Cond.sameField "BagViews$Union" "BagViews$View" "right" "LBagViews$Relation;" ∈ wsL_law := wb_14 _ (List.mem_of_getElem? (i := 5) rfl)
theorem lk_X8_32 : Cond.fieldLink RX8 32 "BagViews$Union" "row" "[I" ∈ wsL_law := wb_14 _ (List.mem_of_getElem? (i := 6) rfl)
theorem wz_26 : Cond.sameField "BagViews$Union" "BagViews$View" "row" "[I" ∈ wsL_law := wb_14 _ (List.mem_of_getElem? (i := 7) rfl)
theorem lk_X8_13 : Cond.methodLink RX8 13 yX6_latest ∈ wsL_law := wb_14 _ (List.mem_of_getElem? (i := 8) rfl)
theorem lk_X8_19 : Cond.methodLink RX8 19 yX0_copyFrom ∈ wsL_law := wb_14 _ (List.mem_of_getElem? (i := 9) rfl)
theorem wI_X0_copyFrom : Cond.instanceMethod yX0_copyFrom ∈ wsL_law := wb_14 _ (List.mem_of_getElem? (i := 10) rfl)
theorem wV_X0_X0_copyFrom : Cond.selects RX0 yX0_copyFrom yX0_copyFrom ∈ wsL_law := wb_14 _ (List.mem_of_getElem? (i := 11) rfl)
theorem wC_X0_copyFrom : Cond.code yX0_copyFrom cX0_copyFrom 2 none ∈ wsL_law := wb_14 _ (List.mem_of_getElem? (i := 12) rfl)
theorem lk_X8_36 : Cond.methodLink RX8 36 yX0_readRow ∈ wsL_law := wb_14 _ (List.mem_of_getElem? (i := 13) rfl)
theorem lk_X8_43 : Cond.methodLink RX8 43 yX0_add ∈ wsL_law := wb_14 _ (List.mem_of_getElem? (i := 14) rfl)
theorem lk_L_96 : Cond.methodLink RL 96 yX11_select ∈ wsL_law := wb_14 _ (List.mem_of_getElem? (i := 15) rfl)
theorem wI_X11_select : Cond.instanceMethod yX11_select ∈ wsL_law := wb_14 _ (List.mem_of_getElem? (i := 16) rfl)
theorem wV_X11_X11_select : Cond.selects RX11 yX11_select yX11_select ∈ wsL_law := wb_14 _ (List.mem_of_getElem? (i := 17) rfl)
theorem wC_X11_select : Cond.code yX11_select cX11_select 8 none ∈ wsL_law := wb_14 _ (List.mem_of_getElem? (i := 18) rfl)
theorem lk_X11_135 : Cond.methodLink RX11 135 yX11_isColumn ∈ wsL_law := wb_14 _ (List.mem_of_getElem? (i := 19) rfl)
theorem wI_X11_isColumn : Cond.instanceMethod yX11_isColumn ∈ wsL_law := wb_14 _ (List.mem_of_getElem? (i := 20) rfl)
theorem wV_X11_X11_isColumn : Cond.selects RX11 yX11_isColumn yX11_isColumn ∈ wsL_law := wb_14 _ (List.mem_of_getElem? (i := 21) rfl)
theorem wC_X11_isColumn : Cond.code yX11_isColumn cX11_isColumn 3 (some .boolean) ∈ wsL_law := wb_14 _ (List.mem_of_getElem? (i := 22) rfl)
theorem lk_X11_113 : Cond.methodLink RX11 113 yX11_is ∈ wsL_law := wb_14 _ (List.mem_of_getElem? (i := 23) rfl)
theorem wI_X11_is : Cond.instanceMethod yX11_is ∈ wsL_law := wb_15 _ (List.mem_of_getElem? (i := 0) rfl)
theorem wV_X11_X11_is : Cond.selects RX11 yX11_is yX11_is ∈ wsL_law := wb_15 _ (List.mem_of_getElem? (i := 1) rfl)
theorem wC_X11_is : Cond.code yX11_is cX11_is 2 (some .boolean) ∈ wsL_law := wb_15 _ (List.mem_of_getElem? (i := 2) rfl)
theorem lk_X11_138 : Cond.methodLink RX11 138 yX11_view ∈ wsL_law := wb_15 _ (List.mem_of_getElem? (i := 3) rfl)
theorem wI_X11_view : Cond.instanceMethod yX11_view ∈ wsL_law := wb_15 _ (List.mem_of_getElem? (i := 4) rfl)
theorem wV_X11_X11_view : Cond.selects RX11 yX11_view yX11_view ∈ wsL_law := wb_15 _ (List.mem_of_getElem? (i := 5) rfl)
theorem wC_X11_view : Cond.code yX11_view cX11_view 6 none ∈ wsL_law := wb_15 _ (List.mem_of_getElem? (i := 6) rfl)
theorem lk_X11_68 : Cond.fieldLink RX11 68 "BagViewsModel" "fits" "Z" ∈ wsL_law := wb_15 _ (List.mem_of_getElem? (i := 7) rfl)
theorem lk_X11_123 : Cond.methodLink RX11 123 yX11_begin ∈ wsL_law := wb_15 _ (List.mem_of_getElem? (i := 8) rfl)
theorem wI_X11_begin : Cond.instanceMethod yX11_begin ∈ wsL_law := wb_15 _ (List.mem_of_getElem? (i := 9) rfl)
theorem wV_X11_X11_begin : Cond.selects RX11 yX11_begin yX11_begin ∈ wsL_law := wb_15 _ (List.mem_of_getElem? (i := 10) rfl)
theorem wC_X11_begin : Cond.code yX11_begin cX11_begin 4 none ∈ wsL_law := wb_15 _ (List.mem_of_getElem? (i := 11) rfl)
theorem lk_X11_126 : Cond.methodLink RX11 126 yX11_make ∈ wsL_law := wb_15 _ (List.mem_of_getElem? (i := 12) rfl)
theorem wI_X11_make : Cond.instanceMethod yX11_make ∈ wsL_law := wb_15 _ (List.mem_of_getElem? (i := 13) rfl)
theorem wV_X11_X11_make : Cond.selects RX11 yX11_make yX11_make ∈ wsL_law := wb_15 _ (List.mem_of_getElem? (i := 14) rfl)
theorem wC_X11_make : Cond.code yX11_make cX11_make 4 none ∈ wsL_law := wb_15 _ (List.mem_of_getElem? (i := 15) rfl)
theorem lk_X11_78 : Cond.methodLink RX11 78 yX11_makeJoin ∈ wsL_law := wb_15 _ (List.mem_of_getElem? (i := 16) rfl)
theorem wI_X11_makeJoin : Cond.instanceMethod yX11_makeJoin ∈ wsL_law := wb_15 _ (List.mem_of_getElem? (i := 17) rfl)
theorem wV_X11_X11_makeJoin : Cond.selects RX11 yX11_makeJoin yX11_makeJoin ∈ wsL_law := wb_15 _ (List.mem_of_getElem? (i := 18) rfl)
theorem wC_X11_makeJoin : Cond.code yX11_makeJoin cX11_makeJoin 7 none ∈ wsL_law := wb_15 _ (List.mem_of_getElem? (i := 19) rfl)
theorem lk_X11_74 : Cond.methodLink RX11 74 yX11_cellOf ∈ wsL_law := wb_15 _ (List.mem_of_getElem? (i := 20) rfl)
theorem wI_X11_cellOf : Cond.instanceMethod yX11_cellOf ∈ wsL_law := wb_15 _ (List.mem_of_getElem? (i := 21) rfl)
theorem wV_X11_X11_cellOf : Cond.selects RX11 yX11_cellOf yX11_cellOf ∈ wsL_law := wb_15 _ (List.mem_of_getElem? (i := 22) rfl)
theorem wC_X11_cellOf : Cond.code yX11_cellOf cX11_cellOf 4 (some .int) ∈ wsL_law := wb_15 _ (List.mem_of_getElem? (i := 23) rfl)
theorem lk_X11_93 : Cond.methodLink RX11 93 yX11_timesOf ∈ wsL_law := wb_16 _ (List.mem_of_getElem? (i := 0) rfl)
theorem wI_X11_timesOf : Cond.instanceMethod yX11_timesOf ∈ wsL_law := wb_16 _ (List.mem_of_getElem? (i := 1) rfl)
theorem wV_X11_X11_timesOf : Cond.selects RX11 yX11_timesOf yX11_timesOf ∈ wsL_law := wb_16 _ (List.mem_of_getElem? (i := 2) rfl)
theorem wC_X11_timesOf : Cond.code yX11_timesOf cX11_timesOf 3 (some .long) ∈ wsL_law := wb_16 _ (List.mem_of_getElem? (i := 3) rfl)
theorem lk_X11_97 : Cond.methodLink RX11 97 yX11_add ∈ wsL_law := wb_16 _ (List.mem_of_getElem? (i := 4) rfl)
theorem wI_X11_add : Cond.instanceMethod yX11_add ∈ wsL_law := wb_16 _ (List.mem_of_getElem? (i := 5) rfl)
theorem wV_X11_X11_add : Cond.selects RX11 yX11_add yX11_add ∈ wsL_law := wb_16 _ (List.mem_of_getElem? (i := 6) rfl)
theorem wC_X11_add : Cond.code yX11_add cX11_add 8 none ∈ wsL_law := wb_16 _ (List.mem_of_getElem? (i := 7) rfl)
theorem lk_X11_72 : Cond.constantLong RX11 72 (1000000000) ∈ wsL_law := wb_16 _ (List.mem_of_getElem? (i := 8) rfl)
theorem lk_X11_60 : Cond.methodLink RX11 60 yX11_place ∈ wsL_law := wb_16 _ (List.mem_of_getElem? (i := 9) rfl)
theorem wI_X11_place : Cond.instanceMethod yX11_place ∈ wsL_law := wb_16 _ (List.mem_of_getElem? (i := 10) rfl)
theorem wV_X11_X11_place : Cond.selects RX11 yX11_place yX11_place ∈ wsL_law := wb_16 _ (List.mem_of_getElem? (i := 11) rfl)
theorem wC_X11_place : Cond.code yX11_place cX11_place 8 (some .int) ∈ wsL_law := wb_16 _ (List.mem_of_getElem? (i := 12) rfl)
theorem lk_X11_64 : Cond.methodLink RX11 64 yX11_isAt ∈ wsL_law := wb_16 _ (List.mem_of_getElem? (i := 13) rfl)
theorem wI_X11_isAt : Cond.instanceMethod yX11_isAt ∈ wsL_law := wb_16 _ (List.mem_of_getElem? (i := 14) rfl)
theorem wV_X11_X11_isAt : Cond.selects RX11 yX11_isAt yX11_isAt ∈ wsL_law := wb_16 _ (List.mem_of_getElem? (i := 15) rfl)
theorem wC_X11_isAt : Cond.code yX11_isAt cX11_isAt 5 (some .boolean) ∈ wsL_law := wb_16 _ (List.mem_of_getElem? (i := 16) rfl)
theorem lk_X11_82 : Cond.methodLink RX11 82 yX11_makeGroups ∈ wsL_law := wb_16 _ (List.mem_of_getElem? (i := 17) rfl)
theorem wI_X11_makeGroups : Cond.instanceMethod yX11_makeGroups ∈ wsL_law := wb_16 _ (List.mem_of_getElem? (i := 18) rfl)
theorem wV_X11_X11_makeGroups : Cond.selects RX11 yX11_makeGroups yX11_makeGroups ∈ wsL_law := wb_16 _ (List.mem_of_getElem? (i := 19) rfl)
theorem wC_X11_makeGroups : Cond.code yX11_makeGroups cX11_makeGroups 12 none ∈ wsL_law := wb_16 _ (List.mem_of_getElem? (i := 20) rfl)
theorem lk_X11_105 : Cond.methodLink RX11 105 yX11_isSameGroup ∈ wsL_law := wb_16 _ (List.mem_of_getElem? (i := 21) rfl)
theorem wI_X11_isSameGroup : Cond.instanceMethod yX11_isSameGroup ∈ wsL_law := wb_16 _ (List.mem_of_getElem? (i := 22) rfl)
theorem wV_X11_X11_isSameGroup : Cond.selects RX11 yX11_isSameGroup yX11_isSameGroup ∈ wsL_law := wb_16 _ (List.mem_of_getElem? (i := 23) rfl)
theorem wC_X11_isSameGroup : Cond.code yX11_isSameGroup cX11_isSameGroup 5 (some .boolean) ∈ wsL_law := wb_17 _ (List.mem_of_getElem? (i := 0) rfl)
theorem lk_X11_85 : Cond.methodLink RX11 85 yX11_makeRow ∈ wsL_law := wb_17 _ (List.mem_of_getElem? (i := 1) rfl)
theorem wI_X11_makeRow : Cond.instanceMethod yX11_makeRow ∈ wsL_law := wb_17 _ (List.mem_of_getElem? (i := 2) rfl)
theorem wV_X11_X11_makeRow : Cond.selects RX11 yX11_makeRow yX11_makeRow ∈ wsL_law := wb_17 _ (List.mem_of_getElem? (i := 3) rfl)
theorem wC_X11_makeRow : Cond.code yX11_makeRow cX11_makeRow 8 none ∈ wsL_law := wb_17 _ (List.mem_of_getElem? (i := 4) rfl)
theorem lk_X11_89 : Cond.methodLink RX11 89 yX11_take ∈ wsL_law := wb_17 _ (List.mem_of_getElem? (i := 5) rfl)
theorem wI_X11_take : Cond.instanceMethod yX11_take ∈ wsL_law := wb_17 _ (List.mem_of_getElem? (i := 6) rfl)
theorem wV_X11_X11_take : Cond.selects RX11 yX11_take yX11_take ∈ wsL_law := wb_17 _ (List.mem_of_getElem? (i := 7) rfl)
theorem wC_X11_take : Cond.code yX11_take cX11_take 4 none ∈ wsL_law := wb_17 _ (List.mem_of_getElem? (i := 8) rfl)
theorem lk_X11_101 : Cond.methodLink RX11 101 yX11_compares ∈ wsL_law := wb_17 _ (List.mem_of_getElem? (i := 9) rfl)
theorem wS_X11_compares : Cond.static yX11_compares ∈ wsL_law := wb_17 _ (List.mem_of_getElem? (i := 10) rfl)
theorem wC_X11_compares : Cond.code yX11_compares cX11_compares 3 (some .boolean) ∈ wsL_law := wb_17 _ (List.mem_of_getElem? (i := 11) rfl)
theorem lk_X11_129 : Cond.methodLink RX11 129 yX11_become ∈ wsL_law := wb_17 _ (List.mem_of_getElem? (i := 12) rfl)
theorem wI_X11_become : Cond.instanceMethod yX11_become ∈ wsL_law := wb_17 _ (List.mem_of_getElem? (i := 13) rfl)
theorem wV_X11_X11_become : Cond.selects RX11 yX11_become yX11_become ∈ wsL_law := wb_17 _ (List.mem_of_getElem? (i := 14) rfl)
theorem wC_X11_become : Cond.code yX11_become cX11_become 4 none ∈ wsL_law := wb_17 _ (List.mem_of_getElem? (i := 15) rfl)
theorem lk_X11_132 : Cond.methodLink RX11 132 yX11_leave ∈ wsL_law := wb_17 _ (List.mem_of_getElem? (i := 16) rfl)
theorem wI_X11_leave : Cond.instanceMethod yX11_leave ∈ wsL_law := wb_17 _ (List.mem_of_getElem? (i := 17) rfl)
theorem wV_X11_X11_leave : Cond.selects RX11 yX11_leave yX11_leave ∈ wsL_law := wb_17 _ (List.mem_of_getElem? (i := 18) rfl)
theorem wC_X11_leave : Cond.code yX11_leave cX11_leave 4 none ∈ wsL_law := wb_17 _ (List.mem_of_getElem? (i := 19) rfl)
theorem lk_L_97 : Cond.methodLink RL 97 yL_columns ∈ wsL_law := wb_17 _ (List.mem_of_getElem? (i := 20) rfl)
theorem wS_L_columns : Cond.static yL_columns ∈ wsL_law := wb_17 _ (List.mem_of_getElem? (i := 21) rfl)
theorem wH_L_columns : Cond.codeWith yL_columns cL_columns 8 (some .int) [(0, 13, 16, 13), (0, 13, 20, 15), (0, 13, 24, 17), (0, 13, 28, 23)] ∈ wsL_law := wb_17 _ (List.mem_of_getElem? (i := 22) rfl)
theorem lk_L_25 : Cond.methodLink RL 25 yX10_columns ∈ wsL_law := wb_17 _ (List.mem_of_getElem? (i := 23) rfl)
theorem wI_X10_columns : Cond.instanceMethod yX10_columns ∈ wsL_law := wb_18 _ (List.mem_of_getElem? (i := 0) rfl)
theorem wV_X10_X10_columns : Cond.selects RX10 yX10_columns yX10_columns ∈ wsL_law := wb_18 _ (List.mem_of_getElem? (i := 1) rfl)
theorem wC_X10_columns : Cond.code yX10_columns cX10_columns 10 none ∈ wsL_law := wb_18 _ (List.mem_of_getElem? (i := 2) rfl)
theorem lk_X10_77 : Cond.classLink RX10 77 RX1 ∈ wsL_law := wb_18 _ (List.mem_of_getElem? (i := 3) rfl)
theorem wA_X1 : Cond.instantiable RX1 5 ∈ wsL_law := wb_18 _ (List.mem_of_getElem? (i := 4) rfl)
theorem lk_X10_70 : Cond.methodLink RX10 70 yX10_needColumnOrNone ∈ wsL_law := wb_18 _ (List.mem_of_getElem? (i := 5) rfl)
theorem wS_X10_needColumnOrNone : Cond.static yX10_needColumnOrNone ∈ wsL_law := wb_18 _ (List.mem_of_getElem? (i := 6) rfl)
theorem wC_X10_needColumnOrNone : Cond.code yX10_needColumnOrNone cX10_needColumnOrNone 2 none ∈ wsL_law := wb_18 _ (List.mem_of_getElem? (i := 7) rfl)
theorem lk_X10_73 : Cond.methodLink RX10 73 yX10_countChosen ∈ wsL_law := wb_18 _ (List.mem_of_getElem? (i := 8) rfl)
theorem wS_X10_countChosen : Cond.static yX10_countChosen ∈ wsL_law := wb_18 _ (List.mem_of_getElem? (i := 9) rfl)
theorem wC_X10_countChosen : Cond.code yX10_countChosen cX10_countChosen 3 (some .int) ∈ wsL_law := wb_18 _ (List.mem_of_getElem? (i := 10) rfl)
theorem lk_X10_79 : Cond.methodLink RX10 79 yX1_init ∈ wsL_law := wb_18 _ (List.mem_of_getElem? (i := 11) rfl)
theorem wI_X1_init : Cond.instanceMethod yX1_init ∈ wsL_law := wb_18 _ (List.mem_of_getElem? (i := 12) rfl)
theorem wC_X1_init : Cond.code yX1_init cX1_init 3 none ∈ wsL_law := wb_18 _ (List.mem_of_getElem? (i := 13) rfl)
theorem lk_X1_3 : Cond.methodLink RX1 3 yX9_init ∈ wsL_law := wb_18 _ (List.mem_of_getElem? (i := 14) rfl)
theorem lk_L_100 : Cond.methodLink RL 100 yX11_columns ∈ wsL_law := wb_18 _ (List.mem_of_getElem? (i := 15) rfl)
theorem wI_X11_columns : Cond.instanceMethod yX11_columns ∈ wsL_law := wb_18 _ (List.mem_of_getElem? (i := 16) rfl)
theorem wV_X11_X11_columns : Cond.selects RX11 yX11_columns yX11_columns ∈ wsL_law := wb_18 _ (List.mem_of_getElem? (i := 17) rfl)
theorem wC_X11_columns : Cond.code yX11_columns cX11_columns 12 none ∈ wsL_law := wb_18 _ (List.mem_of_getElem? (i := 18) rfl)
theorem lk_L_101 : Cond.methodLink RL 101 yL_join ∈ wsL_law := wb_18 _ (List.mem_of_getElem? (i := 19) rfl)
theorem wS_L_join : Cond.static yL_join ∈ wsL_law := wb_18 _ (List.mem_of_getElem? (i := 20) rfl)
theorem wH_L_join : Cond.codeWith yL_join cL_join 7 (some .int) [(0, 11, 14, 13), (0, 11, 18, 15), (0, 11, 22, 17), (0, 11, 26, 23)] ∈ wsL_law := wb_18 _ (List.mem_of_getElem? (i := 21) rfl)
theorem lk_L_29 : Cond.methodLink RL 29 yX10_join ∈ wsL_law := wb_18 _ (List.mem_of_getElem? (i := 22) rfl)
theorem wI_X10_join : Cond.instanceMethod yX10_join ∈ wsL_law := wb_18 _ (List.mem_of_getElem? (i := 23) rfl)
theorem wV_X10_X10_join : Cond.selects RX10 yX10_join yX10_join ∈ wsL_law := wb_19 _ (List.mem_of_getElem? (i := 0) rfl)
theorem wC_X10_join : Cond.code yX10_join cX10_join 10 none ∈ wsL_law := wb_19 _ (List.mem_of_getElem? (i := 1) rfl)
theorem lk_X10_84 : Cond.classLink RX10 84 RX4 ∈ wsL_law := wb_19 _ (List.mem_of_getElem? (i := 2) rfl)
theorem wA_X4 : Cond.instantiable RX4 6 ∈ wsL_law := wb_19 _ (List.mem_of_getElem? (i := 3) rfl)
theorem lk_X10_86 : Cond.methodLink RX10 86 yX4_init ∈ wsL_law := wb_19 _ (List.mem_of_getElem? (i := 4) rfl)
theorem wI_X4_init : Cond.instanceMethod yX4_init ∈ wsL_law := wb_19 _ (List.mem_of_getElem? (i := 5) rfl)
theorem wC_X4_init : Cond.code yX4_init cX4_init 5 none ∈ wsL_law := wb_19 _ (List.mem_of_getElem? (i := 6) rfl)
theorem lk_X4_3 : Cond.methodLink RX4 3 yX9_init ∈ wsL_law := wb_19 _ (List.mem_of_getElem? (i := 7) rfl)
theorem lk_L_104 : Cond.methodLink RL 104 yX11_join ∈ wsL_law := wb_19 _ (List.mem_of_getElem? (i := 8) rfl)
theorem wI_X11_join : Cond.instanceMethod yX11_join ∈ wsL_law := wb_19 _ (List.mem_of_getElem? (i := 9) rfl)
theorem wV_X11_X11_join : Cond.selects RX11 yX11_join yX11_join ∈ wsL_law := wb_19 _ (List.mem_of_getElem? (i := 10) rfl)
theorem wC_X11_join : Cond.code yX11_join cX11_join 7 none ∈ wsL_law := wb_19 _ (List.mem_of_getElem? (i := 11) rfl)
theorem lk_L_105 : Cond.methodLink RL 105 yL_both ∈ wsL_law := wb_19 _ (List.mem_of_getElem? (i := 12) rfl)
theorem wS_L_both : Cond.static yL_both ∈ wsL_law := wb_19 _ (List.mem_of_getElem? (i := 13) rfl)
theorem wH_L_both : Cond.codeWith yL_both cL_both 6 (some .int) [(0, 9, 12, 13), (0, 9, 16, 15), (0, 9, 20, 17), (0, 9, 24, 23)] ∈ wsL_law := wb_19 _ (List.mem_of_getElem? (i := 14) rfl)
theorem lk_L_33 : Cond.methodLink RL 33 yX10_both ∈ wsL_law := wb_19 _ (List.mem_of_getElem? (i := 15) rfl)
theorem wI_X10_both : Cond.instanceMethod yX10_both ∈ wsL_law := wb_19 _ (List.mem_of_getElem? (i := 16) rfl)
theorem wV_X10_X10_both : Cond.selects RX10 yX10_both yX10_both ∈ wsL_law := wb_19 _ (List.mem_of_getElem? (i := 17) rfl)
theorem wC_X10_both : Cond.code yX10_both cX10_both 9 none ∈ wsL_law := wb_19 _ (List.mem_of_getElem? (i := 18) rfl)
theorem lk_X10_91 : Cond.classLink RX10 91 RX2 ∈ wsL_law := wb_19 _ (List.mem_of_getElem? (i := 19) rfl)
theorem wA_X2 : Cond.instantiable RX2 4 ∈ wsL_law := wb_19 _ (List.mem_of_getElem? (i := 20) rfl)
theorem lk_X10_96 : Cond.classLink RX10 96 RX8 ∈ wsL_law := wb_19 _ (List.mem_of_getElem? (i := 21) rfl)
theorem wA_X8 : Cond.instantiable RX8 4 ∈ wsL_law := wb_19 _ (List.mem_of_getElem? (i := 22) rfl)
theorem lk_X10_93 : Cond.methodLink RX10 93 yX2_init ∈ wsL_law := wb_19 _ (List.mem_of_getElem? (i := 23) rfl)
theorem wI_X2_init : Cond.instanceMethod yX2_init ∈ wsL_law := wb_20 _ (List.mem_of_getElem? (i := 0) rfl)
theorem wC_X2_init : Cond.code yX2_init cX2_init 3 none ∈ wsL_law := wb_20 _ (List.mem_of_getElem? (i := 1) rfl)
theorem lk_X2_1 : Cond.methodLink RX2 1 yX9_init ∈ wsL_law := wb_20 _ (List.mem_of_getElem? (i := 2) rfl)
theorem lk_X10_98 : Cond.methodLink RX10 98 yX8_init ∈ wsL_law := wb_20 _ (List.mem_of_getElem? (i := 3) rfl)
theorem wI_X8_init : Cond.instanceMethod yX8_init ∈ wsL_law := wb_20 _ (List.mem_of_getElem? (i := 4) rfl)
theorem wC_X8_init : Cond.code yX8_init cX8_init 3 none ∈ wsL_law := wb_20 _ (List.mem_of_getElem? (i := 5) rfl)
theorem lk_X8_1 : Cond.methodLink RX8 1 yX9_init ∈ wsL_law := wb_20 _ (List.mem_of_getElem? (i := 6) rfl)
theorem lk_L_108 : Cond.methodLink RL 108 yX11_both ∈ wsL_law := wb_20 _ (List.mem_of_getElem? (i := 7) rfl)
theorem wI_X11_both : Cond.instanceMethod yX11_both ∈ wsL_law := wb_20 _ (List.mem_of_getElem? (i := 8) rfl)
theorem wV_X11_X11_both : Cond.selects RX11 yX11_both yX11_both ∈ wsL_law := wb_20 _ (List.mem_of_getElem? (i := 9) rfl)
theorem wC_X11_both : Cond.code yX11_both cX11_both 6 none ∈ wsL_law := wb_20 _ (List.mem_of_getElem? (i := 10) rfl)
theorem lk_L_109 : Cond.methodLink RL 109 yL_once ∈ wsL_law := wb_20 _ (List.mem_of_getElem? (i := 11) rfl)
theorem wS_L_once : Cond.static yL_once ∈ wsL_law := wb_20 _ (List.mem_of_getElem? (i := 12) rfl)
theorem wH_L_once : Cond.codeWith yL_once cL_once 4 (some .int) [(0, 6, 9, 13), (0, 6, 12, 15), (0, 6, 15, 23)] ∈ wsL_law := wb_20 _ (List.mem_of_getElem? (i := 13) rfl)
theorem lk_L_37 : Cond.methodLink RL 37 yX10_once ∈ wsL_law := wb_20 _ (List.mem_of_getElem? (i := 14) rfl)
theorem wI_X10_once : Cond.instanceMethod yX10_once ∈ wsL_law := wb_20 _ (List.mem_of_getElem? (i := 15) rfl)
theorem wV_X10_X10_once : Cond.selects RX10 yX10_once yX10_once ∈ wsL_law := wb_20 _ (List.mem_of_getElem? (i := 16) rfl)
theorem wC_X10_once : Cond.code yX10_once cX10_once 5 none ∈ wsL_law := wb_20 _ (List.mem_of_getElem? (i := 17) rfl)
theorem lk_X10_99 : Cond.classLink RX10 99 RX5 ∈ wsL_law := wb_20 _ (List.mem_of_getElem? (i := 18) rfl)
theorem wA_X5 : Cond.instantiable RX5 4 ∈ wsL_law := wb_20 _ (List.mem_of_getElem? (i := 19) rfl)
theorem lk_X10_101 : Cond.methodLink RX10 101 yX5_init ∈ wsL_law := wb_20 _ (List.mem_of_getElem? (i := 20) rfl)
theorem wI_X5_init : Cond.instanceMethod yX5_init ∈ wsL_law := wb_20 _ (List.mem_of_getElem? (i := 21) rfl)
theorem wC_X5_init : Cond.code yX5_init cX5_init 2 none ∈ wsL_law := wb_20 _ (List.mem_of_getElem? (i := 22) rfl)
theorem lk_X5_1 : Cond.methodLink RX5 1 yX9_init ∈ wsL_law := wb_20 _ (List.mem_of_getElem? (i := 23) rfl)
theorem lk_L_111 : Cond.methodLink RL 111 yX11_once ∈ wsL_law := wb_21 _ (List.mem_of_getElem? (i := 0) rfl)
theorem wI_X11_once : Cond.instanceMethod yX11_once ∈ wsL_law := wb_21 _ (List.mem_of_getElem? (i := 1) rfl)
theorem wV_X11_X11_once : Cond.selects RX11 yX11_once yX11_once ∈ wsL_law := wb_21 _ (List.mem_of_getElem? (i := 2) rfl)
theorem wC_X11_once : Cond.code yX11_once cX11_once 4 none ∈ wsL_law := wb_21 _ (List.mem_of_getElem? (i := 3) rfl)
theorem lk_L_112 : Cond.methodLink RL 112 yL_group ∈ wsL_law := wb_21 _ (List.mem_of_getElem? (i := 4) rfl)
theorem wS_L_group : Cond.static yL_group ∈ wsL_law := wb_21 _ (List.mem_of_getElem? (i := 5) rfl)
theorem wH_L_group : Cond.codeWith yL_group cL_group 7 (some .int) [(0, 11, 14, 13), (0, 11, 18, 15), (0, 11, 22, 17), (0, 11, 26, 23)] ∈ wsL_law := wb_21 _ (List.mem_of_getElem? (i := 6) rfl)
theorem lk_L_40 : Cond.methodLink RL 40 yX10_group ∈ wsL_law := wb_21 _ (List.mem_of_getElem? (i := 7) rfl)
theorem wI_X10_group : Cond.instanceMethod yX10_group ∈ wsL_law := wb_21 _ (List.mem_of_getElem? (i := 8) rfl)
theorem wV_X10_X10_group : Cond.selects RX10 yX10_group yX10_group ∈ wsL_law := wb_21 _ (List.mem_of_getElem? (i := 9) rfl)
theorem wC_X10_group : Cond.code yX10_group cX10_group 8 none ∈ wsL_law := wb_21 _ (List.mem_of_getElem? (i := 10) rfl)
theorem lk_X10_105 : Cond.classLink RX10 105 RX3 ∈ wsL_law := wb_21 _ (List.mem_of_getElem? (i := 11) rfl)
theorem wA_X3 : Cond.instantiable RX3 7 ∈ wsL_law := wb_21 _ (List.mem_of_getElem? (i := 12) rfl)
theorem lk_X10_107 : Cond.methodLink RX10 107 yX3_init ∈ wsL_law := wb_21 _ (List.mem_of_getElem? (i := 13) rfl)
theorem wI_X3_init : Cond.instanceMethod yX3_init ∈ wsL_law := wb_21 _ (List.mem_of_getElem? (i := 14) rfl)
theorem wC_X3_init : Cond.code yX3_init cX3_init 5 none ∈ wsL_law := wb_21 _ (List.mem_of_getElem? (i := 15) rfl)
theorem lk_X3_3 : Cond.methodLink RX3 3 yX9_init ∈ wsL_law := wb_21 _ (List.mem_of_getElem? (i := 16) rfl)
theorem lk_L_114 : Cond.methodLink RL 114 yX11_group ∈ wsL_law := wb_21 _ (List.mem_of_getElem? (i := 17) rfl)
theorem wI_X11_group : Cond.instanceMethod yX11_group ∈ wsL_law := wb_21 _ (List.mem_of_getElem? (i := 18) rfl)
theorem wV_X11_X11_group : Cond.selects RX11 yX11_group yX11_group ∈ wsL_law := wb_21 _ (List.mem_of_getElem? (i := 19) rfl)
theorem wC_X11_group : Cond.code yX11_group cX11_group 7 none ∈ wsL_law := wb_21 _ (List.mem_of_getElem? (i := 20) rfl)
theorem lk_L_115 : Cond.methodLink RL 115 yL_drop ∈ wsL_law := wb_21 _ (List.mem_of_getElem? (i := 21) rfl)
theorem wS_L_drop : Cond.static yL_drop ∈ wsL_law := wb_21 _ (List.mem_of_getElem? (i := 22) rfl)
theorem wH_L_drop : Cond.codeWith yL_drop cL_drop 3 (some .int) [(0, 5, 8, 13), (0, 5, 11, 15)] ∈ wsL_law := wb_21 _ (List.mem_of_getElem? (i := 23) rfl)
theorem lk_L_43 : Cond.methodLink RL 43 yX10_drop ∈ wsL_law := wb_22 _ (List.mem_of_getElem? (i := 0) rfl)
theorem wI_X10_drop : Cond.instanceMethod yX10_drop ∈ wsL_law := wb_22 _ (List.mem_of_getElem? (i := 1) rfl)
theorem wV_X10_X10_drop : Cond.selects RX10 yX10_drop yX10_drop ∈ wsL_law := wb_22 _ (List.mem_of_getElem? (i := 2) rfl)
theorem wC_X10_drop : Cond.code yX10_drop cX10_drop 7 none ∈ wsL_law := wb_22 _ (List.mem_of_getElem? (i := 3) rfl)
theorem lk_X10_110 : Cond.methodLink RX10 110 yX6_isOf ∈ wsL_law := wb_22 _ (List.mem_of_getElem? (i := 4) rfl)
theorem wI_X6_isOf : Cond.instanceMethod yX6_isOf ∈ wsL_law := wb_22 _ (List.mem_of_getElem? (i := 5) rfl)
theorem wV_X6_X6_isOf : Cond.selects RX6 yX6_isOf yX6_isOf ∈ wsL_law := wb_22 _ (List.mem_of_getElem? (i := 6) rfl)
theorem wC_X6_isOf : Cond.code yX6_isOf cX6_isOf 2 (some .boolean) ∈ wsL_law := wb_22 _ (List.mem_of_getElem? (i := 7) rfl)
theorem lk_X6_33 : Cond.fieldLink RX6 33 "BagViews$View" "left" "LBagViews$Relation;" ∈ wsL_law := wb_22 _ (List.mem_of_getElem? (i := 8) rfl)
theorem lk_X6_39 : Cond.fieldLink RX6 39 "BagViews$View" "right" "LBagViews$Relation;" ∈ wsL_law := wb_22 _ (List.mem_of_getElem? (i := 9) rfl)
theorem lk_X10_119 : Cond.methodLink RX10 119 yX6_end ∈ wsL_law := wb_22 _ (List.mem_of_getElem? (i := 10) rfl)
theorem wI_X6_end : Cond.instanceMethod yX6_end ∈ wsL_law := wb_22 _ (List.mem_of_getElem? (i := 11) rfl)
theorem wV_X6_X6_end : Cond.selects RX6 yX6_end yX6_end ∈ wsL_law := wb_22 _ (List.mem_of_getElem? (i := 12) rfl)
theorem wC_X6_end : Cond.code yX6_end cX6_end 1 none ∈ wsL_law := wb_22 _ (List.mem_of_getElem? (i := 13) rfl)
theorem lk_L_118 : Cond.methodLink RL 118 yX11_drop ∈ wsL_law := wb_22 _ (List.mem_of_getElem? (i := 14) rfl)
theorem wI_X11_drop : Cond.instanceMethod yX11_drop ∈ wsL_law := wb_22 _ (List.mem_of_getElem? (i := 15) rfl)
theorem wV_X11_X11_drop : Cond.selects RX11 yX11_drop yX11_drop ∈ wsL_law := wb_22 _ (List.mem_of_getElem? (i := 16) rfl)
theorem wC_X11_drop : Cond.code yX11_drop cX11_drop 4 none ∈ wsL_law := wb_22 _ (List.mem_of_getElem? (i := 17) rfl)
theorem lk_L_119 : Cond.methodLink RL 119 yL_put ∈ wsL_law := wb_22 _ (List.mem_of_getElem? (i := 18) rfl)
theorem wS_L_put : Cond.static yL_put ∈ wsL_law := wb_22 _ (List.mem_of_getElem? (i := 19) rfl)
theorem wH_L_put : Cond.codeWith yL_put cL_put 9 (some .int) [(0, 18, 21, 13), (0, 18, 25, 15), (0, 18, 29, 17), (0, 18, 33, 23)] ∈ wsL_law := wb_22 _ (List.mem_of_getElem? (i := 20) rfl)
theorem lk_L_47 : Cond.methodLink RL 47 yX10_put ∈ wsL_law := wb_22 _ (List.mem_of_getElem? (i := 21) rfl)
theorem wI_X10_put : Cond.instanceMethod yX10_put ∈ wsL_law := wb_22 _ (List.mem_of_getElem? (i := 22) rfl)
theorem wV_X10_X10_put : Cond.selects RX10 yX10_put yX10_put ∈ wsL_law := wb_22 _ (List.mem_of_getElem? (i := 23) rfl)
theorem wC_X10_put : Cond.code yX10_put cX10_put 9 (some .int) ∈ wsL_law := wb_23 _ (List.mem_of_getElem? (i := 0) rfl)
theorem lk_X10_125 : Cond.constant RX10 125 (-1000000) ∈ wsL_law := wb_23 _ (List.mem_of_getElem? (i := 1) rfl)
theorem lk_X10_126 : Cond.constant RX10 126 (1000000) ∈ wsL_law := wb_23 _ (List.mem_of_getElem? (i := 2) rfl)
theorem lk_X10_122 : Cond.methodLink RX10 122 yX10_tableAt ∈ wsL_law := wb_23 _ (List.mem_of_getElem? (i := 3) rfl)
theorem wI_X10_tableAt : Cond.instanceMethod yX10_tableAt ∈ wsL_law := wb_23 _ (List.mem_of_getElem? (i := 4) rfl)
theorem wV_X10_X10_tableAt : Cond.selects RX10 yX10_tableAt yX10_tableAt ∈ wsL_law := wb_23 _ (List.mem_of_getElem? (i := 5) rfl)
theorem wC_X10_tableAt : Cond.code yX10_tableAt cX10_tableAt 3 (some (.object "BagViews$Relation")) ∈ wsL_law := wb_23 _ (List.mem_of_getElem? (i := 6) rfl)
theorem lk_X10_129 : Cond.methodLink RX10 129 yX10_tell ∈ wsL_law := wb_23 _ (List.mem_of_getElem? (i := 7) rfl)
theorem wI_X10_tell : Cond.instanceMethod yX10_tell ∈ wsL_law := wb_23 _ (List.mem_of_getElem? (i := 8) rfl)
theorem wV_X10_X10_tell : Cond.selects RX10 yX10_tell yX10_tell ∈ wsL_law := wb_23 _ (List.mem_of_getElem? (i := 9) rfl)
theorem wC_X10_tell : Cond.code yX10_tell cX10_tell 6 none ∈ wsL_law := wb_23 _ (List.mem_of_getElem? (i := 10) rfl)
theorem lk_X10_133 : Cond.methodLink RX10 133 yX0_timesOf ∈ wsL_law := wb_23 _ (List.mem_of_getElem? (i := 11) rfl)
theorem lk_X10_141 : Cond.methodLink RX10 141 yX0_copyFrom ∈ wsL_law := wb_23 _ (List.mem_of_getElem? (i := 12) rfl)
theorem lk_X10_145 : Cond.methodLink RX10 145 yX0_add ∈ wsL_law := wb_23 _ (List.mem_of_getElem? (i := 13) rfl)
theorem lk_X10_149 : Cond.methodLink RX10 149 yX10_viewsFit ∈ wsL_law := wb_23 _ (List.mem_of_getElem? (i := 14) rfl)
theorem wI_X10_viewsFit : Cond.instanceMethod yX10_viewsFit ∈ wsL_law := wb_23 _ (List.mem_of_getElem? (i := 15) rfl)
theorem wV_X10_X10_viewsFit : Cond.selects RX10 yX10_viewsFit yX10_viewsFit ∈ wsL_law := wb_23 _ (List.mem_of_getElem? (i := 16) rfl)
theorem wC_X10_viewsFit : Cond.code yX10_viewsFit cX10_viewsFit 7 (some .boolean) ∈ wsL_law := wb_23 _ (List.mem_of_getElem? (i := 17) rfl)
theorem lk_X10_219 : Cond.methodLink RX10 219 yX0_countDifferent ∈ wsL_law := wb_23 _ (List.mem_of_getElem? (i := 18) rfl)
theorem wI_X0_countDifferent : Cond.instanceMethod yX0_countDifferent ∈ wsL_law := wb_23 _ (List.mem_of_getElem? (i := 19) rfl)
theorem wV_X0_X0_countDifferent : Cond.selects RX0 yX0_countDifferent yX0_countDifferent ∈ wsL_law := wb_23 _ (List.mem_of_getElem? (i := 20) rfl)
theorem wC_X0_countDifferent : Cond.code yX0_countDifferent cX0_countDifferent 6 (some .int) ∈ wsL_law := wb_23 _ (List.mem_of_getElem? (i := 21) rfl)
theorem lk_X10_226 : Cond.methodLink RX10 226 yX6_depth ∈ wsL_law := wb_23 _ (List.mem_of_getElem? (i := 22) rfl)
theorem lk_X10_230 : Cond.methodLink RX10 230 yX6_remake ∈ wsL_law := wb_23 _ (List.mem_of_getElem? (i := 23) rfl)
theorem wI_X6_remake : Cond.instanceMethod yX6_remake ∈ wsL_law := wb_24 _ (List.mem_of_getElem? (i := 0) rfl)
theorem wV_X6_X6_remake : Cond.selects RX6 yX6_remake yX6_remake ∈ wsL_law := wb_24 _ (List.mem_of_getElem? (i := 1) rfl)
theorem wC_X6_remake : Cond.code yX6_remake cX6_remake 1 (some .boolean) ∈ wsL_law := wb_24 _ (List.mem_of_getElem? (i := 2) rfl)
theorem lk_X6_45 : Cond.methodLink RX6 45 ⟨"BagViews$View", "isTouched", "()Z"⟩ ∈ wsL_law := wb_24 _ (List.mem_of_getElem? (i := 3) rfl)
theorem wz_27 : Cond.sameMethod "BagViews$View" "BagViews$View" "isTouched" "()Z" ∈ wsL_law := wb_24 _ (List.mem_of_getElem? (i := 4) rfl)
theorem wV_X1_X9_isTouched : Cond.selects RX1 ⟨"BagViews$View", "isTouched", "()Z"⟩ yX9_isTouched ∈ wsL_law := wb_24 _ (List.mem_of_getElem? (i := 5) rfl)
theorem wI_X9_isTouched : Cond.instanceMethod yX9_isTouched ∈ wsL_law := wb_24 _ (List.mem_of_getElem? (i := 6) rfl)
theorem wC_X9_isTouched : Cond.code yX9_isTouched cX9_isTouched 1 (some .boolean) ∈ wsL_law := wb_24 _ (List.mem_of_getElem? (i := 7) rfl)
theorem wV_X2_X9_isTouched : Cond.selects RX2 ⟨"BagViews$View", "isTouched", "()Z"⟩ yX9_isTouched ∈ wsL_law := wb_24 _ (List.mem_of_getElem? (i := 8) rfl)
theorem wV_X3_X9_isTouched : Cond.selects RX3 ⟨"BagViews$View", "isTouched", "()Z"⟩ yX9_isTouched ∈ wsL_law := wb_24 _ (List.mem_of_getElem? (i := 9) rfl)
theorem wV_X4_X9_isTouched : Cond.selects RX4 ⟨"BagViews$View", "isTouched", "()Z"⟩ yX9_isTouched ∈ wsL_law := wb_24 _ (List.mem_of_getElem? (i := 10) rfl)
theorem wV_X5_X9_isTouched : Cond.selects RX5 ⟨"BagViews$View", "isTouched", "()Z"⟩ yX9_isTouched ∈ wsL_law := wb_24 _ (List.mem_of_getElem? (i := 11) rfl)
theorem wV_X7_X9_isTouched : Cond.selects RX7 ⟨"BagViews$View", "isTouched", "()Z"⟩ yX9_isTouched ∈ wsL_law := wb_24 _ (List.mem_of_getElem? (i := 12) rfl)
theorem wV_X8_X9_isTouched : Cond.selects RX8 ⟨"BagViews$View", "isTouched", "()Z"⟩ yX9_isTouched ∈ wsL_law := wb_24 _ (List.mem_of_getElem? (i := 13) rfl)
theorem lk_X6_49 : Cond.methodLink RX6 49 yX0_clear ∈ wsL_law := wb_24 _ (List.mem_of_getElem? (i := 14) rfl)
theorem lk_X6_52 : Cond.methodLink RX6 52 ⟨"BagViews$View", "makeInto", "(LBagViews$Bag;)Z"⟩ ∈ wsL_law := wb_24 _ (List.mem_of_getElem? (i := 15) rfl)
theorem lk_X6_56 : Cond.methodLink RX6 56 yX0_countDifferent ∈ wsL_law := wb_24 _ (List.mem_of_getElem? (i := 16) rfl)
theorem lk_X10_152 : Cond.methodLink RX10 152 yX10_takeOver ∈ wsL_law := wb_24 _ (List.mem_of_getElem? (i := 17) rfl)
theorem wI_X10_takeOver : Cond.instanceMethod yX10_takeOver ∈ wsL_law := wb_24 _ (List.mem_of_getElem? (i := 18) rfl)
theorem wV_X10_X10_takeOver : Cond.selects RX10 yX10_takeOver yX10_takeOver ∈ wsL_law := wb_24 _ (List.mem_of_getElem? (i := 19) rfl)
theorem wC_X10_takeOver : Cond.code yX10_takeOver cX10_takeOver 6 none ∈ wsL_law := wb_24 _ (List.mem_of_getElem? (i := 20) rfl)
theorem lk_X10_233 : Cond.methodLink RX10 233 yX6_settle ∈ wsL_law := wb_24 _ (List.mem_of_getElem? (i := 21) rfl)
theorem wI_X6_settle : Cond.instanceMethod yX6_settle ∈ wsL_law := wb_24 _ (List.mem_of_getElem? (i := 22) rfl)
theorem wV_X6_X6_settle : Cond.selects RX6 yX6_settle yX6_settle ∈ wsL_law := wb_24 _ (List.mem_of_getElem? (i := 23) rfl)
theorem wC_X6_settle : Cond.code yX6_settle cX6_settle 3 none ∈ wsL_law := wb_25 _ (List.mem_of_getElem? (i := 0) rfl)
theorem lk_L_122 : Cond.methodLink RL 122 yX11_put ∈ wsL_law := wb_25 _ (List.mem_of_getElem? (i := 1) rfl)
theorem wI_X11_put : Cond.instanceMethod yX11_put ∈ wsL_law := wb_25 _ (List.mem_of_getElem? (i := 2) rfl)
theorem wV_X11_X11_put : Cond.selects RX11 yX11_put yX11_put ∈ wsL_law := wb_25 _ (List.mem_of_getElem? (i := 3) rfl)
theorem wC_X11_put : Cond.code yX11_put cX11_put 8 (some .int) ∈ wsL_law := wb_25 _ (List.mem_of_getElem? (i := 4) rfl)
theorem lk_X11_151 : Cond.constant RX11 151 (-1000000) ∈ wsL_law := wb_25 _ (List.mem_of_getElem? (i := 5) rfl)
theorem lk_X11_152 : Cond.constant RX11 152 (1000000) ∈ wsL_law := wb_25 _ (List.mem_of_getElem? (i := 6) rfl)
theorem lk_X11_147 : Cond.methodLink RX11 147 yX11_setRow ∈ wsL_law := wb_25 _ (List.mem_of_getElem? (i := 7) rfl)
theorem wI_X11_setRow : Cond.instanceMethod yX11_setRow ∈ wsL_law := wb_25 _ (List.mem_of_getElem? (i := 8) rfl)
theorem wV_X11_X11_setRow : Cond.selects RX11 yX11_setRow yX11_setRow ∈ wsL_law := wb_25 _ (List.mem_of_getElem? (i := 9) rfl)
theorem wC_X11_setRow : Cond.code yX11_setRow cX11_setRow 5 none ∈ wsL_law := wb_25 _ (List.mem_of_getElem? (i := 10) rfl)
theorem lk_X11_153 : Cond.methodLink RX11 153 yX11_timesHere ∈ wsL_law := wb_25 _ (List.mem_of_getElem? (i := 11) rfl)
theorem wI_X11_timesHere : Cond.instanceMethod yX11_timesHere ∈ wsL_law := wb_25 _ (List.mem_of_getElem? (i := 12) rfl)
theorem wV_X11_X11_timesHere : Cond.selects RX11 yX11_timesHere yX11_timesHere ∈ wsL_law := wb_25 _ (List.mem_of_getElem? (i := 13) rfl)
theorem wC_X11_timesHere : Cond.code yX11_timesHere cX11_timesHere 5 (some .int) ∈ wsL_law := wb_25 _ (List.mem_of_getElem? (i := 14) rfl)
theorem lk_X11_156 : Cond.methodLink RX11 156 yX11_change ∈ wsL_law := wb_25 _ (List.mem_of_getElem? (i := 15) rfl)
theorem wI_X11_change : Cond.instanceMethod yX11_change ∈ wsL_law := wb_25 _ (List.mem_of_getElem? (i := 16) rfl)
theorem wV_X11_X11_change : Cond.selects RX11 yX11_change yX11_change ∈ wsL_law := wb_25 _ (List.mem_of_getElem? (i := 17) rfl)
theorem wC_X11_change : Cond.code yX11_change cX11_change 4 none ∈ wsL_law := wb_25 _ (List.mem_of_getElem? (i := 18) rfl)
theorem lk_X11_141 : Cond.methodLink RX11 141 yX11_cut ∈ wsL_law := wb_25 _ (List.mem_of_getElem? (i := 19) rfl)
theorem wI_X11_cut : Cond.instanceMethod yX11_cut ∈ wsL_law := wb_25 _ (List.mem_of_getElem? (i := 20) rfl)
theorem wV_X11_X11_cut : Cond.selects RX11 yX11_cut yX11_cut ∈ wsL_law := wb_25 _ (List.mem_of_getElem? (i := 21) rfl)
theorem wC_X11_cut : Cond.code yX11_cut cX11_cut 5 none ∈ wsL_law := wb_25 _ (List.mem_of_getElem? (i := 22) rfl)
theorem lk_X11_159 : Cond.methodLink RX11 159 yX11_settle ∈ wsL_law := wb_25 _ (List.mem_of_getElem? (i := 23) rfl)
theorem wI_X11_settle : Cond.instanceMethod yX11_settle ∈ wsL_law := wb_26 _ (List.mem_of_getElem? (i := 0) rfl)
theorem wV_X11_X11_settle : Cond.selects RX11 yX11_settle yX11_settle ∈ wsL_law := wb_26 _ (List.mem_of_getElem? (i := 1) rfl)
theorem wC_X11_settle : Cond.code yX11_settle cX11_settle 2 (some .boolean) ∈ wsL_law := wb_26 _ (List.mem_of_getElem? (i := 2) rfl)
theorem lk_X11_144 : Cond.methodLink RX11 144 yX11_difference ∈ wsL_law := wb_26 _ (List.mem_of_getElem? (i := 3) rfl)
theorem wI_X11_difference : Cond.instanceMethod yX11_difference ∈ wsL_law := wb_26 _ (List.mem_of_getElem? (i := 4) rfl)
theorem wV_X11_X11_difference : Cond.selects RX11 yX11_difference yX11_difference ∈ wsL_law := wb_26 _ (List.mem_of_getElem? (i := 5) rfl)
theorem wC_X11_difference : Cond.code yX11_difference cX11_difference 10 (some .int) ∈ wsL_law := wb_26 _ (List.mem_of_getElem? (i := 6) rfl)
theorem lk_L_123 : Cond.methodLink RL 123 yL_fill ∈ wsL_law := wb_26 _ (List.mem_of_getElem? (i := 7) rfl)
theorem wS_L_fill : Cond.static yL_fill ∈ wsL_law := wb_26 _ (List.mem_of_getElem? (i := 8) rfl)
theorem wH_L_fill : Cond.codeWith yL_fill cL_fill 9 (some .int) [(0, 18, 21, 13), (0, 18, 25, 15), (0, 18, 29, 17), (0, 18, 33, 23)] ∈ wsL_law := wb_26 _ (List.mem_of_getElem? (i := 9) rfl)
theorem lk_L_51 : Cond.methodLink RL 51 yX10_fill ∈ wsL_law := wb_26 _ (List.mem_of_getElem? (i := 10) rfl)
theorem wI_X10_fill : Cond.instanceMethod yX10_fill ∈ wsL_law := wb_26 _ (List.mem_of_getElem? (i := 11) rfl)
theorem wV_X10_X10_fill : Cond.selects RX10 yX10_fill yX10_fill ∈ wsL_law := wb_26 _ (List.mem_of_getElem? (i := 12) rfl)
theorem wC_X10_fill : Cond.code yX10_fill cX10_fill 10 (some .int) ∈ wsL_law := wb_26 _ (List.mem_of_getElem? (i := 13) rfl)
theorem lk_L_125 : Cond.methodLink RL 125 yX11_fill ∈ wsL_law := wb_26 _ (List.mem_of_getElem? (i := 14) rfl)
theorem wI_X11_fill : Cond.instanceMethod yX11_fill ∈ wsL_law := wb_26 _ (List.mem_of_getElem? (i := 15) rfl)
theorem wV_X11_X11_fill : Cond.selects RX11 yX11_fill yX11_fill ∈ wsL_law := wb_26 _ (List.mem_of_getElem? (i := 16) rfl)
theorem wC_X11_fill : Cond.code yX11_fill cX11_fill 8 (some .int) ∈ wsL_law := wb_26 _ (List.mem_of_getElem? (i := 17) rfl)
theorem lk_L_126 : Cond.methodLink RL 126 yL_width ∈ wsL_law := wb_26 _ (List.mem_of_getElem? (i := 18) rfl)
theorem wS_L_width : Cond.static yL_width ∈ wsL_law := wb_26 _ (List.mem_of_getElem? (i := 19) rfl)
theorem wH_L_width : Cond.codeWith yL_width cL_width 4 (some .int) [(0, 9, 12, 13)] ∈ wsL_law := wb_26 _ (List.mem_of_getElem? (i := 20) rfl)
theorem lk_L_54 : Cond.methodLink RL 54 yX10_width ∈ wsL_law := wb_26 _ (List.mem_of_getElem? (i := 21) rfl)
theorem wI_X10_width : Cond.instanceMethod yX10_width ∈ wsL_law := wb_26 _ (List.mem_of_getElem? (i := 22) rfl)
theorem wV_X10_X10_width : Cond.selects RX10 yX10_width yX10_width ∈ wsL_law := wb_26 _ (List.mem_of_getElem? (i := 23) rfl)
theorem wC_X10_width : Cond.code yX10_width cX10_width 2 (some .int) ∈ wsL_law := wb_27 _ (List.mem_of_getElem? (i := 0) rfl)
theorem lk_L_129 : Cond.methodLink RL 129 yX11_width ∈ wsL_law := wb_27 _ (List.mem_of_getElem? (i := 1) rfl)
theorem wI_X11_width : Cond.instanceMethod yX11_width ∈ wsL_law := wb_27 _ (List.mem_of_getElem? (i := 2) rfl)
theorem wV_X11_X11_width : Cond.selects RX11 yX11_width yX11_width ∈ wsL_law := wb_27 _ (List.mem_of_getElem? (i := 3) rfl)
theorem wC_X11_width : Cond.code yX11_width cX11_width 2 (some .int) ∈ wsL_law := wb_27 _ (List.mem_of_getElem? (i := 4) rfl)
theorem lk_L_130 : Cond.methodLink RL 130 yL_rows ∈ wsL_law := wb_27 _ (List.mem_of_getElem? (i := 5) rfl)
theorem wS_L_rows : Cond.static yL_rows ∈ wsL_law := wb_27 _ (List.mem_of_getElem? (i := 6) rfl)
theorem wH_L_rows : Cond.codeWith yL_rows cL_rows 4 (some .int) [(0, 9, 12, 13)] ∈ wsL_law := wb_27 _ (List.mem_of_getElem? (i := 7) rfl)
theorem lk_L_58 : Cond.methodLink RL 58 yX10_rows ∈ wsL_law := wb_27 _ (List.mem_of_getElem? (i := 8) rfl)
theorem wI_X10_rows : Cond.instanceMethod yX10_rows ∈ wsL_law := wb_27 _ (List.mem_of_getElem? (i := 9) rfl)
theorem wV_X10_X10_rows : Cond.selects RX10 yX10_rows yX10_rows ∈ wsL_law := wb_27 _ (List.mem_of_getElem? (i := 10) rfl)
theorem wC_X10_rows : Cond.code yX10_rows cX10_rows 2 (some .int) ∈ wsL_law := wb_27 _ (List.mem_of_getElem? (i := 11) rfl)
theorem lk_L_132 : Cond.methodLink RL 132 yX11_rows ∈ wsL_law := wb_27 _ (List.mem_of_getElem? (i := 12) rfl)
theorem wI_X11_rows : Cond.instanceMethod yX11_rows ∈ wsL_law := wb_27 _ (List.mem_of_getElem? (i := 13) rfl)
theorem wV_X11_X11_rows : Cond.selects RX11 yX11_rows yX11_rows ∈ wsL_law := wb_27 _ (List.mem_of_getElem? (i := 14) rfl)
theorem wC_X11_rows : Cond.code yX11_rows cX11_rows 2 (some .int) ∈ wsL_law := wb_27 _ (List.mem_of_getElem? (i := 15) rfl)
theorem lk_L_133 : Cond.methodLink RL 133 yL_size ∈ wsL_law := wb_27 _ (List.mem_of_getElem? (i := 16) rfl)
theorem wS_L_size : Cond.static yL_size ∈ wsL_law := wb_27 _ (List.mem_of_getElem? (i := 17) rfl)
theorem wH_L_size : Cond.codeWith yL_size cL_size 4 (some .int) [(0, 8, 11, 13)] ∈ wsL_law := wb_27 _ (List.mem_of_getElem? (i := 18) rfl)
theorem lk_L_61 : Cond.methodLink RL 61 yX10_size ∈ wsL_law := wb_27 _ (List.mem_of_getElem? (i := 19) rfl)
theorem wI_X10_size : Cond.instanceMethod yX10_size ∈ wsL_law := wb_27 _ (List.mem_of_getElem? (i := 20) rfl)
theorem wV_X10_X10_size : Cond.selects RX10 yX10_size yX10_size ∈ wsL_law := wb_27 _ (List.mem_of_getElem? (i := 21) rfl)
theorem wC_X10_size : Cond.code yX10_size cX10_size 2 (some .long) ∈ wsL_law := wb_27 _ (List.mem_of_getElem? (i := 22) rfl)
theorem lk_X10_161 : Cond.methodLink RX10 161 yX0_allTimes ∈ wsL_law := wb_27 _ (List.mem_of_getElem? (i := 23) rfl)
theorem wI_X0_allTimes : Cond.instanceMethod yX0_allTimes ∈ wsL_law := wb_28 _ (List.mem_of_getElem? (i := 0) rfl)
theorem wV_X0_X0_allTimes : Cond.selects RX0 yX0_allTimes yX0_allTimes ∈ wsL_law := wb_28 _ (List.mem_of_getElem? (i := 1) rfl)
theorem wC_X0_allTimes : Cond.code yX0_allTimes cX0_allTimes 4 (some .long) ∈ wsL_law := wb_28 _ (List.mem_of_getElem? (i := 2) rfl)
theorem lk_L_135 : Cond.methodLink RL 135 yX11_size ∈ wsL_law := wb_28 _ (List.mem_of_getElem? (i := 3) rfl)
theorem wI_X11_size : Cond.instanceMethod yX11_size ∈ wsL_law := wb_28 _ (List.mem_of_getElem? (i := 4) rfl)
theorem wV_X11_X11_size : Cond.selects RX11 yX11_size yX11_size ∈ wsL_law := wb_28 _ (List.mem_of_getElem? (i := 5) rfl)
theorem wC_X11_size : Cond.code yX11_size cX11_size 5 (some .long) ∈ wsL_law := wb_28 _ (List.mem_of_getElem? (i := 6) rfl)
theorem lk_L_136 : Cond.methodLink RL 136 yL_times ∈ wsL_law := wb_28 _ (List.mem_of_getElem? (i := 7) rfl)
theorem wS_L_times : Cond.static yL_times ∈ wsL_law := wb_28 _ (List.mem_of_getElem? (i := 8) rfl)
theorem wH_L_times : Cond.codeWith yL_times cL_times 8 (some .int) [(0, 16, 19, 13)] ∈ wsL_law := wb_28 _ (List.mem_of_getElem? (i := 9) rfl)
theorem lk_L_65 : Cond.methodLink RL 65 yX10_times ∈ wsL_law := wb_28 _ (List.mem_of_getElem? (i := 10) rfl)
theorem wI_X10_times : Cond.instanceMethod yX10_times ∈ wsL_law := wb_28 _ (List.mem_of_getElem? (i := 11) rfl)
theorem wV_X10_X10_times : Cond.selects RX10 yX10_times yX10_times ∈ wsL_law := wb_28 _ (List.mem_of_getElem? (i := 12) rfl)
theorem wC_X10_times : Cond.code yX10_times cX10_times 7 (some .int) ∈ wsL_law := wb_28 _ (List.mem_of_getElem? (i := 13) rfl)
theorem lk_L_139 : Cond.methodLink RL 139 yX11_times ∈ wsL_law := wb_28 _ (List.mem_of_getElem? (i := 14) rfl)
theorem wI_X11_times : Cond.instanceMethod yX11_times ∈ wsL_law := wb_28 _ (List.mem_of_getElem? (i := 15) rfl)
theorem wV_X11_X11_times : Cond.selects RX11 yX11_times yX11_times ∈ wsL_law := wb_28 _ (List.mem_of_getElem? (i := 16) rfl)
theorem wC_X11_times : Cond.code yX11_times cX11_times 6 (some .int) ∈ wsL_law := wb_28 _ (List.mem_of_getElem? (i := 17) rfl)
theorem lk_L_140 : Cond.methodLink RL 140 yL_cell ∈ wsL_law := wb_28 _ (List.mem_of_getElem? (i := 18) rfl)
theorem wS_L_cell : Cond.static yL_cell ∈ wsL_law := wb_28 _ (List.mem_of_getElem? (i := 19) rfl)
theorem wH_L_cell : Cond.codeWith yL_cell cL_cell 6 (some .int) [(0, 12, 15, 13)] ∈ wsL_law := wb_28 _ (List.mem_of_getElem? (i := 20) rfl)
theorem lk_L_69 : Cond.methodLink RL 69 yX10_cell ∈ wsL_law := wb_28 _ (List.mem_of_getElem? (i := 21) rfl)
theorem wI_X10_cell : Cond.instanceMethod yX10_cell ∈ wsL_law := wb_28 _ (List.mem_of_getElem? (i := 22) rfl)
theorem wV_X10_X10_cell : Cond.selects RX10 yX10_cell yX10_cell ∈ wsL_law := wb_28 _ (List.mem_of_getElem? (i := 23) rfl)
theorem wC_X10_cell : Cond.code yX10_cell cX10_cell 5 (some .int) ∈ wsL_law := wb_29 _ (List.mem_of_getElem? (i := 0) rfl)
theorem lk_X10_173 : Cond.methodLink RX10 173 yX0_cellAt ∈ wsL_law := wb_29 _ (List.mem_of_getElem? (i := 1) rfl)
theorem lk_L_143 : Cond.methodLink RL 143 yX11_cell ∈ wsL_law := wb_29 _ (List.mem_of_getElem? (i := 2) rfl)
theorem wI_X11_cell : Cond.instanceMethod yX11_cell ∈ wsL_law := wb_29 _ (List.mem_of_getElem? (i := 3) rfl)
theorem wV_X11_X11_cell : Cond.selects RX11 yX11_cell yX11_cell ∈ wsL_law := wb_29 _ (List.mem_of_getElem? (i := 4) rfl)
theorem wC_X11_cell : Cond.code yX11_cell cX11_cell 4 (some .int) ∈ wsL_law := wb_29 _ (List.mem_of_getElem? (i := 5) rfl)
theorem lk_L_144 : Cond.methodLink RL 144 yL_changed ∈ wsL_law := wb_29 _ (List.mem_of_getElem? (i := 6) rfl)
theorem wS_L_changed : Cond.static yL_changed ∈ wsL_law := wb_29 _ (List.mem_of_getElem? (i := 7) rfl)
theorem wH_L_changed : Cond.codeWith yL_changed cL_changed 4 (some .int) [(0, 9, 12, 13)] ∈ wsL_law := wb_29 _ (List.mem_of_getElem? (i := 8) rfl)
theorem lk_L_73 : Cond.methodLink RL 73 yX10_changed ∈ wsL_law := wb_29 _ (List.mem_of_getElem? (i := 9) rfl)
theorem wI_X10_changed : Cond.instanceMethod yX10_changed ∈ wsL_law := wb_29 _ (List.mem_of_getElem? (i := 10) rfl)
theorem wV_X10_X10_changed : Cond.selects RX10 yX10_changed yX10_changed ∈ wsL_law := wb_29 _ (List.mem_of_getElem? (i := 11) rfl)
theorem wC_X10_changed : Cond.code yX10_changed cX10_changed 2 (some .int) ∈ wsL_law := wb_29 _ (List.mem_of_getElem? (i := 12) rfl)
theorem lk_L_146 : Cond.methodLink RL 146 yX11_changed ∈ wsL_law := wb_29 _ (List.mem_of_getElem? (i := 13) rfl)
theorem wI_X11_changed : Cond.instanceMethod yX11_changed ∈ wsL_law := wb_29 _ (List.mem_of_getElem? (i := 14) rfl)
theorem wV_X11_X11_changed : Cond.selects RX11 yX11_changed yX11_changed ∈ wsL_law := wb_29 _ (List.mem_of_getElem? (i := 15) rfl)
theorem wC_X11_changed : Cond.code yX11_changed cX11_changed 2 (some .int) ∈ wsL_law := wb_29 _ (List.mem_of_getElem? (i := 16) rfl)
theorem lk_L_147 : Cond.methodLink RL 147 yL_count ∈ wsL_law := wb_29 _ (List.mem_of_getElem? (i := 17) rfl)
theorem wS_L_count : Cond.static yL_count ∈ wsL_law := wb_29 _ (List.mem_of_getElem? (i := 18) rfl)
theorem wH_L_count : Cond.codeWith yL_count cL_count 4 (some .int) [(0, 9, 12, 17)] ∈ wsL_law := wb_29 _ (List.mem_of_getElem? (i := 19) rfl)
theorem lk_L_76 : Cond.methodLink RL 76 yX10_count ∈ wsL_law := wb_29 _ (List.mem_of_getElem? (i := 20) rfl)
theorem wI_X10_count : Cond.instanceMethod yX10_count ∈ wsL_law := wb_29 _ (List.mem_of_getElem? (i := 21) rfl)
theorem wV_X10_X10_count : Cond.selects RX10 yX10_count yX10_count ∈ wsL_law := wb_29 _ (List.mem_of_getElem? (i := 22) rfl)
theorem wC_X10_count : Cond.code yX10_count cX10_count 7 (some .int) ∈ wsL_law := wb_29 _ (List.mem_of_getElem? (i := 23) rfl)
theorem lk_X10_186 : Cond.methodLink RX10 186 yX10_countIn ∈ wsL_law := wb_30 _ (List.mem_of_getElem? (i := 0) rfl)
theorem wS_X10_countIn : Cond.static yX10_countIn ∈ wsL_law := wb_30 _ (List.mem_of_getElem? (i := 1) rfl)
theorem wC_X10_countIn : Cond.code yX10_countIn cX10_countIn 2 (some .int) ∈ wsL_law := wb_30 _ (List.mem_of_getElem? (i := 2) rfl)
theorem lk_L_149 : Cond.methodLink RL 149 yX11_count ∈ wsL_law := wb_30 _ (List.mem_of_getElem? (i := 3) rfl)
theorem wI_X11_count : Cond.instanceMethod yX11_count ∈ wsL_law := wb_30 _ (List.mem_of_getElem? (i := 4) rfl)
theorem wV_X11_X11_count : Cond.selects RX11 yX11_count yX11_count ∈ wsL_law := wb_30 _ (List.mem_of_getElem? (i := 5) rfl)
theorem wC_X11_count : Cond.code yX11_count cX11_count 6 (some .int) ∈ wsL_law := wb_30 _ (List.mem_of_getElem? (i := 6) rfl)
end
section
theorem dX0_init_0 : decode cX0_init 0 = .ok (.aload_n 0, 1) := by decide +kernel
theorem dX0_init_1 : decode cX0_init 1 = .ok (.invokespecial 3, 3) := by decide +kernel
theorem dX0_init_4 : decode cX0_init 4 = .ok (.aload_n 0, 1) := by decide +kernel
theorem dX0_init_5 : decode cX0_init 5 = .ok (.bipush 80, 2) := by decide +kernel
theorem dX0_init_7 : decode cX0_init 7 = .ok (.newarray .int, 2) := by decide +kernel
theorem dX0_init_9 : decode cX0_init 9 = .ok (.putfield 9, 3) := by decide +kernel
theorem dX0_init_12 : decode cX0_init 12 = .ok (.aload_n 0, 1) := by decide +kernel
theorem dX0_init_13 : decode cX0_init 13 = .ok (.bipush 20, 2) := by decide +kernel
theorem dX0_init_15 : decode cX0_init 15 = .ok (.newarray .int, 2) := by decide +kernel
theorem dX0_init_17 : decode cX0_init 17 = .ok (.putfield 15, 3) := by decide +kernel
theorem dX0_init_20 : decode cX0_init 20 = .ok (.return_, 1) := by decide +kernel
theorem dX0_clear_0 : decode cX0_clear 0 = .ok (.aload_n 0, 1) := by decide +kernel
theorem dX0_clear_1 : decode cX0_clear 1 = .ok (.iconst 0, 1) := by decide +kernel
theorem dX0_clear_2 : decode cX0_clear 2 = .ok (.putfield 18, 3) := by decide +kernel
theorem dX0_clear_5 : decode cX0_clear 5 = .ok (.return_, 1) := by decide +kernel
theorem dX0_copyFrom_0 : decode cX0_copyFrom 0 = .ok (.aload_n 1, 1) := by decide +kernel
theorem dX0_copyFrom_1 : decode cX0_copyFrom 1 = .ok (.getfield 9, 3) := by decide +kernel
theorem dX0_copyFrom_4 : decode cX0_copyFrom 4 = .ok (.iconst 0, 1) := by decide +kernel
theorem dX0_copyFrom_5 : decode cX0_copyFrom 5 = .ok (.aload_n 0, 1) := by decide +kernel
theorem dX0_copyFrom_6 : decode cX0_copyFrom 6 = .ok (.getfield 9, 3) := by decide +kernel
theorem dX0_copyFrom_9 : decode cX0_copyFrom 9 = .ok (.iconst 0, 1) := by decide +kernel
theorem dX0_copyFrom_10 : decode cX0_copyFrom 10 = .ok (.aload_n 0, 1) := by decide +kernel
theorem dX0_copyFrom_11 : decode cX0_copyFrom 11 = .ok (.getfield 9, 3) := by decide +kernel
theorem dX0_copyFrom_14 : decode cX0_copyFrom 14 = .ok (.arraylength, 1) := by decide +kernel
theorem dX0_copyFrom_15 : decode cX0_copyFrom 15 = .ok (.invokestatic 22, 3) := by decide +kernel
theorem dX0_copyFrom_18 : decode cX0_copyFrom 18 = .ok (.aload_n 1, 1) := by decide +kernel
theorem dX0_copyFrom_19 : decode cX0_copyFrom 19 = .ok (.getfield 15, 3) := by decide +kernel
theorem dX0_copyFrom_22 : decode cX0_copyFrom 22 = .ok (.iconst 0, 1) := by decide +kernel
theorem dX0_copyFrom_23 : decode cX0_copyFrom 23 = .ok (.aload_n 0, 1) := by decide +kernel
theorem dX0_copyFrom_24 : decode cX0_copyFrom 24 = .ok (.getfield 15, 3) := by decide +kernel
theorem dX0_copyFrom_27 : decode cX0_copyFrom 27 = .ok (.iconst 0, 1) := by decide +kernel
theorem dX0_copyFrom_28 : decode cX0_copyFrom 28 = .ok (.aload_n 0, 1) := by decide +kernel
theorem dX0_copyFrom_29 : decode cX0_copyFrom 29 = .ok (.getfield 15, 3) := by decide +kernel
theorem dX0_copyFrom_32 : decode cX0_copyFrom 32 = .ok (.arraylength, 1) := by decide +kernel
theorem dX0_copyFrom_33 : decode cX0_copyFrom 33 = .ok (.invokestatic 22, 3) := by decide +kernel
theorem dX0_copyFrom_36 : decode cX0_copyFrom 36 = .ok (.aload_n 0, 1) := by decide +kernel
theorem dX0_copyFrom_37 : decode cX0_copyFrom 37 = .ok (.aload_n 1, 1) := by decide +kernel
theorem dX0_copyFrom_38 : decode cX0_copyFrom 38 = .ok (.getfield 18, 3) := by decide +kernel
theorem dX0_copyFrom_41 : decode cX0_copyFrom 41 = .ok (.putfield 18, 3) := by decide +kernel
theorem dX0_copyFrom_44 : decode cX0_copyFrom 44 = .ok (.return_, 1) := by decide +kernel
theorem dX0_cellAt_0 : decode cX0_cellAt 0 = .ok (.aload_n 0, 1) := by decide +kernel
theorem dX0_cellAt_1 : decode cX0_cellAt 1 = .ok (.getfield 9, 3) := by decide +kernel
theorem dX0_cellAt_4 : decode cX0_cellAt 4 = .ok (.iload_n 1, 1) := by decide +kernel
theorem dX0_cellAt_5 : decode cX0_cellAt 5 = .ok (.iconst 4, 1) := by decide +kernel
theorem dX0_cellAt_6 : decode cX0_cellAt 6 = .ok (.imul, 1) := by decide +kernel
theorem dX0_cellAt_7 : decode cX0_cellAt 7 = .ok (.iload_n 2, 1) := by decide +kernel
theorem dX0_cellAt_8 : decode cX0_cellAt 8 = .ok (.iadd, 1) := by decide +kernel
theorem dX0_cellAt_9 : decode cX0_cellAt 9 = .ok (.iaload, 1) := by decide +kernel
theorem dX0_cellAt_10 : decode cX0_cellAt 10 = .ok (.ireturn, 1) := by decide +kernel
theorem dX0_readRow_0 : decode cX0_readRow 0 = .ok (.aload_n 0, 1) := by decide +kernel
theorem dX0_readRow_1 : decode cX0_readRow 1 = .ok (.getfield 9, 3) := by decide +kernel
theorem dX0_readRow_4 : decode cX0_readRow 4 = .ok (.iload_n 1, 1) := by decide +kernel
theorem dX0_readRow_5 : decode cX0_readRow 5 = .ok (.iconst 4, 1) := by decide +kernel
theorem dX0_readRow_6 : decode cX0_readRow 6 = .ok (.imul, 1) := by decide +kernel
theorem dX0_readRow_7 : decode cX0_readRow 7 = .ok (.aload_n 2, 1) := by decide +kernel
theorem dX0_readRow_8 : decode cX0_readRow 8 = .ok (.iconst 0, 1) := by decide +kernel
theorem dX0_readRow_9 : decode cX0_readRow 9 = .ok (.iconst 4, 1) := by decide +kernel
theorem dX0_readRow_10 : decode cX0_readRow 10 = .ok (.invokestatic 22, 3) := by decide +kernel
theorem dX0_readRow_13 : decode cX0_readRow 13 = .ok (.return_, 1) := by decide +kernel
theorem dX0_allTimes_0 : decode cX0_allTimes 0 = .ok (.lconst 0, 1) := by decide +kernel
theorem dX0_allTimes_1 : decode cX0_allTimes 1 = .ok (.lstore_n 1, 1) := by decide +kernel
theorem dX0_allTimes_2 : decode cX0_allTimes 2 = .ok (.iconst 0, 1) := by decide +kernel
theorem dX0_allTimes_3 : decode cX0_allTimes 3 = .ok (.istore_n 3, 1) := by decide +kernel
theorem dX0_allTimes_4 : decode cX0_allTimes 4 = .ok (.iload_n 3, 1) := by decide +kernel
theorem dX0_allTimes_5 : decode cX0_allTimes 5 = .ok (.aload_n 0, 1) := by decide +kernel
theorem dX0_allTimes_6 : decode cX0_allTimes 6 = .ok (.getfield 18, 3) := by decide +kernel
theorem dX0_allTimes_9 : decode cX0_allTimes 9 = .ok (.if_icmp .ge 19, 3) := by decide +kernel
theorem dX0_allTimes_12 : decode cX0_allTimes 12 = .ok (.lload_n 1, 1) := by decide +kernel
theorem dX0_allTimes_13 : decode cX0_allTimes 13 = .ok (.aload_n 0, 1) := by decide +kernel
theorem dX0_allTimes_14 : decode cX0_allTimes 14 = .ok (.getfield 15, 3) := by decide +kernel
theorem dX0_allTimes_17 : decode cX0_allTimes 17 = .ok (.iload_n 3, 1) := by decide +kernel
theorem dX0_allTimes_18 : decode cX0_allTimes 18 = .ok (.iaload, 1) := by decide +kernel
theorem dX0_allTimes_19 : decode cX0_allTimes 19 = .ok (.i2l, 1) := by decide +kernel
theorem dX0_allTimes_20 : decode cX0_allTimes 20 = .ok (.ladd, 1) := by decide +kernel
theorem dX0_allTimes_21 : decode cX0_allTimes 21 = .ok (.lstore_n 1, 1) := by decide +kernel
theorem dX0_allTimes_22 : decode cX0_allTimes 22 = .ok (.iinc 3 1, 3) := by decide +kernel
theorem dX0_allTimes_25 : decode cX0_allTimes 25 = .ok (.goto (-21), 3) := by decide +kernel
theorem dX0_allTimes_28 : decode cX0_allTimes 28 = .ok (.lload_n 1, 1) := by decide +kernel
theorem dX0_allTimes_29 : decode cX0_allTimes 29 = .ok (.lreturn, 1) := by decide +kernel
theorem dX0_timesOf_0 : decode cX0_timesOf 0 = .ok (.aload_n 0, 1) := by decide +kernel
theorem dX0_timesOf_1 : decode cX0_timesOf 1 = .ok (.aload_n 1, 1) := by decide +kernel
theorem dX0_timesOf_2 : decode cX0_timesOf 2 = .ok (.invokevirtual 28, 3) := by decide +kernel
theorem dX0_timesOf_5 : decode cX0_timesOf 5 = .ok (.istore_n 2, 1) := by decide +kernel
theorem dX0_timesOf_6 : decode cX0_timesOf 6 = .ok (.aload_n 0, 1) := by decide +kernel
theorem dX0_timesOf_7 : decode cX0_timesOf 7 = .ok (.iload_n 2, 1) := by decide +kernel
theorem dX0_timesOf_8 : decode cX0_timesOf 8 = .ok (.iconst 1, 1) := by decide +kernel
theorem dX0_timesOf_9 : decode cX0_timesOf 9 = .ok (.isub, 1) := by decide +kernel
theorem dX0_timesOf_10 : decode cX0_timesOf 10 = .ok (.aload_n 1, 1) := by decide +kernel
theorem dX0_timesOf_11 : decode cX0_timesOf 11 = .ok (.invokevirtual 32, 3) := by decide +kernel
theorem dX0_timesOf_14 : decode cX0_timesOf 14 = .ok (.ifCond .eq 14, 3) := by decide +kernel
theorem dX0_timesOf_17 : decode cX0_timesOf 17 = .ok (.aload_n 0, 1) := by decide +kernel
theorem dX0_timesOf_18 : decode cX0_timesOf 18 = .ok (.getfield 15, 3) := by decide +kernel
theorem dX0_timesOf_21 : decode cX0_timesOf 21 = .ok (.iload_n 2, 1) := by decide +kernel
theorem dX0_timesOf_22 : decode cX0_timesOf 22 = .ok (.iconst 1, 1) := by decide +kernel
theorem dX0_timesOf_23 : decode cX0_timesOf 23 = .ok (.isub, 1) := by decide +kernel
theorem dX0_timesOf_24 : decode cX0_timesOf 24 = .ok (.iaload, 1) := by decide +kernel
theorem dX0_timesOf_25 : decode cX0_timesOf 25 = .ok (.goto 4, 3) := by decide +kernel
theorem dX0_timesOf_28 : decode cX0_timesOf 28 = .ok (.iconst 0, 1) := by decide +kernel
theorem dX0_timesOf_29 : decode cX0_timesOf 29 = .ok (.ireturn, 1) := by decide +kernel
theorem dX0_add_0 : decode cX0_add 0 = .ok (.aload_n 0, 1) := by decide +kernel
theorem dX0_add_1 : decode cX0_add 1 = .ok (.aload_n 1, 1) := by decide +kernel
theorem dX0_add_2 : decode cX0_add 2 = .ok (.invokevirtual 28, 3) := by decide +kernel
theorem dX0_add_5 : decode cX0_add 5 = .ok (.istore 4, 2) := by decide +kernel
theorem dX0_add_7 : decode cX0_add 7 = .ok (.aload_n 0, 1) := by decide +kernel
theorem dX0_add_8 : decode cX0_add 8 = .ok (.iload 4, 2) := by decide +kernel
theorem dX0_add_10 : decode cX0_add 10 = .ok (.iconst 1, 1) := by decide +kernel
theorem dX0_add_11 : decode cX0_add 11 = .ok (.isub, 1) := by decide +kernel
theorem dX0_add_12 : decode cX0_add 12 = .ok (.aload_n 1, 1) := by decide +kernel
theorem dX0_add_13 : decode cX0_add 13 = .ok (.invokevirtual 32, 3) := by decide +kernel
theorem dX0_add_16 : decode cX0_add 16 = .ok (.ifCond .eq 24, 3) := by decide +kernel
theorem dX0_add_19 : decode cX0_add 19 = .ok (.aload_n 0, 1) := by decide +kernel
theorem dX0_add_20 : decode cX0_add 20 = .ok (.iload 4, 2) := by decide +kernel
theorem dX0_add_22 : decode cX0_add 22 = .ok (.iconst 1, 1) := by decide +kernel
theorem dX0_add_23 : decode cX0_add 23 = .ok (.isub, 1) := by decide +kernel
theorem dX0_add_24 : decode cX0_add 24 = .ok (.aload_n 0, 1) := by decide +kernel
theorem dX0_add_25 : decode cX0_add 25 = .ok (.getfield 15, 3) := by decide +kernel
theorem dX0_add_28 : decode cX0_add 28 = .ok (.iload 4, 2) := by decide +kernel
theorem dX0_add_30 : decode cX0_add 30 = .ok (.iconst 1, 1) := by decide +kernel
theorem dX0_add_31 : decode cX0_add 31 = .ok (.isub, 1) := by decide +kernel
theorem dX0_add_32 : decode cX0_add 32 = .ok (.iaload, 1) := by decide +kernel
theorem dX0_add_33 : decode cX0_add 33 = .ok (.i2l, 1) := by decide +kernel
theorem dX0_add_34 : decode cX0_add 34 = .ok (.lload_n 2, 1) := by decide +kernel
theorem dX0_add_35 : decode cX0_add 35 = .ok (.ladd, 1) := by decide +kernel
theorem dX0_add_36 : decode cX0_add 36 = .ok (.invokevirtual 36, 3) := by decide +kernel
theorem dX0_add_39 : decode cX0_add 39 = .ok (.ireturn, 1) := by decide +kernel
theorem dX0_add_40 : decode cX0_add 40 = .ok (.lload_n 2, 1) := by decide +kernel
theorem dX0_add_41 : decode cX0_add 41 = .ok (.lconst 0, 1) := by decide +kernel
theorem dX0_add_42 : decode cX0_add 42 = .ok (.lcmp, 1) := by decide +kernel
theorem dX0_add_43 : decode cX0_add 43 = .ok (.ifCond .le 14, 3) := by decide +kernel
theorem dX0_add_46 : decode cX0_add 46 = .ok (.aload_n 0, 1) := by decide +kernel
theorem dX0_add_47 : decode cX0_add 47 = .ok (.iload 4, 2) := by decide +kernel
theorem dX0_add_49 : decode cX0_add 49 = .ok (.aload_n 1, 1) := by decide +kernel
theorem dX0_add_50 : decode cX0_add 50 = .ok (.lload_n 2, 1) := by decide +kernel
theorem dX0_add_51 : decode cX0_add 51 = .ok (.invokevirtual 40, 3) := by decide +kernel
theorem dX0_add_54 : decode cX0_add 54 = .ok (.ifCond .eq 7, 3) := by decide +kernel
theorem dX0_add_57 : decode cX0_add 57 = .ok (.iconst 1, 1) := by decide +kernel
theorem dX0_add_58 : decode cX0_add 58 = .ok (.goto 4, 3) := by decide +kernel
theorem dX0_add_61 : decode cX0_add 61 = .ok (.iconst 0, 1) := by decide +kernel
theorem dX0_add_62 : decode cX0_add 62 = .ok (.ireturn, 1) := by decide +kernel
theorem dX0_countDifferent_0 : decode cX0_countDifferent 0 = .ok (.iconst 0, 1) := by decide +kernel
theorem dX0_countDifferent_1 : decode cX0_countDifferent 1 = .ok (.istore_n 2, 1) := by decide +kernel
theorem dX0_countDifferent_2 : decode cX0_countDifferent 2 = .ok (.iconst 0, 1) := by decide +kernel
theorem dX0_countDifferent_3 : decode cX0_countDifferent 3 = .ok (.istore_n 3, 1) := by decide +kernel
theorem dX0_countDifferent_4 : decode cX0_countDifferent 4 = .ok (.iconst 0, 1) := by decide +kernel
theorem dX0_countDifferent_5 : decode cX0_countDifferent 5 = .ok (.istore 4, 2) := by decide +kernel
theorem dX0_countDifferent_7 : decode cX0_countDifferent 7 = .ok (.iload_n 3, 1) := by decide +kernel
theorem dX0_countDifferent_8 : decode cX0_countDifferent 8 = .ok (.aload_n 0, 1) := by decide +kernel
theorem dX0_countDifferent_9 : decode cX0_countDifferent 9 = .ok (.getfield 18, 3) := by decide +kernel
theorem dX0_countDifferent_12 : decode cX0_countDifferent 12 = .ok (.if_icmp .ge 70, 3) := by decide +kernel
theorem dX0_countDifferent_15 : decode cX0_countDifferent 15 = .ok (.iload 4, 2) := by decide +kernel
theorem dX0_countDifferent_17 : decode cX0_countDifferent 17 = .ok (.aload_n 1, 1) := by decide +kernel
theorem dX0_countDifferent_18 : decode cX0_countDifferent 18 = .ok (.getfield 18, 3) := by decide +kernel
theorem dX0_countDifferent_21 : decode cX0_countDifferent 21 = .ok (.if_icmp .ge 61, 3) := by decide +kernel
theorem dX0_countDifferent_24 : decode cX0_countDifferent 24 = .ok (.aload_n 0, 1) := by decide +kernel
theorem dX0_countDifferent_25 : decode cX0_countDifferent 25 = .ok (.iload_n 3, 1) := by decide +kernel
theorem dX0_countDifferent_26 : decode cX0_countDifferent 26 = .ok (.aload_n 1, 1) := by decide +kernel
theorem dX0_countDifferent_27 : decode cX0_countDifferent 27 = .ok (.getfield 9, 3) := by decide +kernel
theorem dX0_countDifferent_30 : decode cX0_countDifferent 30 = .ok (.iload 4, 2) := by decide +kernel
theorem dX0_countDifferent_32 : decode cX0_countDifferent 32 = .ok (.iconst 4, 1) := by decide +kernel
theorem dX0_countDifferent_33 : decode cX0_countDifferent 33 = .ok (.imul, 1) := by decide +kernel
theorem dX0_countDifferent_34 : decode cX0_countDifferent 34 = .ok (.invokevirtual 44, 3) := by decide +kernel
theorem dX0_countDifferent_37 : decode cX0_countDifferent 37 = .ok (.istore 5, 2) := by decide +kernel
theorem dX0_countDifferent_39 : decode cX0_countDifferent 39 = .ok (.iload 5, 2) := by decide +kernel
theorem dX0_countDifferent_41 : decode cX0_countDifferent 41 = .ok (.ifCond .ne 19, 3) := by decide +kernel
theorem dX0_countDifferent_44 : decode cX0_countDifferent 44 = .ok (.aload_n 0, 1) := by decide +kernel
theorem dX0_countDifferent_45 : decode cX0_countDifferent 45 = .ok (.getfield 15, 3) := by decide +kernel
theorem dX0_countDifferent_48 : decode cX0_countDifferent 48 = .ok (.iload_n 3, 1) := by decide +kernel
theorem dX0_countDifferent_49 : decode cX0_countDifferent 49 = .ok (.iaload, 1) := by decide +kernel
theorem dX0_countDifferent_50 : decode cX0_countDifferent 50 = .ok (.aload_n 1, 1) := by decide +kernel
theorem dX0_countDifferent_51 : decode cX0_countDifferent 51 = .ok (.getfield 15, 3) := by decide +kernel
theorem dX0_countDifferent_54 : decode cX0_countDifferent 54 = .ok (.iload 4, 2) := by decide +kernel
theorem dX0_countDifferent_56 : decode cX0_countDifferent 56 = .ok (.iaload, 1) := by decide +kernel
theorem dX0_countDifferent_57 : decode cX0_countDifferent 57 = .ok (.if_icmp .eq 6, 3) := by decide +kernel
theorem dX0_countDifferent_60 : decode cX0_countDifferent 60 = .ok (.iinc 2 1, 3) := by decide +kernel
theorem dX0_countDifferent_63 : decode cX0_countDifferent 63 = .ok (.iload 5, 2) := by decide +kernel
theorem dX0_countDifferent_65 : decode cX0_countDifferent 65 = .ok (.ifCond .gt 6, 3) := by decide +kernel
theorem dX0_countDifferent_68 : decode cX0_countDifferent 68 = .ok (.iinc 3 1, 3) := by decide +kernel
theorem dX0_countDifferent_71 : decode cX0_countDifferent 71 = .ok (.iload 5, 2) := by decide +kernel
theorem dX0_countDifferent_73 : decode cX0_countDifferent 73 = .ok (.ifCond .lt 6, 3) := by decide +kernel
theorem dX0_countDifferent_76 : decode cX0_countDifferent 76 = .ok (.iinc 4 1, 3) := by decide +kernel
theorem dX0_countDifferent_79 : decode cX0_countDifferent 79 = .ok (.goto (-72), 3) := by decide +kernel
theorem dX0_countDifferent_82 : decode cX0_countDifferent 82 = .ok (.iload_n 2, 1) := by decide +kernel
theorem dX0_countDifferent_83 : decode cX0_countDifferent 83 = .ok (.aload_n 0, 1) := by decide +kernel
theorem dX0_countDifferent_84 : decode cX0_countDifferent 84 = .ok (.getfield 18, 3) := by decide +kernel
theorem dX0_countDifferent_87 : decode cX0_countDifferent 87 = .ok (.iload_n 3, 1) := by decide +kernel
theorem dX0_countDifferent_88 : decode cX0_countDifferent 88 = .ok (.isub, 1) := by decide +kernel
theorem dX0_countDifferent_89 : decode cX0_countDifferent 89 = .ok (.iadd, 1) := by decide +kernel
theorem dX0_countDifferent_90 : decode cX0_countDifferent 90 = .ok (.aload_n 1, 1) := by decide +kernel
theorem dX0_countDifferent_91 : decode cX0_countDifferent 91 = .ok (.getfield 18, 3) := by decide +kernel
theorem dX0_countDifferent_94 : decode cX0_countDifferent 94 = .ok (.iload 4, 2) := by decide +kernel
theorem dX0_countDifferent_96 : decode cX0_countDifferent 96 = .ok (.isub, 1) := by decide +kernel
theorem dX0_countDifferent_97 : decode cX0_countDifferent 97 = .ok (.iadd, 1) := by decide +kernel
theorem dX0_countDifferent_98 : decode cX0_countDifferent 98 = .ok (.ireturn, 1) := by decide +kernel
theorem dX0_placeBehind_0 : decode cX0_placeBehind 0 = .ok (.aload_n 0, 1) := by decide +kernel
theorem dX0_placeBehind_1 : decode cX0_placeBehind 1 = .ok (.getfield 18, 3) := by decide +kernel
theorem dX0_placeBehind_4 : decode cX0_placeBehind 4 = .ok (.istore_n 2, 1) := by decide +kernel
theorem dX0_placeBehind_5 : decode cX0_placeBehind 5 = .ok (.iload_n 2, 1) := by decide +kernel
theorem dX0_placeBehind_6 : decode cX0_placeBehind 6 = .ok (.ifCond .le 21, 3) := by decide +kernel
theorem dX0_placeBehind_9 : decode cX0_placeBehind 9 = .ok (.aload_n 0, 1) := by decide +kernel
theorem dX0_placeBehind_10 : decode cX0_placeBehind 10 = .ok (.iload_n 2, 1) := by decide +kernel
theorem dX0_placeBehind_11 : decode cX0_placeBehind 11 = .ok (.iconst 1, 1) := by decide +kernel
theorem dX0_placeBehind_12 : decode cX0_placeBehind 12 = .ok (.isub, 1) := by decide +kernel
theorem dX0_placeBehind_13 : decode cX0_placeBehind 13 = .ok (.aload_n 1, 1) := by decide +kernel
theorem dX0_placeBehind_14 : decode cX0_placeBehind 14 = .ok (.iconst 0, 1) := by decide +kernel
theorem dX0_placeBehind_15 : decode cX0_placeBehind 15 = .ok (.invokevirtual 44, 3) := by decide +kernel
theorem dX0_placeBehind_18 : decode cX0_placeBehind 18 = .ok (.ifCond .le 9, 3) := by decide +kernel
theorem dX0_placeBehind_21 : decode cX0_placeBehind 21 = .ok (.iinc 2 (-1), 3) := by decide +kernel
theorem dX0_placeBehind_24 : decode cX0_placeBehind 24 = .ok (.goto (-19), 3) := by decide +kernel
theorem dX0_placeBehind_27 : decode cX0_placeBehind 27 = .ok (.iload_n 2, 1) := by decide +kernel
theorem dX0_placeBehind_28 : decode cX0_placeBehind 28 = .ok (.ireturn, 1) := by decide +kernel
theorem dX0_isAt_0 : decode cX0_isAt 0 = .ok (.iload_n 1, 1) := by decide +kernel
theorem dX0_isAt_1 : decode cX0_isAt 1 = .ok (.ifCond .lt 17, 3) := by decide +kernel
theorem dX0_isAt_4 : decode cX0_isAt 4 = .ok (.aload_n 0, 1) := by decide +kernel
theorem dX0_isAt_5 : decode cX0_isAt 5 = .ok (.iload_n 1, 1) := by decide +kernel
theorem dX0_isAt_6 : decode cX0_isAt 6 = .ok (.aload_n 2, 1) := by decide +kernel
theorem dX0_isAt_7 : decode cX0_isAt 7 = .ok (.iconst 0, 1) := by decide +kernel
theorem dX0_isAt_8 : decode cX0_isAt 8 = .ok (.invokevirtual 44, 3) := by decide +kernel
theorem dX0_isAt_11 : decode cX0_isAt 11 = .ok (.ifCond .ne 7, 3) := by decide +kernel
theorem dX0_isAt_14 : decode cX0_isAt 14 = .ok (.iconst 1, 1) := by decide +kernel
theorem dX0_isAt_15 : decode cX0_isAt 15 = .ok (.goto 4, 3) := by decide +kernel
theorem dX0_isAt_18 : decode cX0_isAt 18 = .ok (.iconst 0, 1) := by decide +kernel
theorem dX0_isAt_19 : decode cX0_isAt 19 = .ok (.ireturn, 1) := by decide +kernel
theorem dX0_compareRow_0 : decode cX0_compareRow 0 = .ok (.iconst 0, 1) := by decide +kernel
theorem dX0_compareRow_1 : decode cX0_compareRow 1 = .ok (.istore 4, 2) := by decide +kernel
theorem dX0_compareRow_3 : decode cX0_compareRow 3 = .ok (.iload 4, 2) := by decide +kernel
theorem dX0_compareRow_5 : decode cX0_compareRow 5 = .ok (.iconst 4, 1) := by decide +kernel
theorem dX0_compareRow_6 : decode cX0_compareRow 6 = .ok (.if_icmp .ge 50, 3) := by decide +kernel
theorem dX0_compareRow_9 : decode cX0_compareRow 9 = .ok (.aload_n 0, 1) := by decide +kernel
theorem dX0_compareRow_10 : decode cX0_compareRow 10 = .ok (.getfield 9, 3) := by decide +kernel
theorem dX0_compareRow_13 : decode cX0_compareRow 13 = .ok (.iload_n 1, 1) := by decide +kernel
theorem dX0_compareRow_14 : decode cX0_compareRow 14 = .ok (.iconst 4, 1) := by decide +kernel
theorem dX0_compareRow_15 : decode cX0_compareRow 15 = .ok (.imul, 1) := by decide +kernel
theorem dX0_compareRow_16 : decode cX0_compareRow 16 = .ok (.iload 4, 2) := by decide +kernel
theorem dX0_compareRow_18 : decode cX0_compareRow 18 = .ok (.iadd, 1) := by decide +kernel
theorem dX0_compareRow_19 : decode cX0_compareRow 19 = .ok (.iaload, 1) := by decide +kernel
theorem dX0_compareRow_20 : decode cX0_compareRow 20 = .ok (.istore 5, 2) := by decide +kernel
theorem dX0_compareRow_22 : decode cX0_compareRow 22 = .ok (.aload_n 2, 1) := by decide +kernel
theorem dX0_compareRow_23 : decode cX0_compareRow 23 = .ok (.iload_n 3, 1) := by decide +kernel
theorem dX0_compareRow_24 : decode cX0_compareRow 24 = .ok (.iload 4, 2) := by decide +kernel
theorem dX0_compareRow_26 : decode cX0_compareRow 26 = .ok (.iadd, 1) := by decide +kernel
theorem dX0_compareRow_27 : decode cX0_compareRow 27 = .ok (.iaload, 1) := by decide +kernel
theorem dX0_compareRow_28 : decode cX0_compareRow 28 = .ok (.istore 6, 2) := by decide +kernel
theorem dX0_compareRow_30 : decode cX0_compareRow 30 = .ok (.iload 5, 2) := by decide +kernel
theorem dX0_compareRow_32 : decode cX0_compareRow 32 = .ok (.iload 6, 2) := by decide +kernel
theorem dX0_compareRow_34 : decode cX0_compareRow 34 = .ok (.if_icmp .eq 16, 3) := by decide +kernel
theorem dX0_compareRow_37 : decode cX0_compareRow 37 = .ok (.iload 5, 2) := by decide +kernel
theorem dX0_compareRow_39 : decode cX0_compareRow 39 = .ok (.iload 6, 2) := by decide +kernel
theorem dX0_compareRow_41 : decode cX0_compareRow 41 = .ok (.if_icmp .ge 7, 3) := by decide +kernel
theorem dX0_compareRow_44 : decode cX0_compareRow 44 = .ok (.iconst (-1), 1) := by decide +kernel
theorem dX0_compareRow_45 : decode cX0_compareRow 45 = .ok (.goto 4, 3) := by decide +kernel
theorem dX0_compareRow_48 : decode cX0_compareRow 48 = .ok (.iconst 1, 1) := by decide +kernel
theorem dX0_compareRow_49 : decode cX0_compareRow 49 = .ok (.ireturn, 1) := by decide +kernel
theorem dX0_compareRow_50 : decode cX0_compareRow 50 = .ok (.iinc 4 1, 3) := by decide +kernel
theorem dX0_compareRow_53 : decode cX0_compareRow 53 = .ok (.goto (-50), 3) := by decide +kernel
theorem dX0_compareRow_56 : decode cX0_compareRow 56 = .ok (.iconst 0, 1) := by decide +kernel
theorem dX0_compareRow_57 : decode cX0_compareRow 57 = .ok (.ireturn, 1) := by decide +kernel
theorem dX0_setTimes_0 : decode cX0_setTimes 0 = .ok (.lload_n 2, 1) := by decide +kernel
theorem dX0_setTimes_1 : decode cX0_setTimes 1 = .ok (.ldc2_w 48, 3) := by decide +kernel
theorem dX0_setTimes_4 : decode cX0_setTimes 4 = .ok (.lcmp, 1) := by decide +kernel
theorem dX0_setTimes_5 : decode cX0_setTimes 5 = .ok (.ifCond .le 5, 3) := by decide +kernel
theorem dX0_setTimes_8 : decode cX0_setTimes 8 = .ok (.iconst 0, 1) := by decide +kernel
theorem dX0_setTimes_9 : decode cX0_setTimes 9 = .ok (.ireturn, 1) := by decide +kernel
theorem dX0_setTimes_10 : decode cX0_setTimes 10 = .ok (.lload_n 2, 1) := by decide +kernel
theorem dX0_setTimes_11 : decode cX0_setTimes 11 = .ok (.lconst 0, 1) := by decide +kernel
theorem dX0_setTimes_12 : decode cX0_setTimes 12 = .ok (.lcmp, 1) := by decide +kernel
theorem dX0_setTimes_13 : decode cX0_setTimes 13 = .ok (.ifCond .gt 11, 3) := by decide +kernel
theorem dX0_setTimes_16 : decode cX0_setTimes 16 = .ok (.aload_n 0, 1) := by decide +kernel
theorem dX0_setTimes_17 : decode cX0_setTimes 17 = .ok (.iload_n 1, 1) := by decide +kernel
theorem dX0_setTimes_18 : decode cX0_setTimes 18 = .ok (.invokevirtual 50, 3) := by decide +kernel
theorem dX0_setTimes_21 : decode cX0_setTimes 21 = .ok (.goto 11, 3) := by decide +kernel
theorem dX0_setTimes_24 : decode cX0_setTimes 24 = .ok (.aload_n 0, 1) := by decide +kernel
theorem dX0_setTimes_25 : decode cX0_setTimes 25 = .ok (.getfield 15, 3) := by decide +kernel
theorem dX0_setTimes_28 : decode cX0_setTimes 28 = .ok (.iload_n 1, 1) := by decide +kernel
theorem dX0_setTimes_29 : decode cX0_setTimes 29 = .ok (.lload_n 2, 1) := by decide +kernel
theorem dX0_setTimes_30 : decode cX0_setTimes 30 = .ok (.l2i, 1) := by decide +kernel
theorem dX0_setTimes_31 : decode cX0_setTimes 31 = .ok (.iastore, 1) := by decide +kernel
theorem dX0_setTimes_32 : decode cX0_setTimes 32 = .ok (.iconst 1, 1) := by decide +kernel
theorem dX0_setTimes_33 : decode cX0_setTimes 33 = .ok (.ireturn, 1) := by decide +kernel
theorem dX0_insert_0 : decode cX0_insert 0 = .ok (.aload_n 0, 1) := by decide +kernel
theorem dX0_insert_1 : decode cX0_insert 1 = .ok (.getfield 18, 3) := by decide +kernel
theorem dX0_insert_4 : decode cX0_insert 4 = .ok (.bipush 20, 2) := by decide +kernel
theorem dX0_insert_6 : decode cX0_insert 6 = .ok (.if_icmp .ge 11, 3) := by decide +kernel
theorem dX0_insert_9 : decode cX0_insert 9 = .ok (.lload_n 3, 1) := by decide +kernel
theorem dX0_insert_10 : decode cX0_insert 10 = .ok (.ldc2_w 48, 3) := by decide +kernel
theorem dX0_insert_13 : decode cX0_insert 13 = .ok (.lcmp, 1) := by decide +kernel
theorem dX0_insert_14 : decode cX0_insert 14 = .ok (.ifCond .le 5, 3) := by decide +kernel
theorem dX0_insert_17 : decode cX0_insert 17 = .ok (.iconst 0, 1) := by decide +kernel
theorem dX0_insert_18 : decode cX0_insert 18 = .ok (.ireturn, 1) := by decide +kernel
theorem dX0_insert_19 : decode cX0_insert 19 = .ok (.aload_n 0, 1) := by decide +kernel
theorem dX0_insert_20 : decode cX0_insert 20 = .ok (.getfield 18, 3) := by decide +kernel
theorem dX0_insert_23 : decode cX0_insert 23 = .ok (.iload_n 1, 1) := by decide +kernel
theorem dX0_insert_24 : decode cX0_insert 24 = .ok (.isub, 1) := by decide +kernel
theorem dX0_insert_25 : decode cX0_insert 25 = .ok (.istore 5, 2) := by decide +kernel
theorem dX0_insert_27 : decode cX0_insert 27 = .ok (.iload_n 1, 1) := by decide +kernel
theorem dX0_insert_28 : decode cX0_insert 28 = .ok (.iconst 4, 1) := by decide +kernel
theorem dX0_insert_29 : decode cX0_insert 29 = .ok (.imul, 1) := by decide +kernel
theorem dX0_insert_30 : decode cX0_insert 30 = .ok (.istore 6, 2) := by decide +kernel
theorem dX0_insert_32 : decode cX0_insert 32 = .ok (.aload_n 0, 1) := by decide +kernel
theorem dX0_insert_33 : decode cX0_insert 33 = .ok (.getfield 9, 3) := by decide +kernel
theorem dX0_insert_36 : decode cX0_insert 36 = .ok (.iload 6, 2) := by decide +kernel
theorem dX0_insert_38 : decode cX0_insert 38 = .ok (.aload_n 0, 1) := by decide +kernel
theorem dX0_insert_39 : decode cX0_insert 39 = .ok (.getfield 9, 3) := by decide +kernel
theorem dX0_insert_42 : decode cX0_insert 42 = .ok (.iload 6, 2) := by decide +kernel
theorem dX0_insert_44 : decode cX0_insert 44 = .ok (.iconst 4, 1) := by decide +kernel
theorem dX0_insert_45 : decode cX0_insert 45 = .ok (.iadd, 1) := by decide +kernel
theorem dX0_insert_46 : decode cX0_insert 46 = .ok (.iload 5, 2) := by decide +kernel
theorem dX0_insert_48 : decode cX0_insert 48 = .ok (.iconst 4, 1) := by decide +kernel
theorem dX0_insert_49 : decode cX0_insert 49 = .ok (.imul, 1) := by decide +kernel
theorem dX0_insert_50 : decode cX0_insert 50 = .ok (.invokestatic 22, 3) := by decide +kernel
theorem dX0_insert_53 : decode cX0_insert 53 = .ok (.aload_n 0, 1) := by decide +kernel
theorem dX0_insert_54 : decode cX0_insert 54 = .ok (.getfield 15, 3) := by decide +kernel
theorem dX0_insert_57 : decode cX0_insert 57 = .ok (.iload_n 1, 1) := by decide +kernel
theorem dX0_insert_58 : decode cX0_insert 58 = .ok (.aload_n 0, 1) := by decide +kernel
theorem dX0_insert_59 : decode cX0_insert 59 = .ok (.getfield 15, 3) := by decide +kernel
theorem dX0_insert_62 : decode cX0_insert 62 = .ok (.iload_n 1, 1) := by decide +kernel
theorem dX0_insert_63 : decode cX0_insert 63 = .ok (.iconst 1, 1) := by decide +kernel
theorem dX0_insert_64 : decode cX0_insert 64 = .ok (.iadd, 1) := by decide +kernel
theorem dX0_insert_65 : decode cX0_insert 65 = .ok (.iload 5, 2) := by decide +kernel
theorem dX0_insert_67 : decode cX0_insert 67 = .ok (.invokestatic 22, 3) := by decide +kernel
theorem dX0_insert_70 : decode cX0_insert 70 = .ok (.aload_n 2, 1) := by decide +kernel
theorem dX0_insert_71 : decode cX0_insert 71 = .ok (.iconst 0, 1) := by decide +kernel
theorem dX0_insert_72 : decode cX0_insert 72 = .ok (.aload_n 0, 1) := by decide +kernel
theorem dX0_insert_73 : decode cX0_insert 73 = .ok (.getfield 9, 3) := by decide +kernel
theorem dX0_insert_76 : decode cX0_insert 76 = .ok (.iload 6, 2) := by decide +kernel
theorem dX0_insert_78 : decode cX0_insert 78 = .ok (.iconst 4, 1) := by decide +kernel
theorem dX0_insert_79 : decode cX0_insert 79 = .ok (.invokestatic 22, 3) := by decide +kernel
theorem dX0_insert_82 : decode cX0_insert 82 = .ok (.aload_n 0, 1) := by decide +kernel
theorem dX0_insert_83 : decode cX0_insert 83 = .ok (.getfield 15, 3) := by decide +kernel
theorem dX0_insert_86 : decode cX0_insert 86 = .ok (.iload_n 1, 1) := by decide +kernel
theorem dX0_insert_87 : decode cX0_insert 87 = .ok (.lload_n 3, 1) := by decide +kernel
theorem dX0_insert_88 : decode cX0_insert 88 = .ok (.l2i, 1) := by decide +kernel
theorem dX0_insert_89 : decode cX0_insert 89 = .ok (.iastore, 1) := by decide +kernel
theorem dX0_insert_90 : decode cX0_insert 90 = .ok (.aload_n 0, 1) := by decide +kernel
theorem dX0_insert_91 : decode cX0_insert 91 = .ok (.dup, 1) := by decide +kernel
theorem dX0_insert_92 : decode cX0_insert 92 = .ok (.getfield 18, 3) := by decide +kernel
theorem dX0_insert_95 : decode cX0_insert 95 = .ok (.iconst 1, 1) := by decide +kernel
theorem dX0_insert_96 : decode cX0_insert 96 = .ok (.iadd, 1) := by decide +kernel
theorem dX0_insert_97 : decode cX0_insert 97 = .ok (.putfield 18, 3) := by decide +kernel
theorem dX0_insert_100 : decode cX0_insert 100 = .ok (.iconst 1, 1) := by decide +kernel
theorem dX0_insert_101 : decode cX0_insert 101 = .ok (.ireturn, 1) := by decide +kernel
theorem dX0_remove_0 : decode cX0_remove 0 = .ok (.aload_n 0, 1) := by decide +kernel
theorem dX0_remove_1 : decode cX0_remove 1 = .ok (.getfield 18, 3) := by decide +kernel
theorem dX0_remove_4 : decode cX0_remove 4 = .ok (.iload_n 1, 1) := by decide +kernel
theorem dX0_remove_5 : decode cX0_remove 5 = .ok (.isub, 1) := by decide +kernel
theorem dX0_remove_6 : decode cX0_remove 6 = .ok (.iconst 1, 1) := by decide +kernel
theorem dX0_remove_7 : decode cX0_remove 7 = .ok (.isub, 1) := by decide +kernel
theorem dX0_remove_8 : decode cX0_remove 8 = .ok (.istore_n 2, 1) := by decide +kernel
theorem dX0_remove_9 : decode cX0_remove 9 = .ok (.iload_n 1, 1) := by decide +kernel
theorem dX0_remove_10 : decode cX0_remove 10 = .ok (.iconst 4, 1) := by decide +kernel
theorem dX0_remove_11 : decode cX0_remove 11 = .ok (.imul, 1) := by decide +kernel
theorem dX0_remove_12 : decode cX0_remove 12 = .ok (.istore_n 3, 1) := by decide +kernel
theorem dX0_remove_13 : decode cX0_remove 13 = .ok (.aload_n 0, 1) := by decide +kernel
theorem dX0_remove_14 : decode cX0_remove 14 = .ok (.getfield 9, 3) := by decide +kernel
theorem dX0_remove_17 : decode cX0_remove 17 = .ok (.iload_n 3, 1) := by decide +kernel
theorem dX0_remove_18 : decode cX0_remove 18 = .ok (.iconst 4, 1) := by decide +kernel
theorem dX0_remove_19 : decode cX0_remove 19 = .ok (.iadd, 1) := by decide +kernel
theorem dX0_remove_20 : decode cX0_remove 20 = .ok (.aload_n 0, 1) := by decide +kernel
theorem dX0_remove_21 : decode cX0_remove 21 = .ok (.getfield 9, 3) := by decide +kernel
theorem dX0_remove_24 : decode cX0_remove 24 = .ok (.iload_n 3, 1) := by decide +kernel
theorem dX0_remove_25 : decode cX0_remove 25 = .ok (.iload_n 2, 1) := by decide +kernel
theorem dX0_remove_26 : decode cX0_remove 26 = .ok (.iconst 4, 1) := by decide +kernel
theorem dX0_remove_27 : decode cX0_remove 27 = .ok (.imul, 1) := by decide +kernel
theorem dX0_remove_28 : decode cX0_remove 28 = .ok (.invokestatic 22, 3) := by decide +kernel
theorem dX0_remove_31 : decode cX0_remove 31 = .ok (.aload_n 0, 1) := by decide +kernel
theorem dX0_remove_32 : decode cX0_remove 32 = .ok (.getfield 15, 3) := by decide +kernel
theorem dX0_remove_35 : decode cX0_remove 35 = .ok (.iload_n 1, 1) := by decide +kernel
theorem dX0_remove_36 : decode cX0_remove 36 = .ok (.iconst 1, 1) := by decide +kernel
theorem dX0_remove_37 : decode cX0_remove 37 = .ok (.iadd, 1) := by decide +kernel
theorem dX0_remove_38 : decode cX0_remove 38 = .ok (.aload_n 0, 1) := by decide +kernel
theorem dX0_remove_39 : decode cX0_remove 39 = .ok (.getfield 15, 3) := by decide +kernel
theorem dX0_remove_42 : decode cX0_remove 42 = .ok (.iload_n 1, 1) := by decide +kernel
theorem dX0_remove_43 : decode cX0_remove 43 = .ok (.iload_n 2, 1) := by decide +kernel
theorem dX0_remove_44 : decode cX0_remove 44 = .ok (.invokestatic 22, 3) := by decide +kernel
theorem dX0_remove_47 : decode cX0_remove 47 = .ok (.aload_n 0, 1) := by decide +kernel
theorem dX0_remove_48 : decode cX0_remove 48 = .ok (.dup, 1) := by decide +kernel
theorem dX0_remove_49 : decode cX0_remove 49 = .ok (.getfield 18, 3) := by decide +kernel
theorem dX0_remove_52 : decode cX0_remove 52 = .ok (.iconst 1, 1) := by decide +kernel
theorem dX0_remove_53 : decode cX0_remove 53 = .ok (.isub, 1) := by decide +kernel
theorem dX0_remove_54 : decode cX0_remove 54 = .ok (.putfield 18, 3) := by decide +kernel
theorem dX0_remove_57 : decode cX0_remove 57 = .ok (.return_, 1) := by decide +kernel
theorem dX6_init_0 : decode cX6_init 0 = .ok (.aload_n 0, 1) := by decide +kernel
theorem dX6_init_1 : decode cX6_init 1 = .ok (.invokespecial 1, 3) := by decide +kernel
theorem dX6_init_4 : decode cX6_init 4 = .ok (.aload_n 0, 1) := by decide +kernel
theorem dX6_init_5 : decode cX6_init 5 = .ok (.new 7, 3) := by decide +kernel
theorem dX6_init_8 : decode cX6_init 8 = .ok (.dup, 1) := by decide +kernel
theorem dX6_init_9 : decode cX6_init 9 = .ok (.invokespecial 9, 3) := by decide +kernel
theorem dX6_init_12 : decode cX6_init 12 = .ok (.putfield 10, 3) := by decide +kernel
theorem dX6_init_15 : decode cX6_init 15 = .ok (.aload_n 0, 1) := by decide +kernel
theorem dX6_init_16 : decode cX6_init 16 = .ok (.new 7, 3) := by decide +kernel
theorem dX6_init_19 : decode cX6_init 19 = .ok (.dup, 1) := by decide +kernel
theorem dX6_init_20 : decode cX6_init 20 = .ok (.invokespecial 9, 3) := by decide +kernel
theorem dX6_init_23 : decode cX6_init 23 = .ok (.putfield 16, 3) := by decide +kernel
theorem dX6_init_26 : decode cX6_init 26 = .ok (.aload_n 0, 1) := by decide +kernel
theorem dX6_init_27 : decode cX6_init 27 = .ok (.aconst_null, 1) := by decide +kernel
theorem dX6_init_28 : decode cX6_init 28 = .ok (.putfield 19, 3) := by decide +kernel
theorem dX6_init_31 : decode cX6_init 31 = .ok (.aload_n 0, 1) := by decide +kernel
theorem dX6_init_32 : decode cX6_init 32 = .ok (.iconst 0, 1) := by decide +kernel
theorem dX6_init_33 : decode cX6_init 33 = .ok (.putfield 23, 3) := by decide +kernel
theorem dX6_init_36 : decode cX6_init 36 = .ok (.aload_n 0, 1) := by decide +kernel
theorem dX6_init_37 : decode cX6_init 37 = .ok (.iconst 0, 1) := by decide +kernel
theorem dX6_init_38 : decode cX6_init 38 = .ok (.putfield 27, 3) := by decide +kernel
theorem dX6_init_41 : decode cX6_init 41 = .ok (.aload_n 0, 1) := by decide +kernel
theorem dX6_init_42 : decode cX6_init 42 = .ok (.iconst 0, 1) := by decide +kernel
theorem dX6_init_43 : decode cX6_init 43 = .ok (.putfield 30, 3) := by decide +kernel
theorem dX6_init_46 : decode cX6_init 46 = .ok (.return_, 1) := by decide +kernel
theorem dX6_begin_0 : decode cX6_begin 0 = .ok (.aload_n 0, 1) := by decide +kernel
theorem dX6_begin_1 : decode cX6_begin 1 = .ok (.iload_n 1, 1) := by decide +kernel
theorem dX6_begin_2 : decode cX6_begin 2 = .ok (.putfield 23, 3) := by decide +kernel
theorem dX6_begin_5 : decode cX6_begin 5 = .ok (.aload_n 0, 1) := by decide +kernel
theorem dX6_begin_6 : decode cX6_begin 6 = .ok (.aload_n 2, 1) := by decide +kernel
theorem dX6_begin_7 : decode cX6_begin 7 = .ok (.putfield 19, 3) := by decide +kernel
theorem dX6_begin_10 : decode cX6_begin 10 = .ok (.aload_n 0, 1) := by decide +kernel
theorem dX6_begin_11 : decode cX6_begin 11 = .ok (.iconst 0, 1) := by decide +kernel
theorem dX6_begin_12 : decode cX6_begin 12 = .ok (.putfield 30, 3) := by decide +kernel
theorem dX6_begin_15 : decode cX6_begin 15 = .ok (.return_, 1) := by decide +kernel
theorem dX6_end_0 : decode cX6_end 0 = .ok (.aload_n 0, 1) := by decide +kernel
theorem dX6_end_1 : decode cX6_end 1 = .ok (.iconst 0, 1) := by decide +kernel
theorem dX6_end_2 : decode cX6_end 2 = .ok (.putfield 23, 3) := by decide +kernel
theorem dX6_end_5 : decode cX6_end 5 = .ok (.aload_n 0, 1) := by decide +kernel
theorem dX6_end_6 : decode cX6_end 6 = .ok (.aconst_null, 1) := by decide +kernel
theorem dX6_end_7 : decode cX6_end 7 = .ok (.putfield 19, 3) := by decide +kernel
theorem dX6_end_10 : decode cX6_end 10 = .ok (.return_, 1) := by decide +kernel
theorem dX6_isThere_0 : decode cX6_isThere 0 = .ok (.aload_n 0, 1) := by decide +kernel
theorem dX6_isThere_1 : decode cX6_isThere 1 = .ok (.getfield 23, 3) := by decide +kernel
theorem dX6_isThere_4 : decode cX6_isThere 4 = .ok (.ifCond .le 7, 3) := by decide +kernel
theorem dX6_isThere_7 : decode cX6_isThere 7 = .ok (.iconst 1, 1) := by decide +kernel
theorem dX6_isThere_8 : decode cX6_isThere 8 = .ok (.goto 4, 3) := by decide +kernel
theorem dX6_isThere_11 : decode cX6_isThere 11 = .ok (.iconst 0, 1) := by decide +kernel
theorem dX6_isThere_12 : decode cX6_isThere 12 = .ok (.ireturn, 1) := by decide +kernel
theorem dX6_isOf_0 : decode cX6_isOf 0 = .ok (.aload_n 0, 1) := by decide +kernel
theorem dX6_isOf_1 : decode cX6_isOf 1 = .ok (.getfield 19, 3) := by decide +kernel
theorem dX6_isOf_4 : decode cX6_isOf 4 = .ok (.ifnull 29, 3) := by decide +kernel
theorem dX6_isOf_7 : decode cX6_isOf 7 = .ok (.aload_n 0, 1) := by decide +kernel
theorem dX6_isOf_8 : decode cX6_isOf 8 = .ok (.getfield 19, 3) := by decide +kernel
theorem dX6_isOf_11 : decode cX6_isOf 11 = .ok (.getfield 33, 3) := by decide +kernel
theorem dX6_isOf_14 : decode cX6_isOf 14 = .ok (.aload_n 1, 1) := by decide +kernel
theorem dX6_isOf_15 : decode cX6_isOf 15 = .ok (.if_acmp .eq 14, 3) := by decide +kernel
theorem dX6_isOf_18 : decode cX6_isOf 18 = .ok (.aload_n 0, 1) := by decide +kernel
theorem dX6_isOf_19 : decode cX6_isOf 19 = .ok (.getfield 19, 3) := by decide +kernel
theorem dX6_isOf_22 : decode cX6_isOf 22 = .ok (.getfield 39, 3) := by decide +kernel
theorem dX6_isOf_25 : decode cX6_isOf 25 = .ok (.aload_n 1, 1) := by decide +kernel
theorem dX6_isOf_26 : decode cX6_isOf 26 = .ok (.if_acmp .ne 7, 3) := by decide +kernel
theorem dX6_isOf_29 : decode cX6_isOf 29 = .ok (.iconst 1, 1) := by decide +kernel
theorem dX6_isOf_30 : decode cX6_isOf 30 = .ok (.goto 4, 3) := by decide +kernel
theorem dX6_isOf_33 : decode cX6_isOf 33 = .ok (.iconst 0, 1) := by decide +kernel
theorem dX6_isOf_34 : decode cX6_isOf 34 = .ok (.ireturn, 1) := by decide +kernel
theorem dX6_depth_0 : decode cX6_depth 0 = .ok (.aload_n 0, 1) := by decide +kernel
theorem dX6_depth_1 : decode cX6_depth 1 = .ok (.getfield 19, 3) := by decide +kernel
theorem dX6_depth_4 : decode cX6_depth 4 = .ok (.ifnonnull 7, 3) := by decide +kernel
theorem dX6_depth_7 : decode cX6_depth 7 = .ok (.iconst 0, 1) := by decide +kernel
theorem dX6_depth_8 : decode cX6_depth 8 = .ok (.goto 10, 3) := by decide +kernel
theorem dX6_depth_11 : decode cX6_depth 11 = .ok (.aload_n 0, 1) := by decide +kernel
theorem dX6_depth_12 : decode cX6_depth 12 = .ok (.getfield 19, 3) := by decide +kernel
theorem dX6_depth_15 : decode cX6_depth 15 = .ok (.getfield 42, 3) := by decide +kernel
theorem dX6_depth_18 : decode cX6_depth 18 = .ok (.ireturn, 1) := by decide +kernel
theorem dX6_latest_0 : decode cX6_latest 0 = .ok (.aload_n 0, 1) := by decide +kernel
theorem dX6_latest_1 : decode cX6_latest 1 = .ok (.getfield 27, 3) := by decide +kernel
theorem dX6_latest_4 : decode cX6_latest 4 = .ok (.ifCond .le 10, 3) := by decide +kernel
theorem dX6_latest_7 : decode cX6_latest 7 = .ok (.aload_n 0, 1) := by decide +kernel
theorem dX6_latest_8 : decode cX6_latest 8 = .ok (.getfield 16, 3) := by decide +kernel
theorem dX6_latest_11 : decode cX6_latest 11 = .ok (.goto 7, 3) := by decide +kernel
theorem dX6_latest_14 : decode cX6_latest 14 = .ok (.aload_n 0, 1) := by decide +kernel
theorem dX6_latest_15 : decode cX6_latest 15 = .ok (.getfield 10, 3) := by decide +kernel
theorem dX6_latest_18 : decode cX6_latest 18 = .ok (.areturn, 1) := by decide +kernel
theorem dX6_remake_0 : decode cX6_remake 0 = .ok (.aload_n 0, 1) := by decide +kernel
theorem dX6_remake_1 : decode cX6_remake 1 = .ok (.getfield 19, 3) := by decide +kernel
theorem dX6_remake_4 : decode cX6_remake 4 = .ok (.ifnull 13, 3) := by decide +kernel
theorem dX6_remake_7 : decode cX6_remake 7 = .ok (.aload_n 0, 1) := by decide +kernel
theorem dX6_remake_8 : decode cX6_remake 8 = .ok (.getfield 19, 3) := by decide +kernel
theorem dX6_remake_11 : decode cX6_remake 11 = .ok (.invokevirtual 45, 3) := by decide +kernel
theorem dX6_remake_14 : decode cX6_remake 14 = .ok (.ifCond .ne 5, 3) := by decide +kernel
theorem dX6_remake_17 : decode cX6_remake 17 = .ok (.iconst 1, 1) := by decide +kernel
theorem dX6_remake_18 : decode cX6_remake 18 = .ok (.ireturn, 1) := by decide +kernel
theorem dX6_remake_19 : decode cX6_remake 19 = .ok (.aload_n 0, 1) := by decide +kernel
theorem dX6_remake_20 : decode cX6_remake 20 = .ok (.getfield 16, 3) := by decide +kernel
theorem dX6_remake_23 : decode cX6_remake 23 = .ok (.invokevirtual 49, 3) := by decide +kernel
theorem dX6_remake_26 : decode cX6_remake 26 = .ok (.aload_n 0, 1) := by decide +kernel
theorem dX6_remake_27 : decode cX6_remake 27 = .ok (.getfield 19, 3) := by decide +kernel
theorem dX6_remake_30 : decode cX6_remake 30 = .ok (.aload_n 0, 1) := by decide +kernel
theorem dX6_remake_31 : decode cX6_remake 31 = .ok (.getfield 16, 3) := by decide +kernel
theorem dX6_remake_34 : decode cX6_remake 34 = .ok (.invokevirtual 52, 3) := by decide +kernel
theorem dX6_remake_37 : decode cX6_remake 37 = .ok (.ifCond .ne 5, 3) := by decide +kernel
theorem dX6_remake_40 : decode cX6_remake 40 = .ok (.iconst 0, 1) := by decide +kernel
theorem dX6_remake_41 : decode cX6_remake 41 = .ok (.ireturn, 1) := by decide +kernel
theorem dX6_remake_42 : decode cX6_remake 42 = .ok (.aload_n 0, 1) := by decide +kernel
theorem dX6_remake_43 : decode cX6_remake 43 = .ok (.aload_n 0, 1) := by decide +kernel
theorem dX6_remake_44 : decode cX6_remake 44 = .ok (.getfield 16, 3) := by decide +kernel
theorem dX6_remake_47 : decode cX6_remake 47 = .ok (.aload_n 0, 1) := by decide +kernel
theorem dX6_remake_48 : decode cX6_remake 48 = .ok (.getfield 10, 3) := by decide +kernel
theorem dX6_remake_51 : decode cX6_remake 51 = .ok (.invokevirtual 56, 3) := by decide +kernel
theorem dX6_remake_54 : decode cX6_remake 54 = .ok (.putfield 27, 3) := by decide +kernel
theorem dX6_remake_57 : decode cX6_remake 57 = .ok (.iconst 1, 1) := by decide +kernel
theorem dX6_remake_58 : decode cX6_remake 58 = .ok (.ireturn, 1) := by decide +kernel
theorem dX6_settle_0 : decode cX6_settle 0 = .ok (.iload_n 1, 1) := by decide +kernel
theorem dX6_settle_1 : decode cX6_settle 1 = .ok (.ifCond .eq 11, 3) := by decide +kernel
theorem dX6_settle_4 : decode cX6_settle 4 = .ok (.aload_n 0, 1) := by decide +kernel
theorem dX6_settle_5 : decode cX6_settle 5 = .ok (.aload_n 0, 1) := by decide +kernel
theorem dX6_settle_6 : decode cX6_settle 6 = .ok (.getfield 27, 3) := by decide +kernel
theorem dX6_settle_9 : decode cX6_settle 9 = .ok (.putfield 30, 3) := by decide +kernel
theorem dX6_settle_12 : decode cX6_settle 12 = .ok (.iload_n 1, 1) := by decide +kernel
theorem dX6_settle_13 : decode cX6_settle 13 = .ok (.ifCond .eq 28, 3) := by decide +kernel
theorem dX6_settle_16 : decode cX6_settle 16 = .ok (.aload_n 0, 1) := by decide +kernel
theorem dX6_settle_17 : decode cX6_settle 17 = .ok (.getfield 27, 3) := by decide +kernel
theorem dX6_settle_20 : decode cX6_settle 20 = .ok (.ifCond .le 21, 3) := by decide +kernel
theorem dX6_settle_23 : decode cX6_settle 23 = .ok (.aload_n 0, 1) := by decide +kernel
theorem dX6_settle_24 : decode cX6_settle 24 = .ok (.getfield 10, 3) := by decide +kernel
theorem dX6_settle_27 : decode cX6_settle 27 = .ok (.astore_n 2, 1) := by decide +kernel
theorem dX6_settle_28 : decode cX6_settle 28 = .ok (.aload_n 0, 1) := by decide +kernel
theorem dX6_settle_29 : decode cX6_settle 29 = .ok (.aload_n 0, 1) := by decide +kernel
theorem dX6_settle_30 : decode cX6_settle 30 = .ok (.getfield 16, 3) := by decide +kernel
theorem dX6_settle_33 : decode cX6_settle 33 = .ok (.putfield 10, 3) := by decide +kernel
theorem dX6_settle_36 : decode cX6_settle 36 = .ok (.aload_n 0, 1) := by decide +kernel
theorem dX6_settle_37 : decode cX6_settle 37 = .ok (.aload_n 2, 1) := by decide +kernel
theorem dX6_settle_38 : decode cX6_settle 38 = .ok (.putfield 16, 3) := by decide +kernel
theorem dX6_settle_41 : decode cX6_settle 41 = .ok (.aload_n 0, 1) := by decide +kernel
theorem dX6_settle_42 : decode cX6_settle 42 = .ok (.iconst 0, 1) := by decide +kernel
theorem dX6_settle_43 : decode cX6_settle 43 = .ok (.putfield 27, 3) := by decide +kernel
theorem dX6_settle_46 : decode cX6_settle 46 = .ok (.return_, 1) := by decide +kernel
theorem dX9_init_0 : decode cX9_init 0 = .ok (.aload_n 0, 1) := by decide +kernel
theorem dX9_init_1 : decode cX9_init 1 = .ok (.invokespecial 3, 3) := by decide +kernel
theorem dX9_init_4 : decode cX9_init 4 = .ok (.aload_n 0, 1) := by decide +kernel
theorem dX9_init_5 : decode cX9_init 5 = .ok (.iconst 4, 1) := by decide +kernel
theorem dX9_init_6 : decode cX9_init 6 = .ok (.newarray .int, 2) := by decide +kernel
theorem dX9_init_8 : decode cX9_init 8 = .ok (.putfield 9, 3) := by decide +kernel
theorem dX9_init_11 : decode cX9_init 11 = .ok (.aload_n 0, 1) := by decide +kernel
theorem dX9_init_12 : decode cX9_init 12 = .ok (.aload_n 1, 1) := by decide +kernel
theorem dX9_init_13 : decode cX9_init 13 = .ok (.putfield 15, 3) := by decide +kernel
theorem dX9_init_16 : decode cX9_init 16 = .ok (.aload_n 0, 1) := by decide +kernel
theorem dX9_init_17 : decode cX9_init 17 = .ok (.aload_n 2, 1) := by decide +kernel
theorem dX9_init_18 : decode cX9_init 18 = .ok (.putfield 19, 3) := by decide +kernel
theorem dX9_init_21 : decode cX9_init 21 = .ok (.aload_n 0, 1) := by decide +kernel
theorem dX9_init_22 : decode cX9_init 22 = .ok (.iconst 1, 1) := by decide +kernel
theorem dX9_init_23 : decode cX9_init 23 = .ok (.aload_n 1, 1) := by decide +kernel
theorem dX9_init_24 : decode cX9_init 24 = .ok (.invokevirtual 22, 3) := by decide +kernel
theorem dX9_init_27 : decode cX9_init 27 = .ok (.aload_n 2, 1) := by decide +kernel
theorem dX9_init_28 : decode cX9_init 28 = .ok (.invokevirtual 22, 3) := by decide +kernel
theorem dX9_init_31 : decode cX9_init 31 = .ok (.invokestatic 28, 3) := by decide +kernel
theorem dX9_init_34 : decode cX9_init 34 = .ok (.iadd, 1) := by decide +kernel
theorem dX9_init_35 : decode cX9_init 35 = .ok (.putfield 34, 3) := by decide +kernel
theorem dX9_init_38 : decode cX9_init 38 = .ok (.return_, 1) := by decide +kernel
theorem dX9_isTouched_0 : decode cX9_isTouched 0 = .ok (.aload_n 0, 1) := by decide +kernel
theorem dX9_isTouched_1 : decode cX9_isTouched 1 = .ok (.getfield 15, 3) := by decide +kernel
theorem dX9_isTouched_4 : decode cX9_isTouched 4 = .ok (.getfield 37, 3) := by decide +kernel
theorem dX9_isTouched_7 : decode cX9_isTouched 7 = .ok (.ifCond .gt 13, 3) := by decide +kernel
theorem dX9_isTouched_10 : decode cX9_isTouched 10 = .ok (.aload_n 0, 1) := by decide +kernel
theorem dX9_isTouched_11 : decode cX9_isTouched 11 = .ok (.getfield 19, 3) := by decide +kernel
theorem dX9_isTouched_14 : decode cX9_isTouched 14 = .ok (.getfield 37, 3) := by decide +kernel
theorem dX9_isTouched_17 : decode cX9_isTouched 17 = .ok (.ifCond .le 7, 3) := by decide +kernel
theorem dX9_isTouched_20 : decode cX9_isTouched 20 = .ok (.iconst 1, 1) := by decide +kernel
theorem dX9_isTouched_21 : decode cX9_isTouched 21 = .ok (.goto 4, 3) := by decide +kernel
theorem dX9_isTouched_24 : decode cX9_isTouched 24 = .ok (.iconst 0, 1) := by decide +kernel
theorem dX9_isTouched_25 : decode cX9_isTouched 25 = .ok (.ireturn, 1) := by decide +kernel
end
section
theorem dX1_init_0 : decode cX1_init 0 = .ok (.aload_n 0, 1) := by decide +kernel
theorem dX1_init_1 : decode cX1_init 1 = .ok (.aload_n 1, 1) := by decide +kernel
theorem dX1_init_2 : decode cX1_init 2 = .ok (.aload_n 1, 1) := by decide +kernel
theorem dX1_init_3 : decode cX1_init 3 = .ok (.invokespecial 3, 3) := by decide +kernel
theorem dX1_init_6 : decode cX1_init 6 = .ok (.aload_n 0, 1) := by decide +kernel
theorem dX1_init_7 : decode cX1_init 7 = .ok (.aload_n 2, 1) := by decide +kernel
theorem dX1_init_8 : decode cX1_init 8 = .ok (.putfield 9, 3) := by decide +kernel
theorem dX1_init_11 : decode cX1_init 11 = .ok (.return_, 1) := by decide +kernel
theorem dX1_makeInto_0 : decode cX1_makeInto 0 = .ok (.aload_n 0, 1) := by decide +kernel
theorem dX1_makeInto_1 : decode cX1_makeInto 1 = .ok (.getfield 15, 3) := by decide +kernel
theorem dX1_makeInto_4 : decode cX1_makeInto 4 = .ok (.invokevirtual 19, 3) := by decide +kernel
theorem dX1_makeInto_7 : decode cX1_makeInto 7 = .ok (.astore_n 2, 1) := by decide +kernel
theorem dX1_makeInto_8 : decode cX1_makeInto 8 = .ok (.iconst 1, 1) := by decide +kernel
theorem dX1_makeInto_9 : decode cX1_makeInto 9 = .ok (.istore_n 3, 1) := by decide +kernel
theorem dX1_makeInto_10 : decode cX1_makeInto 10 = .ok (.iconst 0, 1) := by decide +kernel
theorem dX1_makeInto_11 : decode cX1_makeInto 11 = .ok (.istore 4, 2) := by decide +kernel
theorem dX1_makeInto_13 : decode cX1_makeInto 13 = .ok (.iload 4, 2) := by decide +kernel
theorem dX1_makeInto_15 : decode cX1_makeInto 15 = .ok (.aload_n 2, 1) := by decide +kernel
theorem dX1_makeInto_16 : decode cX1_makeInto 16 = .ok (.getfield 25, 3) := by decide +kernel
theorem dX1_makeInto_19 : decode cX1_makeInto 19 = .ok (.if_icmp .ge 80, 3) := by decide +kernel
theorem dX1_makeInto_22 : decode cX1_makeInto 22 = .ok (.iload_n 3, 1) := by decide +kernel
theorem dX1_makeInto_23 : decode cX1_makeInto 23 = .ok (.ifCond .eq 76, 3) := by decide +kernel
theorem dX1_makeInto_26 : decode cX1_makeInto 26 = .ok (.iconst 0, 1) := by decide +kernel
theorem dX1_makeInto_27 : decode cX1_makeInto 27 = .ok (.istore 5, 2) := by decide +kernel
theorem dX1_makeInto_29 : decode cX1_makeInto 29 = .ok (.iload 5, 2) := by decide +kernel
theorem dX1_makeInto_31 : decode cX1_makeInto 31 = .ok (.iconst 4, 1) := by decide +kernel
theorem dX1_makeInto_32 : decode cX1_makeInto 32 = .ok (.if_icmp .ge 44, 3) := by decide +kernel
theorem dX1_makeInto_35 : decode cX1_makeInto 35 = .ok (.aload_n 0, 1) := by decide +kernel
theorem dX1_makeInto_36 : decode cX1_makeInto 36 = .ok (.getfield 31, 3) := by decide +kernel
theorem dX1_makeInto_39 : decode cX1_makeInto 39 = .ok (.iload 5, 2) := by decide +kernel
theorem dX1_makeInto_41 : decode cX1_makeInto 41 = .ok (.aload_n 0, 1) := by decide +kernel
theorem dX1_makeInto_42 : decode cX1_makeInto 42 = .ok (.getfield 9, 3) := by decide +kernel
theorem dX1_makeInto_45 : decode cX1_makeInto 45 = .ok (.iload 5, 2) := by decide +kernel
theorem dX1_makeInto_47 : decode cX1_makeInto 47 = .ok (.iaload, 1) := by decide +kernel
theorem dX1_makeInto_48 : decode cX1_makeInto 48 = .ok (.iconst (-1), 1) := by decide +kernel
theorem dX1_makeInto_49 : decode cX1_makeInto 49 = .ok (.if_icmp .ne 7, 3) := by decide +kernel
theorem dX1_makeInto_52 : decode cX1_makeInto 52 = .ok (.iconst 0, 1) := by decide +kernel
theorem dX1_makeInto_53 : decode cX1_makeInto 53 = .ok (.goto 16, 3) := by decide +kernel
theorem dX1_makeInto_56 : decode cX1_makeInto 56 = .ok (.aload_n 2, 1) := by decide +kernel
theorem dX1_makeInto_57 : decode cX1_makeInto 57 = .ok (.iload 4, 2) := by decide +kernel
theorem dX1_makeInto_59 : decode cX1_makeInto 59 = .ok (.aload_n 0, 1) := by decide +kernel
theorem dX1_makeInto_60 : decode cX1_makeInto 60 = .ok (.getfield 9, 3) := by decide +kernel
theorem dX1_makeInto_63 : decode cX1_makeInto 63 = .ok (.iload 5, 2) := by decide +kernel
theorem dX1_makeInto_65 : decode cX1_makeInto 65 = .ok (.iaload, 1) := by decide +kernel
theorem dX1_makeInto_66 : decode cX1_makeInto 66 = .ok (.invokevirtual 34, 3) := by decide +kernel
theorem dX1_makeInto_69 : decode cX1_makeInto 69 = .ok (.iastore, 1) := by decide +kernel
theorem dX1_makeInto_70 : decode cX1_makeInto 70 = .ok (.iinc 5 1, 3) := by decide +kernel
theorem dX1_makeInto_73 : decode cX1_makeInto 73 = .ok (.goto (-44), 3) := by decide +kernel
theorem dX1_makeInto_76 : decode cX1_makeInto 76 = .ok (.aload_n 1, 1) := by decide +kernel
theorem dX1_makeInto_77 : decode cX1_makeInto 77 = .ok (.aload_n 0, 1) := by decide +kernel
theorem dX1_makeInto_78 : decode cX1_makeInto 78 = .ok (.getfield 31, 3) := by decide +kernel
theorem dX1_makeInto_81 : decode cX1_makeInto 81 = .ok (.aload_n 2, 1) := by decide +kernel
theorem dX1_makeInto_82 : decode cX1_makeInto 82 = .ok (.getfield 38, 3) := by decide +kernel
theorem dX1_makeInto_85 : decode cX1_makeInto 85 = .ok (.iload 4, 2) := by decide +kernel
theorem dX1_makeInto_87 : decode cX1_makeInto 87 = .ok (.iaload, 1) := by decide +kernel
theorem dX1_makeInto_88 : decode cX1_makeInto 88 = .ok (.i2l, 1) := by decide +kernel
theorem dX1_makeInto_89 : decode cX1_makeInto 89 = .ok (.invokevirtual 41, 3) := by decide +kernel
theorem dX1_makeInto_92 : decode cX1_makeInto 92 = .ok (.istore_n 3, 1) := by decide +kernel
theorem dX1_makeInto_93 : decode cX1_makeInto 93 = .ok (.iinc 4 1, 3) := by decide +kernel
theorem dX1_makeInto_96 : decode cX1_makeInto 96 = .ok (.goto (-83), 3) := by decide +kernel
theorem dX1_makeInto_99 : decode cX1_makeInto 99 = .ok (.iload_n 3, 1) := by decide +kernel
theorem dX1_makeInto_100 : decode cX1_makeInto 100 = .ok (.ireturn, 1) := by decide +kernel
theorem dX2_init_0 : decode cX2_init 0 = .ok (.aload_n 0, 1) := by decide +kernel
theorem dX2_init_1 : decode cX2_init 1 = .ok (.aload_n 1, 1) := by decide +kernel
theorem dX2_init_2 : decode cX2_init 2 = .ok (.aload_n 2, 1) := by decide +kernel
theorem dX2_init_3 : decode cX2_init 3 = .ok (.invokespecial 1, 3) := by decide +kernel
theorem dX2_init_6 : decode cX2_init 6 = .ok (.return_, 1) := by decide +kernel
theorem dX2_makeInto_0 : decode cX2_makeInto 0 = .ok (.aload_n 0, 1) := by decide +kernel
theorem dX2_makeInto_1 : decode cX2_makeInto 1 = .ok (.getfield 7, 3) := by decide +kernel
theorem dX2_makeInto_4 : decode cX2_makeInto 4 = .ok (.invokevirtual 13, 3) := by decide +kernel
theorem dX2_makeInto_7 : decode cX2_makeInto 7 = .ok (.astore_n 2, 1) := by decide +kernel
theorem dX2_makeInto_8 : decode cX2_makeInto 8 = .ok (.aload_n 0, 1) := by decide +kernel
theorem dX2_makeInto_9 : decode cX2_makeInto 9 = .ok (.getfield 19, 3) := by decide +kernel
theorem dX2_makeInto_12 : decode cX2_makeInto 12 = .ok (.invokevirtual 13, 3) := by decide +kernel
theorem dX2_makeInto_15 : decode cX2_makeInto 15 = .ok (.astore_n 3, 1) := by decide +kernel
theorem dX2_makeInto_16 : decode cX2_makeInto 16 = .ok (.iconst 1, 1) := by decide +kernel
theorem dX2_makeInto_17 : decode cX2_makeInto 17 = .ok (.istore 4, 2) := by decide +kernel
theorem dX2_makeInto_19 : decode cX2_makeInto 19 = .ok (.iconst 0, 1) := by decide +kernel
theorem dX2_makeInto_20 : decode cX2_makeInto 20 = .ok (.istore 5, 2) := by decide +kernel
theorem dX2_makeInto_22 : decode cX2_makeInto 22 = .ok (.iload 5, 2) := by decide +kernel
theorem dX2_makeInto_24 : decode cX2_makeInto 24 = .ok (.aload_n 2, 1) := by decide +kernel
theorem dX2_makeInto_25 : decode cX2_makeInto 25 = .ok (.getfield 22, 3) := by decide +kernel
theorem dX2_makeInto_28 : decode cX2_makeInto 28 = .ok (.if_icmp .ge 51, 3) := by decide +kernel
theorem dX2_makeInto_31 : decode cX2_makeInto 31 = .ok (.iload 4, 2) := by decide +kernel
theorem dX2_makeInto_33 : decode cX2_makeInto 33 = .ok (.ifCond .eq 46, 3) := by decide +kernel
theorem dX2_makeInto_36 : decode cX2_makeInto 36 = .ok (.aload_n 2, 1) := by decide +kernel
theorem dX2_makeInto_37 : decode cX2_makeInto 37 = .ok (.iload 5, 2) := by decide +kernel
theorem dX2_makeInto_39 : decode cX2_makeInto 39 = .ok (.aload_n 0, 1) := by decide +kernel
theorem dX2_makeInto_40 : decode cX2_makeInto 40 = .ok (.getfield 28, 3) := by decide +kernel
theorem dX2_makeInto_43 : decode cX2_makeInto 43 = .ok (.invokevirtual 32, 3) := by decide +kernel
theorem dX2_makeInto_46 : decode cX2_makeInto 46 = .ok (.aload_n 1, 1) := by decide +kernel
theorem dX2_makeInto_47 : decode cX2_makeInto 47 = .ok (.aload_n 0, 1) := by decide +kernel
theorem dX2_makeInto_48 : decode cX2_makeInto 48 = .ok (.getfield 28, 3) := by decide +kernel
theorem dX2_makeInto_51 : decode cX2_makeInto 51 = .ok (.aload_n 2, 1) := by decide +kernel
theorem dX2_makeInto_52 : decode cX2_makeInto 52 = .ok (.getfield 36, 3) := by decide +kernel
theorem dX2_makeInto_55 : decode cX2_makeInto 55 = .ok (.iload 5, 2) := by decide +kernel
theorem dX2_makeInto_57 : decode cX2_makeInto 57 = .ok (.iaload, 1) := by decide +kernel
theorem dX2_makeInto_58 : decode cX2_makeInto 58 = .ok (.aload_n 3, 1) := by decide +kernel
theorem dX2_makeInto_59 : decode cX2_makeInto 59 = .ok (.aload_n 0, 1) := by decide +kernel
theorem dX2_makeInto_60 : decode cX2_makeInto 60 = .ok (.getfield 28, 3) := by decide +kernel
theorem dX2_makeInto_63 : decode cX2_makeInto 63 = .ok (.invokevirtual 39, 3) := by decide +kernel
theorem dX2_makeInto_66 : decode cX2_makeInto 66 = .ok (.isub, 1) := by decide +kernel
theorem dX2_makeInto_67 : decode cX2_makeInto 67 = .ok (.i2l, 1) := by decide +kernel
theorem dX2_makeInto_68 : decode cX2_makeInto 68 = .ok (.invokevirtual 43, 3) := by decide +kernel
theorem dX2_makeInto_71 : decode cX2_makeInto 71 = .ok (.istore 4, 2) := by decide +kernel
theorem dX2_makeInto_73 : decode cX2_makeInto 73 = .ok (.iinc 5 1, 3) := by decide +kernel
theorem dX2_makeInto_76 : decode cX2_makeInto 76 = .ok (.goto (-54), 3) := by decide +kernel
theorem dX2_makeInto_79 : decode cX2_makeInto 79 = .ok (.iload 4, 2) := by decide +kernel
theorem dX2_makeInto_81 : decode cX2_makeInto 81 = .ok (.ireturn, 1) := by decide +kernel
theorem dX3_init_0 : decode cX3_init 0 = .ok (.aload_n 0, 1) := by decide +kernel
theorem dX3_init_1 : decode cX3_init 1 = .ok (.aload_n 1, 1) := by decide +kernel
theorem dX3_init_2 : decode cX3_init 2 = .ok (.aload_n 1, 1) := by decide +kernel
theorem dX3_init_3 : decode cX3_init 3 = .ok (.invokespecial 3, 3) := by decide +kernel
theorem dX3_init_6 : decode cX3_init 6 = .ok (.aload_n 0, 1) := by decide +kernel
theorem dX3_init_7 : decode cX3_init 7 = .ok (.iload_n 2, 1) := by decide +kernel
theorem dX3_init_8 : decode cX3_init 8 = .ok (.putfield 9, 3) := by decide +kernel
theorem dX3_init_11 : decode cX3_init 11 = .ok (.aload_n 0, 1) := by decide +kernel
theorem dX3_init_12 : decode cX3_init 12 = .ok (.iload_n 3, 1) := by decide +kernel
theorem dX3_init_13 : decode cX3_init 13 = .ok (.putfield 15, 3) := by decide +kernel
theorem dX3_init_16 : decode cX3_init 16 = .ok (.aload_n 0, 1) := by decide +kernel
theorem dX3_init_17 : decode cX3_init 17 = .ok (.iload 4, 2) := by decide +kernel
theorem dX3_init_19 : decode cX3_init 19 = .ok (.putfield 18, 3) := by decide +kernel
theorem dX3_init_22 : decode cX3_init 22 = .ok (.return_, 1) := by decide +kernel
theorem dX3_makeInto_0 : decode cX3_makeInto 0 = .ok (.aload_n 0, 1) := by decide +kernel
theorem dX3_makeInto_1 : decode cX3_makeInto 1 = .ok (.getfield 21, 3) := by decide +kernel
theorem dX3_makeInto_4 : decode cX3_makeInto 4 = .ok (.invokevirtual 25, 3) := by decide +kernel
theorem dX3_makeInto_7 : decode cX3_makeInto 7 = .ok (.astore_n 2, 1) := by decide +kernel
theorem dX3_makeInto_8 : decode cX3_makeInto 8 = .ok (.iconst 1, 1) := by decide +kernel
theorem dX3_makeInto_9 : decode cX3_makeInto 9 = .ok (.istore_n 3, 1) := by decide +kernel
theorem dX3_makeInto_10 : decode cX3_makeInto 10 = .ok (.iconst 0, 1) := by decide +kernel
theorem dX3_makeInto_11 : decode cX3_makeInto 11 = .ok (.istore 4, 2) := by decide +kernel
theorem dX3_makeInto_13 : decode cX3_makeInto 13 = .ok (.iload 4, 2) := by decide +kernel
theorem dX3_makeInto_15 : decode cX3_makeInto 15 = .ok (.aload_n 2, 1) := by decide +kernel
theorem dX3_makeInto_16 : decode cX3_makeInto 16 = .ok (.getfield 31, 3) := by decide +kernel
theorem dX3_makeInto_19 : decode cX3_makeInto 19 = .ok (.if_icmp .ge 86, 3) := by decide +kernel
theorem dX3_makeInto_22 : decode cX3_makeInto 22 = .ok (.iload_n 3, 1) := by decide +kernel
theorem dX3_makeInto_23 : decode cX3_makeInto 23 = .ok (.ifCond .eq 82, 3) := by decide +kernel
theorem dX3_makeInto_26 : decode cX3_makeInto 26 = .ok (.aload_n 0, 1) := by decide +kernel
theorem dX3_makeInto_27 : decode cX3_makeInto 27 = .ok (.aload_n 2, 1) := by decide +kernel
theorem dX3_makeInto_28 : decode cX3_makeInto 28 = .ok (.iload 4, 2) := by decide +kernel
theorem dX3_makeInto_30 : decode cX3_makeInto 30 = .ok (.invokevirtual 36, 3) := by decide +kernel
theorem dX3_makeInto_33 : decode cX3_makeInto 33 = .ok (.ifCond .eq 66, 3) := by decide +kernel
theorem dX3_makeInto_36 : decode cX3_makeInto 36 = .ok (.aload_n 0, 1) := by decide +kernel
theorem dX3_makeInto_37 : decode cX3_makeInto 37 = .ok (.getfield 40, 3) := by decide +kernel
theorem dX3_makeInto_40 : decode cX3_makeInto 40 = .ok (.iconst 0, 1) := by decide +kernel
theorem dX3_makeInto_41 : decode cX3_makeInto 41 = .ok (.aload_n 0, 1) := by decide +kernel
theorem dX3_makeInto_42 : decode cX3_makeInto 42 = .ok (.getfield 9, 3) := by decide +kernel
theorem dX3_makeInto_45 : decode cX3_makeInto 45 = .ok (.iconst (-1), 1) := by decide +kernel
theorem dX3_makeInto_46 : decode cX3_makeInto 46 = .ok (.if_icmp .ne 7, 3) := by decide +kernel
theorem dX3_makeInto_49 : decode cX3_makeInto 49 = .ok (.iconst 0, 1) := by decide +kernel
theorem dX3_makeInto_50 : decode cX3_makeInto 50 = .ok (.goto 13, 3) := by decide +kernel
theorem dX3_makeInto_53 : decode cX3_makeInto 53 = .ok (.aload_n 2, 1) := by decide +kernel
theorem dX3_makeInto_54 : decode cX3_makeInto 54 = .ok (.iload 4, 2) := by decide +kernel
theorem dX3_makeInto_56 : decode cX3_makeInto 56 = .ok (.aload_n 0, 1) := by decide +kernel
theorem dX3_makeInto_57 : decode cX3_makeInto 57 = .ok (.getfield 9, 3) := by decide +kernel
theorem dX3_makeInto_60 : decode cX3_makeInto 60 = .ok (.invokevirtual 44, 3) := by decide +kernel
theorem dX3_makeInto_63 : decode cX3_makeInto 63 = .ok (.iastore, 1) := by decide +kernel
theorem dX3_makeInto_64 : decode cX3_makeInto 64 = .ok (.aload_n 0, 1) := by decide +kernel
theorem dX3_makeInto_65 : decode cX3_makeInto 65 = .ok (.getfield 40, 3) := by decide +kernel
theorem dX3_makeInto_68 : decode cX3_makeInto 68 = .ok (.aload_n 0, 1) := by decide +kernel
theorem dX3_makeInto_69 : decode cX3_makeInto 69 = .ok (.getfield 9, 3) := by decide +kernel
theorem dX3_makeInto_72 : decode cX3_makeInto 72 = .ok (.iconst (-1), 1) := by decide +kernel
theorem dX3_makeInto_73 : decode cX3_makeInto 73 = .ok (.if_icmp .ne 7, 3) := by decide +kernel
theorem dX3_makeInto_76 : decode cX3_makeInto 76 = .ok (.iconst 0, 1) := by decide +kernel
theorem dX3_makeInto_77 : decode cX3_makeInto 77 = .ok (.goto 4, 3) := by decide +kernel
theorem dX3_makeInto_80 : decode cX3_makeInto 80 = .ok (.iconst 1, 1) := by decide +kernel
theorem dX3_makeInto_81 : decode cX3_makeInto 81 = .ok (.aload_n 0, 1) := by decide +kernel
theorem dX3_makeInto_82 : decode cX3_makeInto 82 = .ok (.aload_n 2, 1) := by decide +kernel
theorem dX3_makeInto_83 : decode cX3_makeInto 83 = .ok (.iload 4, 2) := by decide +kernel
theorem dX3_makeInto_85 : decode cX3_makeInto 85 = .ok (.invokevirtual 48, 3) := by decide +kernel
theorem dX3_makeInto_88 : decode cX3_makeInto 88 = .ok (.iastore, 1) := by decide +kernel
theorem dX3_makeInto_89 : decode cX3_makeInto 89 = .ok (.aload_n 1, 1) := by decide +kernel
theorem dX3_makeInto_90 : decode cX3_makeInto 90 = .ok (.aload_n 0, 1) := by decide +kernel
theorem dX3_makeInto_91 : decode cX3_makeInto 91 = .ok (.getfield 40, 3) := by decide +kernel
theorem dX3_makeInto_94 : decode cX3_makeInto 94 = .ok (.lconst 1, 1) := by decide +kernel
theorem dX3_makeInto_95 : decode cX3_makeInto 95 = .ok (.invokevirtual 52, 3) := by decide +kernel
theorem dX3_makeInto_98 : decode cX3_makeInto 98 = .ok (.istore_n 3, 1) := by decide +kernel
theorem dX3_makeInto_99 : decode cX3_makeInto 99 = .ok (.iinc 4 1, 3) := by decide +kernel
theorem dX3_makeInto_102 : decode cX3_makeInto 102 = .ok (.goto (-89), 3) := by decide +kernel
theorem dX3_makeInto_105 : decode cX3_makeInto 105 = .ok (.iload_n 3, 1) := by decide +kernel
theorem dX3_makeInto_106 : decode cX3_makeInto 106 = .ok (.ireturn, 1) := by decide +kernel
theorem dX3_isFirst_0 : decode cX3_isFirst 0 = .ok (.iconst 0, 1) := by decide +kernel
theorem dX3_isFirst_1 : decode cX3_isFirst 1 = .ok (.istore_n 3, 1) := by decide +kernel
theorem dX3_isFirst_2 : decode cX3_isFirst 2 = .ok (.iload_n 3, 1) := by decide +kernel
theorem dX3_isFirst_3 : decode cX3_isFirst 3 = .ok (.iload_n 2, 1) := by decide +kernel
theorem dX3_isFirst_4 : decode cX3_isFirst 4 = .ok (.if_icmp .ge 21, 3) := by decide +kernel
theorem dX3_isFirst_7 : decode cX3_isFirst 7 = .ok (.aload_n 0, 1) := by decide +kernel
theorem dX3_isFirst_8 : decode cX3_isFirst 8 = .ok (.aload_n 1, 1) := by decide +kernel
theorem dX3_isFirst_9 : decode cX3_isFirst 9 = .ok (.iload_n 3, 1) := by decide +kernel
theorem dX3_isFirst_10 : decode cX3_isFirst 10 = .ok (.iload_n 2, 1) := by decide +kernel
theorem dX3_isFirst_11 : decode cX3_isFirst 11 = .ok (.invokevirtual 56, 3) := by decide +kernel
theorem dX3_isFirst_14 : decode cX3_isFirst 14 = .ok (.ifCond .eq 5, 3) := by decide +kernel
theorem dX3_isFirst_17 : decode cX3_isFirst 17 = .ok (.iconst 0, 1) := by decide +kernel
theorem dX3_isFirst_18 : decode cX3_isFirst 18 = .ok (.ireturn, 1) := by decide +kernel
theorem dX3_isFirst_19 : decode cX3_isFirst 19 = .ok (.iinc 3 1, 3) := by decide +kernel
theorem dX3_isFirst_22 : decode cX3_isFirst 22 = .ok (.goto (-20), 3) := by decide +kernel
theorem dX3_isFirst_25 : decode cX3_isFirst 25 = .ok (.iconst 1, 1) := by decide +kernel
theorem dX3_isFirst_26 : decode cX3_isFirst 26 = .ok (.ireturn, 1) := by decide +kernel
theorem dX3_isTogether_0 : decode cX3_isTogether 0 = .ok (.aload_n 0, 1) := by decide +kernel
theorem dX3_isTogether_1 : decode cX3_isTogether 1 = .ok (.getfield 9, 3) := by decide +kernel
theorem dX3_isTogether_4 : decode cX3_isTogether 4 = .ok (.iconst (-1), 1) := by decide +kernel
theorem dX3_isTogether_5 : decode cX3_isTogether 5 = .ok (.if_icmp .eq 24, 3) := by decide +kernel
theorem dX3_isTogether_8 : decode cX3_isTogether 8 = .ok (.aload_n 1, 1) := by decide +kernel
theorem dX3_isTogether_9 : decode cX3_isTogether 9 = .ok (.iload_n 2, 1) := by decide +kernel
theorem dX3_isTogether_10 : decode cX3_isTogether 10 = .ok (.aload_n 0, 1) := by decide +kernel
theorem dX3_isTogether_11 : decode cX3_isTogether 11 = .ok (.getfield 9, 3) := by decide +kernel
theorem dX3_isTogether_14 : decode cX3_isTogether 14 = .ok (.invokevirtual 44, 3) := by decide +kernel
theorem dX3_isTogether_17 : decode cX3_isTogether 17 = .ok (.aload_n 1, 1) := by decide +kernel
theorem dX3_isTogether_18 : decode cX3_isTogether 18 = .ok (.iload_n 3, 1) := by decide +kernel
theorem dX3_isTogether_19 : decode cX3_isTogether 19 = .ok (.aload_n 0, 1) := by decide +kernel
theorem dX3_isTogether_20 : decode cX3_isTogether 20 = .ok (.getfield 9, 3) := by decide +kernel
theorem dX3_isTogether_23 : decode cX3_isTogether 23 = .ok (.invokevirtual 44, 3) := by decide +kernel
theorem dX3_isTogether_26 : decode cX3_isTogether 26 = .ok (.if_icmp .ne 7, 3) := by decide +kernel
theorem dX3_isTogether_29 : decode cX3_isTogether 29 = .ok (.iconst 1, 1) := by decide +kernel
theorem dX3_isTogether_30 : decode cX3_isTogether 30 = .ok (.goto 4, 3) := by decide +kernel
theorem dX3_isTogether_33 : decode cX3_isTogether 33 = .ok (.iconst 0, 1) := by decide +kernel
theorem dX3_isTogether_34 : decode cX3_isTogether 34 = .ok (.ireturn, 1) := by decide +kernel
theorem dX3_valueFrom_0 : decode cX3_valueFrom 0 = .ok (.aload_n 0, 1) := by decide +kernel
theorem dX3_valueFrom_1 : decode cX3_valueFrom 1 = .ok (.getfield 15, 3) := by decide +kernel
theorem dX3_valueFrom_4 : decode cX3_valueFrom 4 = .ok (.ifCond .eq 11, 3) := by decide +kernel
theorem dX3_valueFrom_7 : decode cX3_valueFrom 7 = .ok (.aload_n 0, 1) := by decide +kernel
theorem dX3_valueFrom_8 : decode cX3_valueFrom 8 = .ok (.getfield 15, 3) := by decide +kernel
theorem dX3_valueFrom_11 : decode cX3_valueFrom 11 = .ok (.iconst 1, 1) := by decide +kernel
theorem dX3_valueFrom_12 : decode cX3_valueFrom 12 = .ok (.if_icmp .ne 7, 3) := by decide +kernel
theorem dX3_valueFrom_15 : decode cX3_valueFrom 15 = .ok (.iconst 0, 1) := by decide +kernel
theorem dX3_valueFrom_16 : decode cX3_valueFrom 16 = .ok (.goto 12, 3) := by decide +kernel
theorem dX3_valueFrom_19 : decode cX3_valueFrom 19 = .ok (.aload_n 1, 1) := by decide +kernel
theorem dX3_valueFrom_20 : decode cX3_valueFrom 20 = .ok (.iload_n 2, 1) := by decide +kernel
theorem dX3_valueFrom_21 : decode cX3_valueFrom 21 = .ok (.aload_n 0, 1) := by decide +kernel
theorem dX3_valueFrom_22 : decode cX3_valueFrom 22 = .ok (.getfield 18, 3) := by decide +kernel
theorem dX3_valueFrom_25 : decode cX3_valueFrom 25 = .ok (.invokevirtual 44, 3) := by decide +kernel
theorem dX3_valueFrom_28 : decode cX3_valueFrom 28 = .ok (.istore_n 3, 1) := by decide +kernel
theorem dX3_valueFrom_29 : decode cX3_valueFrom 29 = .ok (.iload_n 2, 1) := by decide +kernel
theorem dX3_valueFrom_30 : decode cX3_valueFrom 30 = .ok (.istore 4, 2) := by decide +kernel
theorem dX3_valueFrom_32 : decode cX3_valueFrom 32 = .ok (.iload 4, 2) := by decide +kernel
theorem dX3_valueFrom_34 : decode cX3_valueFrom 34 = .ok (.aload_n 1, 1) := by decide +kernel
theorem dX3_valueFrom_35 : decode cX3_valueFrom 35 = .ok (.getfield 31, 3) := by decide +kernel
theorem dX3_valueFrom_38 : decode cX3_valueFrom 38 = .ok (.if_icmp .ge 43, 3) := by decide +kernel
theorem dX3_valueFrom_41 : decode cX3_valueFrom 41 = .ok (.aload_n 0, 1) := by decide +kernel
theorem dX3_valueFrom_42 : decode cX3_valueFrom 42 = .ok (.aload_n 1, 1) := by decide +kernel
theorem dX3_valueFrom_43 : decode cX3_valueFrom 43 = .ok (.iload_n 2, 1) := by decide +kernel
theorem dX3_valueFrom_44 : decode cX3_valueFrom 44 = .ok (.iload 4, 2) := by decide +kernel
theorem dX3_valueFrom_46 : decode cX3_valueFrom 46 = .ok (.invokevirtual 56, 3) := by decide +kernel
theorem dX3_valueFrom_49 : decode cX3_valueFrom 49 = .ok (.ifCond .eq 26, 3) := by decide +kernel
theorem dX3_valueFrom_52 : decode cX3_valueFrom 52 = .ok (.aload_n 0, 1) := by decide +kernel
theorem dX3_valueFrom_53 : decode cX3_valueFrom 53 = .ok (.iload_n 3, 1) := by decide +kernel
theorem dX3_valueFrom_54 : decode cX3_valueFrom 54 = .ok (.aload_n 1, 1) := by decide +kernel
theorem dX3_valueFrom_55 : decode cX3_valueFrom 55 = .ok (.iload 4, 2) := by decide +kernel
theorem dX3_valueFrom_57 : decode cX3_valueFrom 57 = .ok (.aload_n 0, 1) := by decide +kernel
theorem dX3_valueFrom_58 : decode cX3_valueFrom 58 = .ok (.getfield 18, 3) := by decide +kernel
theorem dX3_valueFrom_61 : decode cX3_valueFrom 61 = .ok (.invokevirtual 44, 3) := by decide +kernel
theorem dX3_valueFrom_64 : decode cX3_valueFrom 64 = .ok (.aload_n 1, 1) := by decide +kernel
theorem dX3_valueFrom_65 : decode cX3_valueFrom 65 = .ok (.getfield 60, 3) := by decide +kernel
theorem dX3_valueFrom_68 : decode cX3_valueFrom 68 = .ok (.iload 4, 2) := by decide +kernel
theorem dX3_valueFrom_70 : decode cX3_valueFrom 70 = .ok (.iaload, 1) := by decide +kernel
theorem dX3_valueFrom_71 : decode cX3_valueFrom 71 = .ok (.invokevirtual 63, 3) := by decide +kernel
theorem dX3_valueFrom_74 : decode cX3_valueFrom 74 = .ok (.istore_n 3, 1) := by decide +kernel
theorem dX3_valueFrom_75 : decode cX3_valueFrom 75 = .ok (.iinc 4 1, 3) := by decide +kernel
theorem dX3_valueFrom_78 : decode cX3_valueFrom 78 = .ok (.goto (-46), 3) := by decide +kernel
theorem dX3_valueFrom_81 : decode cX3_valueFrom 81 = .ok (.iload_n 3, 1) := by decide +kernel
theorem dX3_valueFrom_82 : decode cX3_valueFrom 82 = .ok (.ireturn, 1) := by decide +kernel
theorem dX3_withRow_0 : decode cX3_withRow 0 = .ok (.aload_n 0, 1) := by decide +kernel
theorem dX3_withRow_1 : decode cX3_withRow 1 = .ok (.getfield 15, 3) := by decide +kernel
theorem dX3_withRow_4 : decode cX3_withRow 4 = .ok (.tableswitch 44 0 2 #[28, 32, 38], 28) := by decide +kernel
theorem dX3_withRow_32 : decode cX3_withRow 32 = .ok (.iload_n 1, 1) := by decide +kernel
theorem dX3_withRow_33 : decode cX3_withRow 33 = .ok (.iload_n 3, 1) := by decide +kernel
theorem dX3_withRow_34 : decode cX3_withRow 34 = .ok (.iadd, 1) := by decide +kernel
theorem dX3_withRow_35 : decode cX3_withRow 35 = .ok (.ireturn, 1) := by decide +kernel
theorem dX3_withRow_36 : decode cX3_withRow 36 = .ok (.iload_n 1, 1) := by decide +kernel
theorem dX3_withRow_37 : decode cX3_withRow 37 = .ok (.iload_n 2, 1) := by decide +kernel
theorem dX3_withRow_38 : decode cX3_withRow 38 = .ok (.iload_n 3, 1) := by decide +kernel
theorem dX3_withRow_39 : decode cX3_withRow 39 = .ok (.imul, 1) := by decide +kernel
theorem dX3_withRow_40 : decode cX3_withRow 40 = .ok (.iadd, 1) := by decide +kernel
theorem dX3_withRow_41 : decode cX3_withRow 41 = .ok (.ireturn, 1) := by decide +kernel
theorem dX3_withRow_42 : decode cX3_withRow 42 = .ok (.iload_n 1, 1) := by decide +kernel
theorem dX3_withRow_43 : decode cX3_withRow 43 = .ok (.iload_n 2, 1) := by decide +kernel
theorem dX3_withRow_44 : decode cX3_withRow 44 = .ok (.invokestatic 67, 3) := by decide +kernel
theorem dX3_withRow_47 : decode cX3_withRow 47 = .ok (.ireturn, 1) := by decide +kernel
theorem dX3_withRow_48 : decode cX3_withRow 48 = .ok (.iload_n 1, 1) := by decide +kernel
theorem dX3_withRow_49 : decode cX3_withRow 49 = .ok (.iload_n 2, 1) := by decide +kernel
theorem dX3_withRow_50 : decode cX3_withRow 50 = .ok (.invokestatic 72, 3) := by decide +kernel
theorem dX3_withRow_53 : decode cX3_withRow 53 = .ok (.ireturn, 1) := by decide +kernel
theorem dX4_init_0 : decode cX4_init 0 = .ok (.aload_n 0, 1) := by decide +kernel
theorem dX4_init_1 : decode cX4_init 1 = .ok (.aload_n 1, 1) := by decide +kernel
theorem dX4_init_2 : decode cX4_init 2 = .ok (.aload_n 2, 1) := by decide +kernel
theorem dX4_init_3 : decode cX4_init 3 = .ok (.invokespecial 3, 3) := by decide +kernel
theorem dX4_init_6 : decode cX4_init 6 = .ok (.aload_n 0, 1) := by decide +kernel
theorem dX4_init_7 : decode cX4_init 7 = .ok (.iload_n 3, 1) := by decide +kernel
theorem dX4_init_8 : decode cX4_init 8 = .ok (.putfield 9, 3) := by decide +kernel
theorem dX4_init_11 : decode cX4_init 11 = .ok (.aload_n 0, 1) := by decide +kernel
theorem dX4_init_12 : decode cX4_init 12 = .ok (.iload 4, 2) := by decide +kernel
theorem dX4_init_14 : decode cX4_init 14 = .ok (.putfield 15, 3) := by decide +kernel
theorem dX4_init_17 : decode cX4_init 17 = .ok (.return_, 1) := by decide +kernel
theorem dX4_makeInto_0 : decode cX4_makeInto 0 = .ok (.aload_n 0, 1) := by decide +kernel
theorem dX4_makeInto_1 : decode cX4_makeInto 1 = .ok (.getfield 18, 3) := by decide +kernel
theorem dX4_makeInto_4 : decode cX4_makeInto 4 = .ok (.invokevirtual 22, 3) := by decide +kernel
theorem dX4_makeInto_7 : decode cX4_makeInto 7 = .ok (.astore_n 2, 1) := by decide +kernel
theorem dX4_makeInto_8 : decode cX4_makeInto 8 = .ok (.aload_n 0, 1) := by decide +kernel
theorem dX4_makeInto_9 : decode cX4_makeInto 9 = .ok (.getfield 28, 3) := by decide +kernel
theorem dX4_makeInto_12 : decode cX4_makeInto 12 = .ok (.invokevirtual 22, 3) := by decide +kernel
theorem dX4_makeInto_15 : decode cX4_makeInto 15 = .ok (.astore_n 3, 1) := by decide +kernel
theorem dX4_makeInto_16 : decode cX4_makeInto 16 = .ok (.iconst 0, 1) := by decide +kernel
theorem dX4_makeInto_17 : decode cX4_makeInto 17 = .ok (.istore 4, 2) := by decide +kernel
theorem dX4_makeInto_19 : decode cX4_makeInto 19 = .ok (.iload 4, 2) := by decide +kernel
theorem dX4_makeInto_21 : decode cX4_makeInto 21 = .ok (.aload_n 2, 1) := by decide +kernel
theorem dX4_makeInto_22 : decode cX4_makeInto 22 = .ok (.getfield 31, 3) := by decide +kernel
theorem dX4_makeInto_25 : decode cX4_makeInto 25 = .ok (.if_icmp .ge 90, 3) := by decide +kernel
theorem dX4_makeInto_28 : decode cX4_makeInto 28 = .ok (.iconst 0, 1) := by decide +kernel
theorem dX4_makeInto_29 : decode cX4_makeInto 29 = .ok (.istore 5, 2) := by decide +kernel
theorem dX4_makeInto_31 : decode cX4_makeInto 31 = .ok (.iload 5, 2) := by decide +kernel
theorem dX4_makeInto_33 : decode cX4_makeInto 33 = .ok (.aload_n 3, 1) := by decide +kernel
theorem dX4_makeInto_34 : decode cX4_makeInto 34 = .ok (.getfield 31, 3) := by decide +kernel
theorem dX4_makeInto_37 : decode cX4_makeInto 37 = .ok (.if_icmp .ge 72, 3) := by decide +kernel
theorem dX4_makeInto_40 : decode cX4_makeInto 40 = .ok (.aload_n 2, 1) := by decide +kernel
theorem dX4_makeInto_41 : decode cX4_makeInto 41 = .ok (.iload 4, 2) := by decide +kernel
theorem dX4_makeInto_43 : decode cX4_makeInto 43 = .ok (.aload_n 0, 1) := by decide +kernel
theorem dX4_makeInto_44 : decode cX4_makeInto 44 = .ok (.getfield 9, 3) := by decide +kernel
theorem dX4_makeInto_47 : decode cX4_makeInto 47 = .ok (.invokevirtual 36, 3) := by decide +kernel
theorem dX4_makeInto_50 : decode cX4_makeInto 50 = .ok (.aload_n 3, 1) := by decide +kernel
theorem dX4_makeInto_51 : decode cX4_makeInto 51 = .ok (.iload 5, 2) := by decide +kernel
theorem dX4_makeInto_53 : decode cX4_makeInto 53 = .ok (.aload_n 0, 1) := by decide +kernel
theorem dX4_makeInto_54 : decode cX4_makeInto 54 = .ok (.getfield 15, 3) := by decide +kernel
theorem dX4_makeInto_57 : decode cX4_makeInto 57 = .ok (.invokevirtual 36, 3) := by decide +kernel
theorem dX4_makeInto_60 : decode cX4_makeInto 60 = .ok (.if_icmp .ne 43, 3) := by decide +kernel
theorem dX4_makeInto_63 : decode cX4_makeInto 63 = .ok (.aload_n 0, 1) := by decide +kernel
theorem dX4_makeInto_64 : decode cX4_makeInto 64 = .ok (.aload_n 2, 1) := by decide +kernel
theorem dX4_makeInto_65 : decode cX4_makeInto 65 = .ok (.iload 4, 2) := by decide +kernel
theorem dX4_makeInto_67 : decode cX4_makeInto 67 = .ok (.aload_n 3, 1) := by decide +kernel
theorem dX4_makeInto_68 : decode cX4_makeInto 68 = .ok (.iload 5, 2) := by decide +kernel
theorem dX4_makeInto_70 : decode cX4_makeInto 70 = .ok (.invokevirtual 40, 3) := by decide +kernel
theorem dX4_makeInto_73 : decode cX4_makeInto 73 = .ok (.aload_n 1, 1) := by decide +kernel
theorem dX4_makeInto_74 : decode cX4_makeInto 74 = .ok (.aload_n 0, 1) := by decide +kernel
theorem dX4_makeInto_75 : decode cX4_makeInto 75 = .ok (.getfield 44, 3) := by decide +kernel
theorem dX4_makeInto_78 : decode cX4_makeInto 78 = .ok (.aload_n 2, 1) := by decide +kernel
theorem dX4_makeInto_79 : decode cX4_makeInto 79 = .ok (.getfield 48, 3) := by decide +kernel
theorem dX4_makeInto_82 : decode cX4_makeInto 82 = .ok (.iload 4, 2) := by decide +kernel
theorem dX4_makeInto_84 : decode cX4_makeInto 84 = .ok (.iaload, 1) := by decide +kernel
theorem dX4_makeInto_85 : decode cX4_makeInto 85 = .ok (.i2l, 1) := by decide +kernel
theorem dX4_makeInto_86 : decode cX4_makeInto 86 = .ok (.aload_n 3, 1) := by decide +kernel
theorem dX4_makeInto_87 : decode cX4_makeInto 87 = .ok (.getfield 48, 3) := by decide +kernel
theorem dX4_makeInto_90 : decode cX4_makeInto 90 = .ok (.iload 5, 2) := by decide +kernel
theorem dX4_makeInto_92 : decode cX4_makeInto 92 = .ok (.iaload, 1) := by decide +kernel
theorem dX4_makeInto_93 : decode cX4_makeInto 93 = .ok (.i2l, 1) := by decide +kernel
theorem dX4_makeInto_94 : decode cX4_makeInto 94 = .ok (.lmul, 1) := by decide +kernel
theorem dX4_makeInto_95 : decode cX4_makeInto 95 = .ok (.invokevirtual 51, 3) := by decide +kernel
theorem dX4_makeInto_98 : decode cX4_makeInto 98 = .ok (.ifCond .ne 5, 3) := by decide +kernel
theorem dX4_makeInto_101 : decode cX4_makeInto 101 = .ok (.iconst 0, 1) := by decide +kernel
theorem dX4_makeInto_102 : decode cX4_makeInto 102 = .ok (.ireturn, 1) := by decide +kernel
theorem dX4_makeInto_103 : decode cX4_makeInto 103 = .ok (.iinc 5 1, 3) := by decide +kernel
theorem dX4_makeInto_106 : decode cX4_makeInto 106 = .ok (.goto (-75), 3) := by decide +kernel
theorem dX4_makeInto_109 : decode cX4_makeInto 109 = .ok (.iinc 4 1, 3) := by decide +kernel
theorem dX4_makeInto_112 : decode cX4_makeInto 112 = .ok (.goto (-93), 3) := by decide +kernel
theorem dX4_makeInto_115 : decode cX4_makeInto 115 = .ok (.iconst 1, 1) := by decide +kernel
theorem dX4_makeInto_116 : decode cX4_makeInto 116 = .ok (.ireturn, 1) := by decide +kernel
theorem dX4_readPair_0 : decode cX4_readPair 0 = .ok (.aload_n 1, 1) := by decide +kernel
theorem dX4_readPair_1 : decode cX4_readPair 1 = .ok (.iload_n 2, 1) := by decide +kernel
theorem dX4_readPair_2 : decode cX4_readPair 2 = .ok (.aload_n 0, 1) := by decide +kernel
theorem dX4_readPair_3 : decode cX4_readPair 3 = .ok (.getfield 44, 3) := by decide +kernel
theorem dX4_readPair_6 : decode cX4_readPair 6 = .ok (.invokevirtual 55, 3) := by decide +kernel
theorem dX4_readPair_9 : decode cX4_readPair 9 = .ok (.aload_n 0, 1) := by decide +kernel
theorem dX4_readPair_10 : decode cX4_readPair 10 = .ok (.getfield 18, 3) := by decide +kernel
theorem dX4_readPair_13 : decode cX4_readPair 13 = .ok (.getfield 59, 3) := by decide +kernel
theorem dX4_readPair_16 : decode cX4_readPair 16 = .ok (.istore 5, 2) := by decide +kernel
theorem dX4_readPair_18 : decode cX4_readPair 18 = .ok (.iload 5, 2) := by decide +kernel
theorem dX4_readPair_20 : decode cX4_readPair 20 = .ok (.iconst 4, 1) := by decide +kernel
theorem dX4_readPair_21 : decode cX4_readPair 21 = .ok (.if_icmp .ge 32, 3) := by decide +kernel
theorem dX4_readPair_24 : decode cX4_readPair 24 = .ok (.aload_n 0, 1) := by decide +kernel
theorem dX4_readPair_25 : decode cX4_readPair 25 = .ok (.getfield 44, 3) := by decide +kernel
theorem dX4_readPair_28 : decode cX4_readPair 28 = .ok (.iload 5, 2) := by decide +kernel
theorem dX4_readPair_30 : decode cX4_readPair 30 = .ok (.aload_n 3, 1) := by decide +kernel
theorem dX4_readPair_31 : decode cX4_readPair 31 = .ok (.iload 4, 2) := by decide +kernel
theorem dX4_readPair_33 : decode cX4_readPair 33 = .ok (.iload 5, 2) := by decide +kernel
theorem dX4_readPair_35 : decode cX4_readPair 35 = .ok (.aload_n 0, 1) := by decide +kernel
theorem dX4_readPair_36 : decode cX4_readPair 36 = .ok (.getfield 18, 3) := by decide +kernel
theorem dX4_readPair_39 : decode cX4_readPair 39 = .ok (.getfield 59, 3) := by decide +kernel
theorem dX4_readPair_42 : decode cX4_readPair 42 = .ok (.isub, 1) := by decide +kernel
theorem dX4_readPair_43 : decode cX4_readPair 43 = .ok (.invokevirtual 36, 3) := by decide +kernel
theorem dX4_readPair_46 : decode cX4_readPair 46 = .ok (.iastore, 1) := by decide +kernel
theorem dX4_readPair_47 : decode cX4_readPair 47 = .ok (.iinc 5 1, 3) := by decide +kernel
theorem dX4_readPair_50 : decode cX4_readPair 50 = .ok (.goto (-32), 3) := by decide +kernel
theorem dX4_readPair_53 : decode cX4_readPair 53 = .ok (.return_, 1) := by decide +kernel
theorem dX5_init_0 : decode cX5_init 0 = .ok (.aload_n 0, 1) := by decide +kernel
theorem dX5_init_1 : decode cX5_init 1 = .ok (.aload_n 1, 1) := by decide +kernel
theorem dX5_init_2 : decode cX5_init 2 = .ok (.aload_n 1, 1) := by decide +kernel
theorem dX5_init_3 : decode cX5_init 3 = .ok (.invokespecial 1, 3) := by decide +kernel
theorem dX5_init_6 : decode cX5_init 6 = .ok (.return_, 1) := by decide +kernel
theorem dX5_makeInto_0 : decode cX5_makeInto 0 = .ok (.aload_n 0, 1) := by decide +kernel
theorem dX5_makeInto_1 : decode cX5_makeInto 1 = .ok (.getfield 7, 3) := by decide +kernel
theorem dX5_makeInto_4 : decode cX5_makeInto 4 = .ok (.invokevirtual 13, 3) := by decide +kernel
theorem dX5_makeInto_7 : decode cX5_makeInto 7 = .ok (.astore_n 2, 1) := by decide +kernel
theorem dX5_makeInto_8 : decode cX5_makeInto 8 = .ok (.iconst 1, 1) := by decide +kernel
theorem dX5_makeInto_9 : decode cX5_makeInto 9 = .ok (.istore_n 3, 1) := by decide +kernel
theorem dX5_makeInto_10 : decode cX5_makeInto 10 = .ok (.iconst 0, 1) := by decide +kernel
theorem dX5_makeInto_11 : decode cX5_makeInto 11 = .ok (.istore 4, 2) := by decide +kernel
theorem dX5_makeInto_13 : decode cX5_makeInto 13 = .ok (.iload 4, 2) := by decide +kernel
theorem dX5_makeInto_15 : decode cX5_makeInto 15 = .ok (.aload_n 2, 1) := by decide +kernel
theorem dX5_makeInto_16 : decode cX5_makeInto 16 = .ok (.getfield 19, 3) := by decide +kernel
theorem dX5_makeInto_19 : decode cX5_makeInto 19 = .ok (.if_icmp .ge 33, 3) := by decide +kernel
theorem dX5_makeInto_22 : decode cX5_makeInto 22 = .ok (.iload_n 3, 1) := by decide +kernel
theorem dX5_makeInto_23 : decode cX5_makeInto 23 = .ok (.ifCond .eq 29, 3) := by decide +kernel
theorem dX5_makeInto_26 : decode cX5_makeInto 26 = .ok (.aload_n 2, 1) := by decide +kernel
theorem dX5_makeInto_27 : decode cX5_makeInto 27 = .ok (.iload 4, 2) := by decide +kernel
theorem dX5_makeInto_29 : decode cX5_makeInto 29 = .ok (.aload_n 0, 1) := by decide +kernel
theorem dX5_makeInto_30 : decode cX5_makeInto 30 = .ok (.getfield 25, 3) := by decide +kernel
theorem dX5_makeInto_33 : decode cX5_makeInto 33 = .ok (.invokevirtual 29, 3) := by decide +kernel
theorem dX5_makeInto_36 : decode cX5_makeInto 36 = .ok (.aload_n 1, 1) := by decide +kernel
theorem dX5_makeInto_37 : decode cX5_makeInto 37 = .ok (.aload_n 0, 1) := by decide +kernel
theorem dX5_makeInto_38 : decode cX5_makeInto 38 = .ok (.getfield 25, 3) := by decide +kernel
theorem dX5_makeInto_41 : decode cX5_makeInto 41 = .ok (.lconst 1, 1) := by decide +kernel
theorem dX5_makeInto_42 : decode cX5_makeInto 42 = .ok (.invokevirtual 33, 3) := by decide +kernel
theorem dX5_makeInto_45 : decode cX5_makeInto 45 = .ok (.istore_n 3, 1) := by decide +kernel
theorem dX5_makeInto_46 : decode cX5_makeInto 46 = .ok (.iinc 4 1, 3) := by decide +kernel
theorem dX5_makeInto_49 : decode cX5_makeInto 49 = .ok (.goto (-36), 3) := by decide +kernel
theorem dX5_makeInto_52 : decode cX5_makeInto 52 = .ok (.iload_n 3, 1) := by decide +kernel
theorem dX5_makeInto_53 : decode cX5_makeInto 53 = .ok (.ireturn, 1) := by decide +kernel
theorem dX7_init_0 : decode cX7_init 0 = .ok (.aload_n 0, 1) := by decide +kernel
theorem dX7_init_1 : decode cX7_init 1 = .ok (.aload_n 1, 1) := by decide +kernel
theorem dX7_init_2 : decode cX7_init 2 = .ok (.aload_n 1, 1) := by decide +kernel
theorem dX7_init_3 : decode cX7_init 3 = .ok (.invokespecial 3, 3) := by decide +kernel
theorem dX7_init_6 : decode cX7_init 6 = .ok (.aload_n 0, 1) := by decide +kernel
theorem dX7_init_7 : decode cX7_init 7 = .ok (.iload_n 2, 1) := by decide +kernel
theorem dX7_init_8 : decode cX7_init 8 = .ok (.putfield 9, 3) := by decide +kernel
theorem dX7_init_11 : decode cX7_init 11 = .ok (.aload_n 0, 1) := by decide +kernel
theorem dX7_init_12 : decode cX7_init 12 = .ok (.iload_n 3, 1) := by decide +kernel
theorem dX7_init_13 : decode cX7_init 13 = .ok (.putfield 15, 3) := by decide +kernel
theorem dX7_init_16 : decode cX7_init 16 = .ok (.aload_n 0, 1) := by decide +kernel
theorem dX7_init_17 : decode cX7_init 17 = .ok (.iload 4, 2) := by decide +kernel
theorem dX7_init_19 : decode cX7_init 19 = .ok (.putfield 18, 3) := by decide +kernel
theorem dX7_init_22 : decode cX7_init 22 = .ok (.aload_n 0, 1) := by decide +kernel
theorem dX7_init_23 : decode cX7_init 23 = .ok (.iload 5, 2) := by decide +kernel
theorem dX7_init_25 : decode cX7_init 25 = .ok (.putfield 21, 3) := by decide +kernel
theorem dX7_init_28 : decode cX7_init 28 = .ok (.return_, 1) := by decide +kernel
theorem dX7_makeInto_0 : decode cX7_makeInto 0 = .ok (.aload_n 0, 1) := by decide +kernel
theorem dX7_makeInto_1 : decode cX7_makeInto 1 = .ok (.getfield 25, 3) := by decide +kernel
theorem dX7_makeInto_4 : decode cX7_makeInto 4 = .ok (.invokevirtual 29, 3) := by decide +kernel
theorem dX7_makeInto_7 : decode cX7_makeInto 7 = .ok (.astore_n 2, 1) := by decide +kernel
theorem dX7_makeInto_8 : decode cX7_makeInto 8 = .ok (.iconst 1, 1) := by decide +kernel
theorem dX7_makeInto_9 : decode cX7_makeInto 9 = .ok (.istore_n 3, 1) := by decide +kernel
theorem dX7_makeInto_10 : decode cX7_makeInto 10 = .ok (.iconst 0, 1) := by decide +kernel
theorem dX7_makeInto_11 : decode cX7_makeInto 11 = .ok (.istore 4, 2) := by decide +kernel
theorem dX7_makeInto_13 : decode cX7_makeInto 13 = .ok (.iload 4, 2) := by decide +kernel
theorem dX7_makeInto_15 : decode cX7_makeInto 15 = .ok (.aload_n 2, 1) := by decide +kernel
theorem dX7_makeInto_16 : decode cX7_makeInto 16 = .ok (.getfield 35, 3) := by decide +kernel
theorem dX7_makeInto_19 : decode cX7_makeInto 19 = .ok (.if_icmp .ge 85, 3) := by decide +kernel
theorem dX7_makeInto_22 : decode cX7_makeInto 22 = .ok (.iload_n 3, 1) := by decide +kernel
theorem dX7_makeInto_23 : decode cX7_makeInto 23 = .ok (.ifCond .eq 81, 3) := by decide +kernel
theorem dX7_makeInto_26 : decode cX7_makeInto 26 = .ok (.aload_n 0, 1) := by decide +kernel
theorem dX7_makeInto_27 : decode cX7_makeInto 27 = .ok (.getfield 21, 3) := by decide +kernel
theorem dX7_makeInto_30 : decode cX7_makeInto 30 = .ok (.ifCond .eq 16, 3) := by decide +kernel
theorem dX7_makeInto_33 : decode cX7_makeInto 33 = .ok (.aload_n 2, 1) := by decide +kernel
theorem dX7_makeInto_34 : decode cX7_makeInto 34 = .ok (.iload 4, 2) := by decide +kernel
theorem dX7_makeInto_36 : decode cX7_makeInto 36 = .ok (.aload_n 0, 1) := by decide +kernel
theorem dX7_makeInto_37 : decode cX7_makeInto 37 = .ok (.getfield 18, 3) := by decide +kernel
theorem dX7_makeInto_40 : decode cX7_makeInto 40 = .ok (.invokevirtual 40, 3) := by decide +kernel
theorem dX7_makeInto_43 : decode cX7_makeInto 43 = .ok (.goto 7, 3) := by decide +kernel
theorem dX7_makeInto_46 : decode cX7_makeInto 46 = .ok (.aload_n 0, 1) := by decide +kernel
theorem dX7_makeInto_47 : decode cX7_makeInto 47 = .ok (.getfield 18, 3) := by decide +kernel
theorem dX7_makeInto_50 : decode cX7_makeInto 50 = .ok (.istore 5, 2) := by decide +kernel
theorem dX7_makeInto_52 : decode cX7_makeInto 52 = .ok (.aload_n 0, 1) := by decide +kernel
theorem dX7_makeInto_53 : decode cX7_makeInto 53 = .ok (.aload_n 2, 1) := by decide +kernel
theorem dX7_makeInto_54 : decode cX7_makeInto 54 = .ok (.iload 4, 2) := by decide +kernel
theorem dX7_makeInto_56 : decode cX7_makeInto 56 = .ok (.aload_n 0, 1) := by decide +kernel
theorem dX7_makeInto_57 : decode cX7_makeInto 57 = .ok (.getfield 9, 3) := by decide +kernel
theorem dX7_makeInto_60 : decode cX7_makeInto 60 = .ok (.invokevirtual 40, 3) := by decide +kernel
theorem dX7_makeInto_63 : decode cX7_makeInto 63 = .ok (.iload 5, 2) := by decide +kernel
theorem dX7_makeInto_65 : decode cX7_makeInto 65 = .ok (.invokevirtual 44, 3) := by decide +kernel
theorem dX7_makeInto_68 : decode cX7_makeInto 68 = .ok (.ifCond .eq 30, 3) := by decide +kernel
theorem dX7_makeInto_71 : decode cX7_makeInto 71 = .ok (.aload_n 2, 1) := by decide +kernel
theorem dX7_makeInto_72 : decode cX7_makeInto 72 = .ok (.iload 4, 2) := by decide +kernel
theorem dX7_makeInto_74 : decode cX7_makeInto 74 = .ok (.aload_n 0, 1) := by decide +kernel
theorem dX7_makeInto_75 : decode cX7_makeInto 75 = .ok (.getfield 48, 3) := by decide +kernel
theorem dX7_makeInto_78 : decode cX7_makeInto 78 = .ok (.invokevirtual 52, 3) := by decide +kernel
theorem dX7_makeInto_81 : decode cX7_makeInto 81 = .ok (.aload_n 1, 1) := by decide +kernel
theorem dX7_makeInto_82 : decode cX7_makeInto 82 = .ok (.aload_n 0, 1) := by decide +kernel
theorem dX7_makeInto_83 : decode cX7_makeInto 83 = .ok (.getfield 48, 3) := by decide +kernel
theorem dX7_makeInto_86 : decode cX7_makeInto 86 = .ok (.aload_n 2, 1) := by decide +kernel
theorem dX7_makeInto_87 : decode cX7_makeInto 87 = .ok (.getfield 56, 3) := by decide +kernel
theorem dX7_makeInto_90 : decode cX7_makeInto 90 = .ok (.iload 4, 2) := by decide +kernel
theorem dX7_makeInto_92 : decode cX7_makeInto 92 = .ok (.iaload, 1) := by decide +kernel
theorem dX7_makeInto_93 : decode cX7_makeInto 93 = .ok (.i2l, 1) := by decide +kernel
theorem dX7_makeInto_94 : decode cX7_makeInto 94 = .ok (.invokevirtual 59, 3) := by decide +kernel
theorem dX7_makeInto_97 : decode cX7_makeInto 97 = .ok (.istore_n 3, 1) := by decide +kernel
theorem dX7_makeInto_98 : decode cX7_makeInto 98 = .ok (.iinc 4 1, 3) := by decide +kernel
theorem dX7_makeInto_101 : decode cX7_makeInto 101 = .ok (.goto (-88), 3) := by decide +kernel
theorem dX7_makeInto_104 : decode cX7_makeInto 104 = .ok (.iload_n 3, 1) := by decide +kernel
theorem dX7_makeInto_105 : decode cX7_makeInto 105 = .ok (.ireturn, 1) := by decide +kernel
theorem dX7_holds_0 : decode cX7_holds 0 = .ok (.aload_n 0, 1) := by decide +kernel
theorem dX7_holds_1 : decode cX7_holds 1 = .ok (.getfield 15, 3) := by decide +kernel
theorem dX7_holds_4 : decode cX7_holds 4 = .ok (.tableswitch 91 0 4 #[36, 47, 58, 69, 80], 36) := by decide +kernel
theorem dX7_holds_40 : decode cX7_holds 40 = .ok (.iload_n 1, 1) := by decide +kernel
theorem dX7_holds_41 : decode cX7_holds 41 = .ok (.iload_n 2, 1) := by decide +kernel
theorem dX7_holds_42 : decode cX7_holds 42 = .ok (.if_icmp .ne 7, 3) := by decide +kernel
theorem dX7_holds_45 : decode cX7_holds 45 = .ok (.iconst 1, 1) := by decide +kernel
theorem dX7_holds_46 : decode cX7_holds 46 = .ok (.goto 4, 3) := by decide +kernel
theorem dX7_holds_49 : decode cX7_holds 49 = .ok (.iconst 0, 1) := by decide +kernel
theorem dX7_holds_50 : decode cX7_holds 50 = .ok (.ireturn, 1) := by decide +kernel
theorem dX7_holds_51 : decode cX7_holds 51 = .ok (.iload_n 1, 1) := by decide +kernel
theorem dX7_holds_52 : decode cX7_holds 52 = .ok (.iload_n 2, 1) := by decide +kernel
theorem dX7_holds_53 : decode cX7_holds 53 = .ok (.if_icmp .eq 7, 3) := by decide +kernel
theorem dX7_holds_56 : decode cX7_holds 56 = .ok (.iconst 1, 1) := by decide +kernel
theorem dX7_holds_57 : decode cX7_holds 57 = .ok (.goto 4, 3) := by decide +kernel
theorem dX7_holds_60 : decode cX7_holds 60 = .ok (.iconst 0, 1) := by decide +kernel
theorem dX7_holds_61 : decode cX7_holds 61 = .ok (.ireturn, 1) := by decide +kernel
theorem dX7_holds_62 : decode cX7_holds 62 = .ok (.iload_n 1, 1) := by decide +kernel
theorem dX7_holds_63 : decode cX7_holds 63 = .ok (.iload_n 2, 1) := by decide +kernel
theorem dX7_holds_64 : decode cX7_holds 64 = .ok (.if_icmp .ge 7, 3) := by decide +kernel
theorem dX7_holds_67 : decode cX7_holds 67 = .ok (.iconst 1, 1) := by decide +kernel
theorem dX7_holds_68 : decode cX7_holds 68 = .ok (.goto 4, 3) := by decide +kernel
theorem dX7_holds_71 : decode cX7_holds 71 = .ok (.iconst 0, 1) := by decide +kernel
theorem dX7_holds_72 : decode cX7_holds 72 = .ok (.ireturn, 1) := by decide +kernel
theorem dX7_holds_73 : decode cX7_holds 73 = .ok (.iload_n 1, 1) := by decide +kernel
theorem dX7_holds_74 : decode cX7_holds 74 = .ok (.iload_n 2, 1) := by decide +kernel
theorem dX7_holds_75 : decode cX7_holds 75 = .ok (.if_icmp .lt 7, 3) := by decide +kernel
theorem dX7_holds_78 : decode cX7_holds 78 = .ok (.iconst 1, 1) := by decide +kernel
theorem dX7_holds_79 : decode cX7_holds 79 = .ok (.goto 4, 3) := by decide +kernel
theorem dX7_holds_82 : decode cX7_holds 82 = .ok (.iconst 0, 1) := by decide +kernel
theorem dX7_holds_83 : decode cX7_holds 83 = .ok (.ireturn, 1) := by decide +kernel
theorem dX7_holds_84 : decode cX7_holds 84 = .ok (.iload_n 1, 1) := by decide +kernel
theorem dX7_holds_85 : decode cX7_holds 85 = .ok (.iload_n 2, 1) := by decide +kernel
theorem dX7_holds_86 : decode cX7_holds 86 = .ok (.if_icmp .le 7, 3) := by decide +kernel
theorem dX7_holds_89 : decode cX7_holds 89 = .ok (.iconst 1, 1) := by decide +kernel
theorem dX7_holds_90 : decode cX7_holds 90 = .ok (.goto 4, 3) := by decide +kernel
theorem dX7_holds_93 : decode cX7_holds 93 = .ok (.iconst 0, 1) := by decide +kernel
theorem dX7_holds_94 : decode cX7_holds 94 = .ok (.ireturn, 1) := by decide +kernel
theorem dX7_holds_95 : decode cX7_holds 95 = .ok (.iload_n 1, 1) := by decide +kernel
theorem dX7_holds_96 : decode cX7_holds 96 = .ok (.iload_n 2, 1) := by decide +kernel
theorem dX7_holds_97 : decode cX7_holds 97 = .ok (.if_icmp .gt 7, 3) := by decide +kernel
theorem dX7_holds_100 : decode cX7_holds 100 = .ok (.iconst 1, 1) := by decide +kernel
theorem dX7_holds_101 : decode cX7_holds 101 = .ok (.goto 4, 3) := by decide +kernel
theorem dX7_holds_104 : decode cX7_holds 104 = .ok (.iconst 0, 1) := by decide +kernel
theorem dX7_holds_105 : decode cX7_holds 105 = .ok (.ireturn, 1) := by decide +kernel
theorem dX8_init_0 : decode cX8_init 0 = .ok (.aload_n 0, 1) := by decide +kernel
theorem dX8_init_1 : decode cX8_init 1 = .ok (.aload_n 1, 1) := by decide +kernel
theorem dX8_init_2 : decode cX8_init 2 = .ok (.aload_n 2, 1) := by decide +kernel
theorem dX8_init_3 : decode cX8_init 3 = .ok (.invokespecial 1, 3) := by decide +kernel
theorem dX8_init_6 : decode cX8_init 6 = .ok (.return_, 1) := by decide +kernel
theorem dX8_makeInto_0 : decode cX8_makeInto 0 = .ok (.aload_n 1, 1) := by decide +kernel
theorem dX8_makeInto_1 : decode cX8_makeInto 1 = .ok (.aload_n 0, 1) := by decide +kernel
theorem dX8_makeInto_2 : decode cX8_makeInto 2 = .ok (.getfield 7, 3) := by decide +kernel
theorem dX8_makeInto_5 : decode cX8_makeInto 5 = .ok (.invokevirtual 13, 3) := by decide +kernel
theorem dX8_makeInto_8 : decode cX8_makeInto 8 = .ok (.invokevirtual 19, 3) := by decide +kernel
theorem dX8_makeInto_11 : decode cX8_makeInto 11 = .ok (.aload_n 0, 1) := by decide +kernel
theorem dX8_makeInto_12 : decode cX8_makeInto 12 = .ok (.getfield 25, 3) := by decide +kernel
theorem dX8_makeInto_15 : decode cX8_makeInto 15 = .ok (.invokevirtual 13, 3) := by decide +kernel
theorem dX8_makeInto_18 : decode cX8_makeInto 18 = .ok (.astore_n 2, 1) := by decide +kernel
theorem dX8_makeInto_19 : decode cX8_makeInto 19 = .ok (.iconst 1, 1) := by decide +kernel
theorem dX8_makeInto_20 : decode cX8_makeInto 20 = .ok (.istore_n 3, 1) := by decide +kernel
theorem dX8_makeInto_21 : decode cX8_makeInto 21 = .ok (.iconst 0, 1) := by decide +kernel
theorem dX8_makeInto_22 : decode cX8_makeInto 22 = .ok (.istore 4, 2) := by decide +kernel
theorem dX8_makeInto_24 : decode cX8_makeInto 24 = .ok (.iload 4, 2) := by decide +kernel
theorem dX8_makeInto_26 : decode cX8_makeInto 26 = .ok (.aload_n 2, 1) := by decide +kernel
theorem dX8_makeInto_27 : decode cX8_makeInto 27 = .ok (.getfield 28, 3) := by decide +kernel
theorem dX8_makeInto_30 : decode cX8_makeInto 30 = .ok (.if_icmp .ge 40, 3) := by decide +kernel
theorem dX8_makeInto_33 : decode cX8_makeInto 33 = .ok (.iload_n 3, 1) := by decide +kernel
theorem dX8_makeInto_34 : decode cX8_makeInto 34 = .ok (.ifCond .eq 36, 3) := by decide +kernel
theorem dX8_makeInto_37 : decode cX8_makeInto 37 = .ok (.aload_n 2, 1) := by decide +kernel
theorem dX8_makeInto_38 : decode cX8_makeInto 38 = .ok (.iload 4, 2) := by decide +kernel
theorem dX8_makeInto_40 : decode cX8_makeInto 40 = .ok (.aload_n 0, 1) := by decide +kernel
theorem dX8_makeInto_41 : decode cX8_makeInto 41 = .ok (.getfield 32, 3) := by decide +kernel
theorem dX8_makeInto_44 : decode cX8_makeInto 44 = .ok (.invokevirtual 36, 3) := by decide +kernel
theorem dX8_makeInto_47 : decode cX8_makeInto 47 = .ok (.aload_n 1, 1) := by decide +kernel
theorem dX8_makeInto_48 : decode cX8_makeInto 48 = .ok (.aload_n 0, 1) := by decide +kernel
theorem dX8_makeInto_49 : decode cX8_makeInto 49 = .ok (.getfield 32, 3) := by decide +kernel
theorem dX8_makeInto_52 : decode cX8_makeInto 52 = .ok (.aload_n 2, 1) := by decide +kernel
theorem dX8_makeInto_53 : decode cX8_makeInto 53 = .ok (.getfield 40, 3) := by decide +kernel
theorem dX8_makeInto_56 : decode cX8_makeInto 56 = .ok (.iload 4, 2) := by decide +kernel
theorem dX8_makeInto_58 : decode cX8_makeInto 58 = .ok (.iaload, 1) := by decide +kernel
theorem dX8_makeInto_59 : decode cX8_makeInto 59 = .ok (.i2l, 1) := by decide +kernel
theorem dX8_makeInto_60 : decode cX8_makeInto 60 = .ok (.invokevirtual 43, 3) := by decide +kernel
theorem dX8_makeInto_63 : decode cX8_makeInto 63 = .ok (.istore_n 3, 1) := by decide +kernel
theorem dX8_makeInto_64 : decode cX8_makeInto 64 = .ok (.iinc 4 1, 3) := by decide +kernel
theorem dX8_makeInto_67 : decode cX8_makeInto 67 = .ok (.goto (-43), 3) := by decide +kernel
theorem dX8_makeInto_70 : decode cX8_makeInto 70 = .ok (.iload_n 3, 1) := by decide +kernel
theorem dX8_makeInto_71 : decode cX8_makeInto 71 = .ok (.ireturn, 1) := by decide +kernel
theorem dX10_init_0 : decode cX10_init 0 = .ok (.aload_n 0, 1) := by decide +kernel
theorem dX10_init_1 : decode cX10_init 1 = .ok (.invokespecial 1, 3) := by decide +kernel
theorem dX10_init_4 : decode cX10_init 4 = .ok (.aload_n 0, 1) := by decide +kernel
theorem dX10_init_5 : decode cX10_init 5 = .ok (.bipush 8, 2) := by decide +kernel
theorem dX10_init_7 : decode cX10_init 7 = .ok (.anewarray 9, 3) := by decide +kernel
theorem dX10_init_10 : decode cX10_init 10 = .ok (.putfield 11, 3) := by decide +kernel
theorem dX10_init_13 : decode cX10_init 13 = .ok (.aload_n 0, 1) := by decide +kernel
theorem dX10_init_14 : decode cX10_init 14 = .ok (.iconst 4, 1) := by decide +kernel
theorem dX10_init_15 : decode cX10_init 15 = .ok (.newarray .int, 2) := by decide +kernel
theorem dX10_init_17 : decode cX10_init 17 = .ok (.putfield 15, 3) := by decide +kernel
theorem dX10_init_20 : decode cX10_init 20 = .ok (.iconst 0, 1) := by decide +kernel
theorem dX10_init_21 : decode cX10_init 21 = .ok (.istore_n 1, 1) := by decide +kernel
theorem dX10_init_22 : decode cX10_init 22 = .ok (.iload_n 1, 1) := by decide +kernel
theorem dX10_init_23 : decode cX10_init 23 = .ok (.bipush 8, 2) := by decide +kernel
theorem dX10_init_25 : decode cX10_init 25 = .ok (.if_icmp .ge 22, 3) := by decide +kernel
theorem dX10_init_28 : decode cX10_init 28 = .ok (.aload_n 0, 1) := by decide +kernel
theorem dX10_init_29 : decode cX10_init 29 = .ok (.getfield 11, 3) := by decide +kernel
theorem dX10_init_32 : decode cX10_init 32 = .ok (.iload_n 1, 1) := by decide +kernel
theorem dX10_init_33 : decode cX10_init 33 = .ok (.new 9, 3) := by decide +kernel
theorem dX10_init_36 : decode cX10_init 36 = .ok (.dup, 1) := by decide +kernel
theorem dX10_init_37 : decode cX10_init 37 = .ok (.invokespecial 19, 3) := by decide +kernel
theorem dX10_init_40 : decode cX10_init 40 = .ok (.aastore, 1) := by decide +kernel
theorem dX10_init_41 : decode cX10_init 41 = .ok (.iinc 1 1, 3) := by decide +kernel
theorem dX10_init_44 : decode cX10_init 44 = .ok (.goto (-22), 3) := by decide +kernel
theorem dX10_init_47 : decode cX10_init 47 = .ok (.return_, 1) := by decide +kernel
theorem dX10_table_0 : decode cX10_table 0 = .ok (.aload_n 0, 1) := by decide +kernel
theorem dX10_table_1 : decode cX10_table 1 = .ok (.iload_n 1, 1) := by decide +kernel
theorem dX10_table_2 : decode cX10_table 2 = .ok (.invokevirtual 20, 3) := by decide +kernel
theorem dX10_table_5 : decode cX10_table 5 = .ok (.astore_n 3, 1) := by decide +kernel
theorem dX10_table_6 : decode cX10_table 6 = .ok (.aload_n 3, 1) := by decide +kernel
theorem dX10_table_7 : decode cX10_table 7 = .ok (.invokestatic 24, 3) := by decide +kernel
theorem dX10_table_10 : decode cX10_table 10 = .ok (.iload_n 2, 1) := by decide +kernel
theorem dX10_table_11 : decode cX10_table 11 = .ok (.iconst 1, 1) := by decide +kernel
theorem dX10_table_12 : decode cX10_table 12 = .ok (.if_icmp .lt 8, 3) := by decide +kernel
theorem dX10_table_15 : decode cX10_table 15 = .ok (.iload_n 2, 1) := by decide +kernel
theorem dX10_table_16 : decode cX10_table 16 = .ok (.iconst 4, 1) := by decide +kernel
theorem dX10_table_17 : decode cX10_table 17 = .ok (.if_icmp .le 13, 3) := by decide +kernel
theorem dX10_table_20 : decode cX10_table 20 = .ok (.new 28, 3) := by decide +kernel
theorem dX10_table_23 : decode cX10_table 23 = .ok (.dup, 1) := by decide +kernel
theorem dX10_table_24 : decode cX10_table 24 = .ok (.ldc 30, 2) := by decide +kernel
theorem dX10_table_26 : decode cX10_table 26 = .ok (.invokespecial 32, 3) := by decide +kernel
theorem dX10_table_29 : decode cX10_table 29 = .ok (.athrow, 1) := by decide +kernel
theorem dX10_table_30 : decode cX10_table 30 = .ok (.aload_n 3, 1) := by decide +kernel
theorem dX10_table_31 : decode cX10_table 31 = .ok (.getfield 35, 3) := by decide +kernel
theorem dX10_table_34 : decode cX10_table 34 = .ok (.invokevirtual 39, 3) := by decide +kernel
theorem dX10_table_37 : decode cX10_table 37 = .ok (.aload_n 3, 1) := by decide +kernel
theorem dX10_table_38 : decode cX10_table 38 = .ok (.iload_n 2, 1) := by decide +kernel
theorem dX10_table_39 : decode cX10_table 39 = .ok (.aconst_null, 1) := by decide +kernel
theorem dX10_table_40 : decode cX10_table 40 = .ok (.invokevirtual 44, 3) := by decide +kernel
theorem dX10_table_43 : decode cX10_table 43 = .ok (.return_, 1) := by decide +kernel
theorem dX10_select_0 : decode cX10_select 0 = .ok (.aload_n 0, 1) := by decide +kernel
theorem dX10_select_1 : decode cX10_select 1 = .ok (.iload_n 1, 1) := by decide +kernel
theorem dX10_select_2 : decode cX10_select 2 = .ok (.invokevirtual 20, 3) := by decide +kernel
theorem dX10_select_5 : decode cX10_select 5 = .ok (.astore 7, 2) := by decide +kernel
theorem dX10_select_7 : decode cX10_select 7 = .ok (.aload_n 0, 1) := by decide +kernel
theorem dX10_select_8 : decode cX10_select 8 = .ok (.iload_n 2, 1) := by decide +kernel
theorem dX10_select_9 : decode cX10_select 9 = .ok (.invokevirtual 48, 3) := by decide +kernel
theorem dX10_select_12 : decode cX10_select 12 = .ok (.astore 8, 2) := by decide +kernel
theorem dX10_select_14 : decode cX10_select 14 = .ok (.aload 8, 2) := by decide +kernel
theorem dX10_select_16 : decode cX10_select 16 = .ok (.iload_n 3, 1) := by decide +kernel
theorem dX10_select_17 : decode cX10_select 17 = .ok (.invokestatic 51, 3) := by decide +kernel
theorem dX10_select_20 : decode cX10_select 20 = .ok (.iload 6, 2) := by decide +kernel
theorem dX10_select_22 : decode cX10_select 22 = .ok (.ifCond .eq 10, 3) := by decide +kernel
theorem dX10_select_25 : decode cX10_select 25 = .ok (.aload 8, 2) := by decide +kernel
theorem dX10_select_27 : decode cX10_select 27 = .ok (.iload 5, 2) := by decide +kernel
theorem dX10_select_29 : decode cX10_select 29 = .ok (.invokestatic 51, 3) := by decide +kernel
theorem dX10_select_32 : decode cX10_select 32 = .ok (.aload 7, 2) := by decide +kernel
theorem dX10_select_34 : decode cX10_select 34 = .ok (.invokestatic 24, 3) := by decide +kernel
theorem dX10_select_37 : decode cX10_select 37 = .ok (.iload 4, 2) := by decide +kernel
theorem dX10_select_39 : decode cX10_select 39 = .ok (.ifCond .lt 9, 3) := by decide +kernel
theorem dX10_select_42 : decode cX10_select 42 = .ok (.iload 4, 2) := by decide +kernel
theorem dX10_select_44 : decode cX10_select 44 = .ok (.iconst 5, 1) := by decide +kernel
theorem dX10_select_45 : decode cX10_select 45 = .ok (.if_icmp .le 13, 3) := by decide +kernel
theorem dX10_select_48 : decode cX10_select 48 = .ok (.new 28, 3) := by decide +kernel
theorem dX10_select_51 : decode cX10_select 51 = .ok (.dup, 1) := by decide +kernel
theorem dX10_select_52 : decode cX10_select 52 = .ok (.ldc 55, 2) := by decide +kernel
theorem dX10_select_54 : decode cX10_select 54 = .ok (.invokespecial 32, 3) := by decide +kernel
theorem dX10_select_57 : decode cX10_select 57 = .ok (.athrow, 1) := by decide +kernel
theorem dX10_select_58 : decode cX10_select 58 = .ok (.aload 7, 2) := by decide +kernel
theorem dX10_select_60 : decode cX10_select 60 = .ok (.aload 8, 2) := by decide +kernel
theorem dX10_select_62 : decode cX10_select 62 = .ok (.getfield 57, 3) := by decide +kernel
theorem dX10_select_65 : decode cX10_select 65 = .ok (.new 61, 3) := by decide +kernel
theorem dX10_select_68 : decode cX10_select 68 = .ok (.dup, 1) := by decide +kernel
theorem dX10_select_69 : decode cX10_select 69 = .ok (.aload 8, 2) := by decide +kernel
theorem dX10_select_71 : decode cX10_select 71 = .ok (.iload_n 3, 1) := by decide +kernel
theorem dX10_select_72 : decode cX10_select 72 = .ok (.iload 4, 2) := by decide +kernel
theorem dX10_select_74 : decode cX10_select 74 = .ok (.iload 5, 2) := by decide +kernel
theorem dX10_select_76 : decode cX10_select 76 = .ok (.iload 6, 2) := by decide +kernel
theorem dX10_select_78 : decode cX10_select 78 = .ok (.invokespecial 63, 3) := by decide +kernel
theorem dX10_select_81 : decode cX10_select 81 = .ok (.invokestatic 66, 3) := by decide +kernel
theorem dX10_select_84 : decode cX10_select 84 = .ok (.return_, 1) := by decide +kernel
theorem dX10_columns_0 : decode cX10_columns 0 = .ok (.aload_n 0, 1) := by decide +kernel
theorem dX10_columns_1 : decode cX10_columns 1 = .ok (.iload_n 1, 1) := by decide +kernel
theorem dX10_columns_2 : decode cX10_columns 2 = .ok (.invokevirtual 20, 3) := by decide +kernel
theorem dX10_columns_5 : decode cX10_columns 5 = .ok (.astore 7, 2) := by decide +kernel
theorem dX10_columns_7 : decode cX10_columns 7 = .ok (.aload_n 0, 1) := by decide +kernel
theorem dX10_columns_8 : decode cX10_columns 8 = .ok (.iload_n 2, 1) := by decide +kernel
theorem dX10_columns_9 : decode cX10_columns 9 = .ok (.invokevirtual 48, 3) := by decide +kernel
theorem dX10_columns_12 : decode cX10_columns 12 = .ok (.astore 8, 2) := by decide +kernel
theorem dX10_columns_14 : decode cX10_columns 14 = .ok (.aload 8, 2) := by decide +kernel
theorem dX10_columns_16 : decode cX10_columns 16 = .ok (.iload_n 3, 1) := by decide +kernel
theorem dX10_columns_17 : decode cX10_columns 17 = .ok (.invokestatic 70, 3) := by decide +kernel
theorem dX10_columns_20 : decode cX10_columns 20 = .ok (.aload 8, 2) := by decide +kernel
theorem dX10_columns_22 : decode cX10_columns 22 = .ok (.iload 4, 2) := by decide +kernel
theorem dX10_columns_24 : decode cX10_columns 24 = .ok (.invokestatic 70, 3) := by decide +kernel
theorem dX10_columns_27 : decode cX10_columns 27 = .ok (.aload 8, 2) := by decide +kernel
theorem dX10_columns_29 : decode cX10_columns 29 = .ok (.iload 5, 2) := by decide +kernel
theorem dX10_columns_31 : decode cX10_columns 31 = .ok (.invokestatic 70, 3) := by decide +kernel
theorem dX10_columns_34 : decode cX10_columns 34 = .ok (.aload 8, 2) := by decide +kernel
theorem dX10_columns_36 : decode cX10_columns 36 = .ok (.iload 6, 2) := by decide +kernel
theorem dX10_columns_38 : decode cX10_columns 38 = .ok (.invokestatic 70, 3) := by decide +kernel
theorem dX10_columns_41 : decode cX10_columns 41 = .ok (.aload 7, 2) := by decide +kernel
theorem dX10_columns_43 : decode cX10_columns 43 = .ok (.invokestatic 24, 3) := by decide +kernel
theorem dX10_columns_46 : decode cX10_columns 46 = .ok (.iconst 4, 1) := by decide +kernel
theorem dX10_columns_47 : decode cX10_columns 47 = .ok (.newarray .int, 2) := by decide +kernel
theorem dX10_columns_49 : decode cX10_columns 49 = .ok (.dup, 1) := by decide +kernel
theorem dX10_columns_50 : decode cX10_columns 50 = .ok (.iconst 0, 1) := by decide +kernel
theorem dX10_columns_51 : decode cX10_columns 51 = .ok (.iload_n 3, 1) := by decide +kernel
theorem dX10_columns_52 : decode cX10_columns 52 = .ok (.iastore, 1) := by decide +kernel
theorem dX10_columns_53 : decode cX10_columns 53 = .ok (.dup, 1) := by decide +kernel
theorem dX10_columns_54 : decode cX10_columns 54 = .ok (.iconst 1, 1) := by decide +kernel
theorem dX10_columns_55 : decode cX10_columns 55 = .ok (.iload 4, 2) := by decide +kernel
theorem dX10_columns_57 : decode cX10_columns 57 = .ok (.iastore, 1) := by decide +kernel
theorem dX10_columns_58 : decode cX10_columns 58 = .ok (.dup, 1) := by decide +kernel
theorem dX10_columns_59 : decode cX10_columns 59 = .ok (.iconst 2, 1) := by decide +kernel
theorem dX10_columns_60 : decode cX10_columns 60 = .ok (.iload 5, 2) := by decide +kernel
theorem dX10_columns_62 : decode cX10_columns 62 = .ok (.iastore, 1) := by decide +kernel
theorem dX10_columns_63 : decode cX10_columns 63 = .ok (.dup, 1) := by decide +kernel
theorem dX10_columns_64 : decode cX10_columns 64 = .ok (.iconst 3, 1) := by decide +kernel
theorem dX10_columns_65 : decode cX10_columns 65 = .ok (.iload 6, 2) := by decide +kernel
theorem dX10_columns_67 : decode cX10_columns 67 = .ok (.iastore, 1) := by decide +kernel
theorem dX10_columns_68 : decode cX10_columns 68 = .ok (.astore 9, 2) := by decide +kernel
theorem dX10_columns_70 : decode cX10_columns 70 = .ok (.aload 7, 2) := by decide +kernel
theorem dX10_columns_72 : decode cX10_columns 72 = .ok (.aload 9, 2) := by decide +kernel
theorem dX10_columns_74 : decode cX10_columns 74 = .ok (.invokestatic 73, 3) := by decide +kernel
theorem dX10_columns_77 : decode cX10_columns 77 = .ok (.new 77, 3) := by decide +kernel
theorem dX10_columns_80 : decode cX10_columns 80 = .ok (.dup, 1) := by decide +kernel
theorem dX10_columns_81 : decode cX10_columns 81 = .ok (.aload 8, 2) := by decide +kernel
theorem dX10_columns_83 : decode cX10_columns 83 = .ok (.aload 9, 2) := by decide +kernel
theorem dX10_columns_85 : decode cX10_columns 85 = .ok (.invokespecial 79, 3) := by decide +kernel
theorem dX10_columns_88 : decode cX10_columns 88 = .ok (.invokestatic 66, 3) := by decide +kernel
theorem dX10_columns_91 : decode cX10_columns 91 = .ok (.return_, 1) := by decide +kernel
theorem dX10_join_0 : decode cX10_join 0 = .ok (.aload_n 0, 1) := by decide +kernel
theorem dX10_join_1 : decode cX10_join 1 = .ok (.iload_n 1, 1) := by decide +kernel
theorem dX10_join_2 : decode cX10_join 2 = .ok (.invokevirtual 20, 3) := by decide +kernel
theorem dX10_join_5 : decode cX10_join 5 = .ok (.astore 6, 2) := by decide +kernel
theorem dX10_join_7 : decode cX10_join 7 = .ok (.aload_n 0, 1) := by decide +kernel
theorem dX10_join_8 : decode cX10_join 8 = .ok (.iload_n 2, 1) := by decide +kernel
theorem dX10_join_9 : decode cX10_join 9 = .ok (.invokevirtual 48, 3) := by decide +kernel
theorem dX10_join_12 : decode cX10_join 12 = .ok (.astore 7, 2) := by decide +kernel
theorem dX10_join_14 : decode cX10_join 14 = .ok (.aload_n 0, 1) := by decide +kernel
theorem dX10_join_15 : decode cX10_join 15 = .ok (.iload_n 3, 1) := by decide +kernel
theorem dX10_join_16 : decode cX10_join 16 = .ok (.invokevirtual 48, 3) := by decide +kernel
theorem dX10_join_19 : decode cX10_join 19 = .ok (.astore 8, 2) := by decide +kernel
theorem dX10_join_21 : decode cX10_join 21 = .ok (.aload 7, 2) := by decide +kernel
theorem dX10_join_23 : decode cX10_join 23 = .ok (.iload 4, 2) := by decide +kernel
theorem dX10_join_25 : decode cX10_join 25 = .ok (.invokestatic 51, 3) := by decide +kernel
theorem dX10_join_28 : decode cX10_join 28 = .ok (.aload 8, 2) := by decide +kernel
theorem dX10_join_30 : decode cX10_join 30 = .ok (.iload 5, 2) := by decide +kernel
theorem dX10_join_32 : decode cX10_join 32 = .ok (.invokestatic 51, 3) := by decide +kernel
theorem dX10_join_35 : decode cX10_join 35 = .ok (.aload 6, 2) := by decide +kernel
theorem dX10_join_37 : decode cX10_join 37 = .ok (.invokestatic 24, 3) := by decide +kernel
theorem dX10_join_40 : decode cX10_join 40 = .ok (.aload 7, 2) := by decide +kernel
theorem dX10_join_42 : decode cX10_join 42 = .ok (.getfield 57, 3) := by decide +kernel
theorem dX10_join_45 : decode cX10_join 45 = .ok (.aload 8, 2) := by decide +kernel
theorem dX10_join_47 : decode cX10_join 47 = .ok (.getfield 57, 3) := by decide +kernel
theorem dX10_join_50 : decode cX10_join 50 = .ok (.iadd, 1) := by decide +kernel
theorem dX10_join_51 : decode cX10_join 51 = .ok (.istore 9, 2) := by decide +kernel
theorem dX10_join_53 : decode cX10_join 53 = .ok (.iload 9, 2) := by decide +kernel
theorem dX10_join_55 : decode cX10_join 55 = .ok (.iconst 4, 1) := by decide +kernel
theorem dX10_join_56 : decode cX10_join 56 = .ok (.if_icmp .le 13, 3) := by decide +kernel
theorem dX10_join_59 : decode cX10_join 59 = .ok (.new 28, 3) := by decide +kernel
theorem dX10_join_62 : decode cX10_join 62 = .ok (.dup, 1) := by decide +kernel
theorem dX10_join_63 : decode cX10_join 63 = .ok (.ldc 82, 2) := by decide +kernel
theorem dX10_join_65 : decode cX10_join 65 = .ok (.invokespecial 32, 3) := by decide +kernel
theorem dX10_join_68 : decode cX10_join 68 = .ok (.athrow, 1) := by decide +kernel
theorem dX10_join_69 : decode cX10_join 69 = .ok (.aload 6, 2) := by decide +kernel
theorem dX10_join_71 : decode cX10_join 71 = .ok (.iload 9, 2) := by decide +kernel
theorem dX10_join_73 : decode cX10_join 73 = .ok (.new 84, 3) := by decide +kernel
theorem dX10_join_76 : decode cX10_join 76 = .ok (.dup, 1) := by decide +kernel
theorem dX10_join_77 : decode cX10_join 77 = .ok (.aload 7, 2) := by decide +kernel
theorem dX10_join_79 : decode cX10_join 79 = .ok (.aload 8, 2) := by decide +kernel
theorem dX10_join_81 : decode cX10_join 81 = .ok (.iload 4, 2) := by decide +kernel
theorem dX10_join_83 : decode cX10_join 83 = .ok (.iload 5, 2) := by decide +kernel
theorem dX10_join_85 : decode cX10_join 85 = .ok (.invokespecial 86, 3) := by decide +kernel
theorem dX10_join_88 : decode cX10_join 88 = .ok (.invokestatic 66, 3) := by decide +kernel
theorem dX10_join_91 : decode cX10_join 91 = .ok (.return_, 1) := by decide +kernel
theorem dX10_both_0 : decode cX10_both 0 = .ok (.aload_n 0, 1) := by decide +kernel
theorem dX10_both_1 : decode cX10_both 1 = .ok (.iload_n 1, 1) := by decide +kernel
theorem dX10_both_2 : decode cX10_both 2 = .ok (.invokevirtual 20, 3) := by decide +kernel
theorem dX10_both_5 : decode cX10_both 5 = .ok (.astore 5, 2) := by decide +kernel
theorem dX10_both_7 : decode cX10_both 7 = .ok (.aload_n 0, 1) := by decide +kernel
theorem dX10_both_8 : decode cX10_both 8 = .ok (.iload_n 2, 1) := by decide +kernel
theorem dX10_both_9 : decode cX10_both 9 = .ok (.invokevirtual 48, 3) := by decide +kernel
theorem dX10_both_12 : decode cX10_both 12 = .ok (.astore 6, 2) := by decide +kernel
theorem dX10_both_14 : decode cX10_both 14 = .ok (.aload_n 0, 1) := by decide +kernel
theorem dX10_both_15 : decode cX10_both 15 = .ok (.iload_n 3, 1) := by decide +kernel
theorem dX10_both_16 : decode cX10_both 16 = .ok (.invokevirtual 48, 3) := by decide +kernel
theorem dX10_both_19 : decode cX10_both 19 = .ok (.astore 7, 2) := by decide +kernel
theorem dX10_both_21 : decode cX10_both 21 = .ok (.aload 5, 2) := by decide +kernel
theorem dX10_both_23 : decode cX10_both 23 = .ok (.invokestatic 24, 3) := by decide +kernel
theorem dX10_both_26 : decode cX10_both 26 = .ok (.aload 6, 2) := by decide +kernel
theorem dX10_both_28 : decode cX10_both 28 = .ok (.getfield 57, 3) := by decide +kernel
theorem dX10_both_31 : decode cX10_both 31 = .ok (.aload 7, 2) := by decide +kernel
theorem dX10_both_33 : decode cX10_both 33 = .ok (.getfield 57, 3) := by decide +kernel
theorem dX10_both_36 : decode cX10_both 36 = .ok (.if_icmp .eq 13, 3) := by decide +kernel
theorem dX10_both_39 : decode cX10_both 39 = .ok (.new 28, 3) := by decide +kernel
theorem dX10_both_42 : decode cX10_both 42 = .ok (.dup, 1) := by decide +kernel
theorem dX10_both_43 : decode cX10_both 43 = .ok (.ldc 89, 2) := by decide +kernel
theorem dX10_both_45 : decode cX10_both 45 = .ok (.invokespecial 32, 3) := by decide +kernel
theorem dX10_both_48 : decode cX10_both 48 = .ok (.athrow, 1) := by decide +kernel
theorem dX10_both_49 : decode cX10_both 49 = .ok (.iload 4, 2) := by decide +kernel
theorem dX10_both_51 : decode cX10_both 51 = .ok (.ifCond .eq 17, 3) := by decide +kernel
theorem dX10_both_54 : decode cX10_both 54 = .ok (.new 91, 3) := by decide +kernel
theorem dX10_both_57 : decode cX10_both 57 = .ok (.dup, 1) := by decide +kernel
theorem dX10_both_58 : decode cX10_both 58 = .ok (.aload 6, 2) := by decide +kernel
theorem dX10_both_60 : decode cX10_both 60 = .ok (.aload 7, 2) := by decide +kernel
theorem dX10_both_62 : decode cX10_both 62 = .ok (.invokespecial 93, 3) := by decide +kernel
theorem dX10_both_65 : decode cX10_both 65 = .ok (.goto 14, 3) := by decide +kernel
theorem dX10_both_68 : decode cX10_both 68 = .ok (.new 96, 3) := by decide +kernel
theorem dX10_both_71 : decode cX10_both 71 = .ok (.dup, 1) := by decide +kernel
theorem dX10_both_72 : decode cX10_both 72 = .ok (.aload 6, 2) := by decide +kernel
theorem dX10_both_74 : decode cX10_both 74 = .ok (.aload 7, 2) := by decide +kernel
theorem dX10_both_76 : decode cX10_both 76 = .ok (.invokespecial 98, 3) := by decide +kernel
theorem dX10_both_79 : decode cX10_both 79 = .ok (.astore 8, 2) := by decide +kernel
theorem dX10_both_81 : decode cX10_both 81 = .ok (.aload 5, 2) := by decide +kernel
theorem dX10_both_83 : decode cX10_both 83 = .ok (.aload 6, 2) := by decide +kernel
theorem dX10_both_85 : decode cX10_both 85 = .ok (.getfield 57, 3) := by decide +kernel
theorem dX10_both_88 : decode cX10_both 88 = .ok (.aload 8, 2) := by decide +kernel
theorem dX10_both_90 : decode cX10_both 90 = .ok (.invokestatic 66, 3) := by decide +kernel
theorem dX10_both_93 : decode cX10_both 93 = .ok (.return_, 1) := by decide +kernel
theorem dX10_once_0 : decode cX10_once 0 = .ok (.aload_n 0, 1) := by decide +kernel
theorem dX10_once_1 : decode cX10_once 1 = .ok (.iload_n 1, 1) := by decide +kernel
theorem dX10_once_2 : decode cX10_once 2 = .ok (.invokevirtual 20, 3) := by decide +kernel
theorem dX10_once_5 : decode cX10_once 5 = .ok (.astore_n 3, 1) := by decide +kernel
theorem dX10_once_6 : decode cX10_once 6 = .ok (.aload_n 0, 1) := by decide +kernel
theorem dX10_once_7 : decode cX10_once 7 = .ok (.iload_n 2, 1) := by decide +kernel
theorem dX10_once_8 : decode cX10_once 8 = .ok (.invokevirtual 48, 3) := by decide +kernel
theorem dX10_once_11 : decode cX10_once 11 = .ok (.astore 4, 2) := by decide +kernel
theorem dX10_once_13 : decode cX10_once 13 = .ok (.aload_n 3, 1) := by decide +kernel
theorem dX10_once_14 : decode cX10_once 14 = .ok (.invokestatic 24, 3) := by decide +kernel
theorem dX10_once_17 : decode cX10_once 17 = .ok (.aload_n 3, 1) := by decide +kernel
theorem dX10_once_18 : decode cX10_once 18 = .ok (.aload 4, 2) := by decide +kernel
theorem dX10_once_20 : decode cX10_once 20 = .ok (.getfield 57, 3) := by decide +kernel
theorem dX10_once_23 : decode cX10_once 23 = .ok (.new 99, 3) := by decide +kernel
theorem dX10_once_26 : decode cX10_once 26 = .ok (.dup, 1) := by decide +kernel
theorem dX10_once_27 : decode cX10_once 27 = .ok (.aload 4, 2) := by decide +kernel
theorem dX10_once_29 : decode cX10_once 29 = .ok (.invokespecial 101, 3) := by decide +kernel
theorem dX10_once_32 : decode cX10_once 32 = .ok (.invokestatic 66, 3) := by decide +kernel
theorem dX10_once_35 : decode cX10_once 35 = .ok (.return_, 1) := by decide +kernel
theorem dX10_group_0 : decode cX10_group 0 = .ok (.aload_n 0, 1) := by decide +kernel
theorem dX10_group_1 : decode cX10_group 1 = .ok (.iload_n 1, 1) := by decide +kernel
theorem dX10_group_2 : decode cX10_group 2 = .ok (.invokevirtual 20, 3) := by decide +kernel
theorem dX10_group_5 : decode cX10_group 5 = .ok (.astore 6, 2) := by decide +kernel
theorem dX10_group_7 : decode cX10_group 7 = .ok (.aload_n 0, 1) := by decide +kernel
theorem dX10_group_8 : decode cX10_group 8 = .ok (.iload_n 2, 1) := by decide +kernel
theorem dX10_group_9 : decode cX10_group 9 = .ok (.invokevirtual 48, 3) := by decide +kernel
theorem dX10_group_12 : decode cX10_group 12 = .ok (.astore 7, 2) := by decide +kernel
theorem dX10_group_14 : decode cX10_group 14 = .ok (.aload 7, 2) := by decide +kernel
theorem dX10_group_16 : decode cX10_group 16 = .ok (.iload_n 3, 1) := by decide +kernel
theorem dX10_group_17 : decode cX10_group 17 = .ok (.invokestatic 70, 3) := by decide +kernel
theorem dX10_group_20 : decode cX10_group 20 = .ok (.aload 7, 2) := by decide +kernel
theorem dX10_group_22 : decode cX10_group 22 = .ok (.iload 5, 2) := by decide +kernel
theorem dX10_group_24 : decode cX10_group 24 = .ok (.invokestatic 51, 3) := by decide +kernel
theorem dX10_group_27 : decode cX10_group 27 = .ok (.aload 6, 2) := by decide +kernel
theorem dX10_group_29 : decode cX10_group 29 = .ok (.invokestatic 24, 3) := by decide +kernel
theorem dX10_group_32 : decode cX10_group 32 = .ok (.iload 4, 2) := by decide +kernel
theorem dX10_group_34 : decode cX10_group 34 = .ok (.ifCond .lt 9, 3) := by decide +kernel
theorem dX10_group_37 : decode cX10_group 37 = .ok (.iload 4, 2) := by decide +kernel
theorem dX10_group_39 : decode cX10_group 39 = .ok (.iconst 3, 1) := by decide +kernel
theorem dX10_group_40 : decode cX10_group 40 = .ok (.if_icmp .le 13, 3) := by decide +kernel
theorem dX10_group_43 : decode cX10_group 43 = .ok (.new 28, 3) := by decide +kernel
theorem dX10_group_46 : decode cX10_group 46 = .ok (.dup, 1) := by decide +kernel
theorem dX10_group_47 : decode cX10_group 47 = .ok (.ldc 103, 2) := by decide +kernel
theorem dX10_group_49 : decode cX10_group 49 = .ok (.invokespecial 32, 3) := by decide +kernel
theorem dX10_group_52 : decode cX10_group 52 = .ok (.athrow, 1) := by decide +kernel
theorem dX10_group_53 : decode cX10_group 53 = .ok (.aload 6, 2) := by decide +kernel
theorem dX10_group_55 : decode cX10_group 55 = .ok (.iload_n 3, 1) := by decide +kernel
theorem dX10_group_56 : decode cX10_group 56 = .ok (.iconst (-1), 1) := by decide +kernel
theorem dX10_group_57 : decode cX10_group 57 = .ok (.if_icmp .ne 7, 3) := by decide +kernel
theorem dX10_group_60 : decode cX10_group 60 = .ok (.iconst 1, 1) := by decide +kernel
theorem dX10_group_61 : decode cX10_group 61 = .ok (.goto 4, 3) := by decide +kernel
theorem dX10_group_64 : decode cX10_group 64 = .ok (.iconst 2, 1) := by decide +kernel
theorem dX10_group_65 : decode cX10_group 65 = .ok (.new 105, 3) := by decide +kernel
theorem dX10_group_68 : decode cX10_group 68 = .ok (.dup, 1) := by decide +kernel
theorem dX10_group_69 : decode cX10_group 69 = .ok (.aload 7, 2) := by decide +kernel
theorem dX10_group_71 : decode cX10_group 71 = .ok (.iload_n 3, 1) := by decide +kernel
theorem dX10_group_72 : decode cX10_group 72 = .ok (.iload 4, 2) := by decide +kernel
theorem dX10_group_74 : decode cX10_group 74 = .ok (.iload 5, 2) := by decide +kernel
theorem dX10_group_76 : decode cX10_group 76 = .ok (.invokespecial 107, 3) := by decide +kernel
theorem dX10_group_79 : decode cX10_group 79 = .ok (.invokestatic 66, 3) := by decide +kernel
theorem dX10_group_82 : decode cX10_group 82 = .ok (.return_, 1) := by decide +kernel
theorem dX10_drop_0 : decode cX10_drop 0 = .ok (.aload_n 0, 1) := by decide +kernel
theorem dX10_drop_1 : decode cX10_drop 1 = .ok (.iload_n 1, 1) := by decide +kernel
theorem dX10_drop_2 : decode cX10_drop 2 = .ok (.invokevirtual 48, 3) := by decide +kernel
theorem dX10_drop_5 : decode cX10_drop 5 = .ok (.astore_n 2, 1) := by decide +kernel
theorem dX10_drop_6 : decode cX10_drop 6 = .ok (.aload_n 0, 1) := by decide +kernel
theorem dX10_drop_7 : decode cX10_drop 7 = .ok (.getfield 11, 3) := by decide +kernel
theorem dX10_drop_10 : decode cX10_drop 10 = .ok (.astore_n 3, 1) := by decide +kernel
theorem dX10_drop_11 : decode cX10_drop 11 = .ok (.aload_n 3, 1) := by decide +kernel
theorem dX10_drop_12 : decode cX10_drop 12 = .ok (.arraylength, 1) := by decide +kernel
theorem dX10_drop_13 : decode cX10_drop 13 = .ok (.istore 4, 2) := by decide +kernel
theorem dX10_drop_15 : decode cX10_drop 15 = .ok (.iconst 0, 1) := by decide +kernel
theorem dX10_drop_16 : decode cX10_drop 16 = .ok (.istore 5, 2) := by decide +kernel
theorem dX10_drop_18 : decode cX10_drop 18 = .ok (.iload 5, 2) := by decide +kernel
theorem dX10_drop_20 : decode cX10_drop 20 = .ok (.iload 4, 2) := by decide +kernel
theorem dX10_drop_22 : decode cX10_drop 22 = .ok (.if_icmp .ge 34, 3) := by decide +kernel
theorem dX10_drop_25 : decode cX10_drop 25 = .ok (.aload_n 3, 1) := by decide +kernel
theorem dX10_drop_26 : decode cX10_drop 26 = .ok (.iload 5, 2) := by decide +kernel
theorem dX10_drop_28 : decode cX10_drop 28 = .ok (.aaload, 1) := by decide +kernel
theorem dX10_drop_29 : decode cX10_drop 29 = .ok (.astore 6, 2) := by decide +kernel
theorem dX10_drop_31 : decode cX10_drop 31 = .ok (.aload 6, 2) := by decide +kernel
theorem dX10_drop_33 : decode cX10_drop 33 = .ok (.aload_n 2, 1) := by decide +kernel
theorem dX10_drop_34 : decode cX10_drop 34 = .ok (.invokevirtual 110, 3) := by decide +kernel
theorem dX10_drop_37 : decode cX10_drop 37 = .ok (.ifCond .eq 13, 3) := by decide +kernel
theorem dX10_drop_40 : decode cX10_drop 40 = .ok (.new 114, 3) := by decide +kernel
theorem dX10_drop_43 : decode cX10_drop 43 = .ok (.dup, 1) := by decide +kernel
theorem dX10_drop_44 : decode cX10_drop 44 = .ok (.ldc 116, 2) := by decide +kernel
theorem dX10_drop_46 : decode cX10_drop 46 = .ok (.invokespecial 118, 3) := by decide +kernel
theorem dX10_drop_49 : decode cX10_drop 49 = .ok (.athrow, 1) := by decide +kernel
theorem dX10_drop_50 : decode cX10_drop 50 = .ok (.iinc 5 1, 3) := by decide +kernel
theorem dX10_drop_53 : decode cX10_drop 53 = .ok (.goto (-35), 3) := by decide +kernel
theorem dX10_drop_56 : decode cX10_drop 56 = .ok (.aload_n 2, 1) := by decide +kernel
theorem dX10_drop_57 : decode cX10_drop 57 = .ok (.invokevirtual 119, 3) := by decide +kernel
theorem dX10_drop_60 : decode cX10_drop 60 = .ok (.return_, 1) := by decide +kernel
theorem dX10_put_0 : decode cX10_put 0 = .ok (.aload_n 0, 1) := by decide +kernel
theorem dX10_put_1 : decode cX10_put 1 = .ok (.iload_n 1, 1) := by decide +kernel
theorem dX10_put_2 : decode cX10_put 2 = .ok (.invokevirtual 122, 3) := by decide +kernel
theorem dX10_put_5 : decode cX10_put 5 = .ok (.astore 7, 2) := by decide +kernel
theorem dX10_put_7 : decode cX10_put 7 = .ok (.iload 6, 2) := by decide +kernel
theorem dX10_put_9 : decode cX10_put 9 = .ok (.ifCond .eq 17, 3) := by decide +kernel
theorem dX10_put_12 : decode cX10_put 12 = .ok (.iload 6, 2) := by decide +kernel
theorem dX10_put_14 : decode cX10_put 14 = .ok (.ldc 125, 2) := by decide +kernel
theorem dX10_put_16 : decode cX10_put 16 = .ok (.if_icmp .lt 10, 3) := by decide +kernel
theorem dX10_put_19 : decode cX10_put 19 = .ok (.iload 6, 2) := by decide +kernel
theorem dX10_put_21 : decode cX10_put 21 = .ok (.ldc 126, 2) := by decide +kernel
theorem dX10_put_23 : decode cX10_put 23 = .ok (.if_icmp .le 13, 3) := by decide +kernel
theorem dX10_put_26 : decode cX10_put 26 = .ok (.new 28, 3) := by decide +kernel
theorem dX10_put_29 : decode cX10_put 29 = .ok (.dup, 1) := by decide +kernel
theorem dX10_put_30 : decode cX10_put 30 = .ok (.ldc 127, 2) := by decide +kernel
theorem dX10_put_32 : decode cX10_put 32 = .ok (.invokespecial 32, 3) := by decide +kernel
theorem dX10_put_35 : decode cX10_put 35 = .ok (.athrow, 1) := by decide +kernel
theorem dX10_put_36 : decode cX10_put 36 = .ok (.aload_n 0, 1) := by decide +kernel
theorem dX10_put_37 : decode cX10_put 37 = .ok (.aload 7, 2) := by decide +kernel
theorem dX10_put_39 : decode cX10_put 39 = .ok (.iload_n 2, 1) := by decide +kernel
theorem dX10_put_40 : decode cX10_put 40 = .ok (.iload_n 3, 1) := by decide +kernel
theorem dX10_put_41 : decode cX10_put 41 = .ok (.iload 4, 2) := by decide +kernel
theorem dX10_put_43 : decode cX10_put 43 = .ok (.iload 5, 2) := by decide +kernel
theorem dX10_put_45 : decode cX10_put 45 = .ok (.invokevirtual 129, 3) := by decide +kernel
theorem dX10_put_48 : decode cX10_put 48 = .ok (.aload 7, 2) := by decide +kernel
theorem dX10_put_50 : decode cX10_put 50 = .ok (.getfield 35, 3) := by decide +kernel
theorem dX10_put_53 : decode cX10_put 53 = .ok (.aload_n 0, 1) := by decide +kernel
theorem dX10_put_54 : decode cX10_put 54 = .ok (.getfield 15, 3) := by decide +kernel
theorem dX10_put_57 : decode cX10_put 57 = .ok (.invokevirtual 133, 3) := by decide +kernel
theorem dX10_put_60 : decode cX10_put 60 = .ok (.istore 8, 2) := by decide +kernel
theorem dX10_put_62 : decode cX10_put 62 = .ok (.iload 8, 2) := by decide +kernel
theorem dX10_put_64 : decode cX10_put 64 = .ok (.iload 6, 2) := by decide +kernel
theorem dX10_put_66 : decode cX10_put 66 = .ok (.iadd, 1) := by decide +kernel
theorem dX10_put_67 : decode cX10_put 67 = .ok (.ifCond .ge 13, 3) := by decide +kernel
theorem dX10_put_70 : decode cX10_put 70 = .ok (.new 28, 3) := by decide +kernel
theorem dX10_put_73 : decode cX10_put 73 = .ok (.dup, 1) := by decide +kernel
theorem dX10_put_74 : decode cX10_put 74 = .ok (.ldc 136, 2) := by decide +kernel
theorem dX10_put_76 : decode cX10_put 76 = .ok (.invokespecial 32, 3) := by decide +kernel
theorem dX10_put_79 : decode cX10_put 79 = .ok (.athrow, 1) := by decide +kernel
theorem dX10_put_80 : decode cX10_put 80 = .ok (.aload 7, 2) := by decide +kernel
theorem dX10_put_82 : decode cX10_put 82 = .ok (.getfield 138, 3) := by decide +kernel
theorem dX10_put_85 : decode cX10_put 85 = .ok (.aload 7, 2) := by decide +kernel
theorem dX10_put_87 : decode cX10_put 87 = .ok (.getfield 35, 3) := by decide +kernel
theorem dX10_put_90 : decode cX10_put 90 = .ok (.invokevirtual 141, 3) := by decide +kernel
theorem dX10_put_93 : decode cX10_put 93 = .ok (.aload_n 0, 1) := by decide +kernel
theorem dX10_put_94 : decode cX10_put 94 = .ok (.aload 7, 2) := by decide +kernel
theorem dX10_put_96 : decode cX10_put 96 = .ok (.getfield 138, 3) := by decide +kernel
theorem dX10_put_99 : decode cX10_put 99 = .ok (.aload_n 0, 1) := by decide +kernel
theorem dX10_put_100 : decode cX10_put 100 = .ok (.getfield 15, 3) := by decide +kernel
theorem dX10_put_103 : decode cX10_put 103 = .ok (.iload 6, 2) := by decide +kernel
theorem dX10_put_105 : decode cX10_put 105 = .ok (.i2l, 1) := by decide +kernel
theorem dX10_put_106 : decode cX10_put 106 = .ok (.invokevirtual 145, 3) := by decide +kernel
theorem dX10_put_109 : decode cX10_put 109 = .ok (.ifCond .eq 16, 3) := by decide +kernel
theorem dX10_put_112 : decode cX10_put 112 = .ok (.aload_n 0, 1) := by decide +kernel
theorem dX10_put_113 : decode cX10_put 113 = .ok (.aload 7, 2) := by decide +kernel
theorem dX10_put_115 : decode cX10_put 115 = .ok (.invokevirtual 149, 3) := by decide +kernel
theorem dX10_put_118 : decode cX10_put 118 = .ok (.ifCond .eq 7, 3) := by decide +kernel
theorem dX10_put_121 : decode cX10_put 121 = .ok (.iconst 1, 1) := by decide +kernel
theorem dX10_put_122 : decode cX10_put 122 = .ok (.goto 4, 3) := by decide +kernel
theorem dX10_put_125 : decode cX10_put 125 = .ok (.iconst 0, 1) := by decide +kernel
theorem dX10_put_126 : decode cX10_put 126 = .ok (.invokevirtual 152, 3) := by decide +kernel
theorem dX10_put_129 : decode cX10_put 129 = .ok (.iload 8, 2) := by decide +kernel
theorem dX10_put_131 : decode cX10_put 131 = .ok (.iload 6, 2) := by decide +kernel
theorem dX10_put_133 : decode cX10_put 133 = .ok (.iadd, 1) := by decide +kernel
theorem dX10_put_134 : decode cX10_put 134 = .ok (.ireturn, 1) := by decide +kernel
theorem dX10_fill_0 : decode cX10_fill 0 = .ok (.aload_n 0, 1) := by decide +kernel
theorem dX10_fill_1 : decode cX10_fill 1 = .ok (.iload_n 1, 1) := by decide +kernel
theorem dX10_fill_2 : decode cX10_fill 2 = .ok (.invokevirtual 122, 3) := by decide +kernel
theorem dX10_fill_5 : decode cX10_fill 5 = .ok (.astore 7, 2) := by decide +kernel
theorem dX10_fill_7 : decode cX10_fill 7 = .ok (.iload 6, 2) := by decide +kernel
theorem dX10_fill_9 : decode cX10_fill 9 = .ok (.iconst 1, 1) := by decide +kernel
theorem dX10_fill_10 : decode cX10_fill 10 = .ok (.if_icmp .lt 10, 3) := by decide +kernel
theorem dX10_fill_13 : decode cX10_fill 13 = .ok (.iload 6, 2) := by decide +kernel
theorem dX10_fill_15 : decode cX10_fill 15 = .ok (.bipush 40, 2) := by decide +kernel
theorem dX10_fill_17 : decode cX10_fill 17 = .ok (.if_icmp .le 13, 3) := by decide +kernel
theorem dX10_fill_20 : decode cX10_fill 20 = .ok (.new 28, 3) := by decide +kernel
theorem dX10_fill_23 : decode cX10_fill 23 = .ok (.dup, 1) := by decide +kernel
theorem dX10_fill_24 : decode cX10_fill 24 = .ok (.ldc 156, 2) := by decide +kernel
theorem dX10_fill_26 : decode cX10_fill 26 = .ok (.invokespecial 32, 3) := by decide +kernel
theorem dX10_fill_29 : decode cX10_fill 29 = .ok (.athrow, 1) := by decide +kernel
theorem dX10_fill_30 : decode cX10_fill 30 = .ok (.aload 7, 2) := by decide +kernel
theorem dX10_fill_32 : decode cX10_fill 32 = .ok (.getfield 138, 3) := by decide +kernel
theorem dX10_fill_35 : decode cX10_fill 35 = .ok (.aload 7, 2) := by decide +kernel
theorem dX10_fill_37 : decode cX10_fill 37 = .ok (.getfield 35, 3) := by decide +kernel
theorem dX10_fill_40 : decode cX10_fill 40 = .ok (.invokevirtual 141, 3) := by decide +kernel
theorem dX10_fill_43 : decode cX10_fill 43 = .ok (.iconst 1, 1) := by decide +kernel
theorem dX10_fill_44 : decode cX10_fill 44 = .ok (.istore 8, 2) := by decide +kernel
theorem dX10_fill_46 : decode cX10_fill 46 = .ok (.iconst 0, 1) := by decide +kernel
theorem dX10_fill_47 : decode cX10_fill 47 = .ok (.istore 9, 2) := by decide +kernel
theorem dX10_fill_49 : decode cX10_fill 49 = .ok (.iload 9, 2) := by decide +kernel
theorem dX10_fill_51 : decode cX10_fill 51 = .ok (.iload 6, 2) := by decide +kernel
theorem dX10_fill_53 : decode cX10_fill 53 = .ok (.if_icmp .ge 51, 3) := by decide +kernel
theorem dX10_fill_56 : decode cX10_fill 56 = .ok (.iload 8, 2) := by decide +kernel
theorem dX10_fill_58 : decode cX10_fill 58 = .ok (.ifCond .eq 46, 3) := by decide +kernel
theorem dX10_fill_61 : decode cX10_fill 61 = .ok (.aload_n 0, 1) := by decide +kernel
theorem dX10_fill_62 : decode cX10_fill 62 = .ok (.aload 7, 2) := by decide +kernel
theorem dX10_fill_64 : decode cX10_fill 64 = .ok (.iload_n 2, 1) := by decide +kernel
theorem dX10_fill_65 : decode cX10_fill 65 = .ok (.iload 9, 2) := by decide +kernel
theorem dX10_fill_67 : decode cX10_fill 67 = .ok (.iload_n 3, 1) := by decide +kernel
theorem dX10_fill_68 : decode cX10_fill 68 = .ok (.imul, 1) := by decide +kernel
theorem dX10_fill_69 : decode cX10_fill 69 = .ok (.iadd, 1) := by decide +kernel
theorem dX10_fill_70 : decode cX10_fill 70 = .ok (.iload 4, 2) := by decide +kernel
theorem dX10_fill_72 : decode cX10_fill 72 = .ok (.iload 9, 2) := by decide +kernel
theorem dX10_fill_74 : decode cX10_fill 74 = .ok (.iload 5, 2) := by decide +kernel
theorem dX10_fill_76 : decode cX10_fill 76 = .ok (.imul, 1) := by decide +kernel
theorem dX10_fill_77 : decode cX10_fill 77 = .ok (.iadd, 1) := by decide +kernel
theorem dX10_fill_78 : decode cX10_fill 78 = .ok (.iconst 0, 1) := by decide +kernel
theorem dX10_fill_79 : decode cX10_fill 79 = .ok (.iconst 0, 1) := by decide +kernel
theorem dX10_fill_80 : decode cX10_fill 80 = .ok (.invokevirtual 129, 3) := by decide +kernel
theorem dX10_fill_83 : decode cX10_fill 83 = .ok (.aload 7, 2) := by decide +kernel
theorem dX10_fill_85 : decode cX10_fill 85 = .ok (.getfield 138, 3) := by decide +kernel
theorem dX10_fill_88 : decode cX10_fill 88 = .ok (.aload_n 0, 1) := by decide +kernel
theorem dX10_fill_89 : decode cX10_fill 89 = .ok (.getfield 15, 3) := by decide +kernel
theorem dX10_fill_92 : decode cX10_fill 92 = .ok (.lconst 1, 1) := by decide +kernel
theorem dX10_fill_93 : decode cX10_fill 93 = .ok (.invokevirtual 145, 3) := by decide +kernel
theorem dX10_fill_96 : decode cX10_fill 96 = .ok (.istore 8, 2) := by decide +kernel
theorem dX10_fill_98 : decode cX10_fill 98 = .ok (.iinc 9 1, 3) := by decide +kernel
theorem dX10_fill_101 : decode cX10_fill 101 = .ok (.goto (-52), 3) := by decide +kernel
theorem dX10_fill_104 : decode cX10_fill 104 = .ok (.aload_n 0, 1) := by decide +kernel
theorem dX10_fill_105 : decode cX10_fill 105 = .ok (.iload 8, 2) := by decide +kernel
theorem dX10_fill_107 : decode cX10_fill 107 = .ok (.ifCond .eq 16, 3) := by decide +kernel
theorem dX10_fill_110 : decode cX10_fill 110 = .ok (.aload_n 0, 1) := by decide +kernel
theorem dX10_fill_111 : decode cX10_fill 111 = .ok (.aload 7, 2) := by decide +kernel
theorem dX10_fill_113 : decode cX10_fill 113 = .ok (.invokevirtual 149, 3) := by decide +kernel
theorem dX10_fill_116 : decode cX10_fill 116 = .ok (.ifCond .eq 7, 3) := by decide +kernel
theorem dX10_fill_119 : decode cX10_fill 119 = .ok (.iconst 1, 1) := by decide +kernel
theorem dX10_fill_120 : decode cX10_fill 120 = .ok (.goto 4, 3) := by decide +kernel
theorem dX10_fill_123 : decode cX10_fill 123 = .ok (.iconst 0, 1) := by decide +kernel
theorem dX10_fill_124 : decode cX10_fill 124 = .ok (.invokevirtual 152, 3) := by decide +kernel
theorem dX10_fill_127 : decode cX10_fill 127 = .ok (.aload 7, 2) := by decide +kernel
theorem dX10_fill_129 : decode cX10_fill 129 = .ok (.getfield 35, 3) := by decide +kernel
theorem dX10_fill_132 : decode cX10_fill 132 = .ok (.getfield 158, 3) := by decide +kernel
theorem dX10_fill_135 : decode cX10_fill 135 = .ok (.ireturn, 1) := by decide +kernel
theorem dX10_width_0 : decode cX10_width 0 = .ok (.aload_n 0, 1) := by decide +kernel
theorem dX10_width_1 : decode cX10_width 1 = .ok (.iload_n 1, 1) := by decide +kernel
theorem dX10_width_2 : decode cX10_width 2 = .ok (.invokevirtual 20, 3) := by decide +kernel
theorem dX10_width_5 : decode cX10_width 5 = .ok (.getfield 57, 3) := by decide +kernel
theorem dX10_width_8 : decode cX10_width 8 = .ok (.ireturn, 1) := by decide +kernel
theorem dX10_rows_0 : decode cX10_rows 0 = .ok (.aload_n 0, 1) := by decide +kernel
theorem dX10_rows_1 : decode cX10_rows 1 = .ok (.iload_n 1, 1) := by decide +kernel
theorem dX10_rows_2 : decode cX10_rows 2 = .ok (.invokevirtual 48, 3) := by decide +kernel
theorem dX10_rows_5 : decode cX10_rows 5 = .ok (.getfield 35, 3) := by decide +kernel
theorem dX10_rows_8 : decode cX10_rows 8 = .ok (.getfield 158, 3) := by decide +kernel
theorem dX10_rows_11 : decode cX10_rows 11 = .ok (.ireturn, 1) := by decide +kernel
theorem dX10_size_0 : decode cX10_size 0 = .ok (.aload_n 0, 1) := by decide +kernel
theorem dX10_size_1 : decode cX10_size 1 = .ok (.iload_n 1, 1) := by decide +kernel
theorem dX10_size_2 : decode cX10_size 2 = .ok (.invokevirtual 48, 3) := by decide +kernel
theorem dX10_size_5 : decode cX10_size 5 = .ok (.getfield 35, 3) := by decide +kernel
theorem dX10_size_8 : decode cX10_size 8 = .ok (.invokevirtual 161, 3) := by decide +kernel
theorem dX10_size_11 : decode cX10_size 11 = .ok (.lreturn, 1) := by decide +kernel
theorem dX10_times_0 : decode cX10_times 0 = .ok (.aload_n 0, 1) := by decide +kernel
theorem dX10_times_1 : decode cX10_times 1 = .ok (.iload_n 1, 1) := by decide +kernel
theorem dX10_times_2 : decode cX10_times 2 = .ok (.invokevirtual 48, 3) := by decide +kernel
theorem dX10_times_5 : decode cX10_times 5 = .ok (.astore 6, 2) := by decide +kernel
theorem dX10_times_7 : decode cX10_times 7 = .ok (.aload_n 0, 1) := by decide +kernel
theorem dX10_times_8 : decode cX10_times 8 = .ok (.aload 6, 2) := by decide +kernel
theorem dX10_times_10 : decode cX10_times 10 = .ok (.iload_n 2, 1) := by decide +kernel
theorem dX10_times_11 : decode cX10_times 11 = .ok (.iload_n 3, 1) := by decide +kernel
theorem dX10_times_12 : decode cX10_times 12 = .ok (.iload 4, 2) := by decide +kernel
theorem dX10_times_14 : decode cX10_times 14 = .ok (.iload 5, 2) := by decide +kernel
theorem dX10_times_16 : decode cX10_times 16 = .ok (.invokevirtual 129, 3) := by decide +kernel
theorem dX10_times_19 : decode cX10_times 19 = .ok (.aload 6, 2) := by decide +kernel
theorem dX10_times_21 : decode cX10_times 21 = .ok (.getfield 35, 3) := by decide +kernel
theorem dX10_times_24 : decode cX10_times 24 = .ok (.aload_n 0, 1) := by decide +kernel
theorem dX10_times_25 : decode cX10_times 25 = .ok (.getfield 15, 3) := by decide +kernel
theorem dX10_times_28 : decode cX10_times 28 = .ok (.invokevirtual 133, 3) := by decide +kernel
theorem dX10_times_31 : decode cX10_times 31 = .ok (.ireturn, 1) := by decide +kernel
theorem dX10_cell_0 : decode cX10_cell 0 = .ok (.aload_n 0, 1) := by decide +kernel
theorem dX10_cell_1 : decode cX10_cell 1 = .ok (.iload_n 1, 1) := by decide +kernel
theorem dX10_cell_2 : decode cX10_cell 2 = .ok (.invokevirtual 48, 3) := by decide +kernel
theorem dX10_cell_5 : decode cX10_cell 5 = .ok (.astore 4, 2) := by decide +kernel
theorem dX10_cell_7 : decode cX10_cell 7 = .ok (.iload_n 2, 1) := by decide +kernel
theorem dX10_cell_8 : decode cX10_cell 8 = .ok (.ifCond .lt 15, 3) := by decide +kernel
theorem dX10_cell_11 : decode cX10_cell 11 = .ok (.iload_n 2, 1) := by decide +kernel
theorem dX10_cell_12 : decode cX10_cell 12 = .ok (.aload 4, 2) := by decide +kernel
theorem dX10_cell_14 : decode cX10_cell 14 = .ok (.getfield 35, 3) := by decide +kernel
theorem dX10_cell_17 : decode cX10_cell 17 = .ok (.getfield 158, 3) := by decide +kernel
theorem dX10_cell_20 : decode cX10_cell 20 = .ok (.if_icmp .lt 13, 3) := by decide +kernel
theorem dX10_cell_23 : decode cX10_cell 23 = .ok (.new 165, 3) := by decide +kernel
theorem dX10_cell_26 : decode cX10_cell 26 = .ok (.dup, 1) := by decide +kernel
theorem dX10_cell_27 : decode cX10_cell 27 = .ok (.ldc 167, 2) := by decide +kernel
theorem dX10_cell_29 : decode cX10_cell 29 = .ok (.invokespecial 169, 3) := by decide +kernel
theorem dX10_cell_32 : decode cX10_cell 32 = .ok (.athrow, 1) := by decide +kernel
theorem dX10_cell_33 : decode cX10_cell 33 = .ok (.iload_n 3, 1) := by decide +kernel
theorem dX10_cell_34 : decode cX10_cell 34 = .ok (.aload 4, 2) := by decide +kernel
theorem dX10_cell_36 : decode cX10_cell 36 = .ok (.getfield 57, 3) := by decide +kernel
theorem dX10_cell_39 : decode cX10_cell 39 = .ok (.if_icmp .ne 14, 3) := by decide +kernel
theorem dX10_cell_42 : decode cX10_cell 42 = .ok (.aload 4, 2) := by decide +kernel
theorem dX10_cell_44 : decode cX10_cell 44 = .ok (.getfield 35, 3) := by decide +kernel
theorem dX10_cell_47 : decode cX10_cell 47 = .ok (.getfield 170, 3) := by decide +kernel
theorem dX10_cell_50 : decode cX10_cell 50 = .ok (.iload_n 2, 1) := by decide +kernel
theorem dX10_cell_51 : decode cX10_cell 51 = .ok (.iaload, 1) := by decide +kernel
theorem dX10_cell_52 : decode cX10_cell 52 = .ok (.ireturn, 1) := by decide +kernel
theorem dX10_cell_53 : decode cX10_cell 53 = .ok (.aload 4, 2) := by decide +kernel
theorem dX10_cell_55 : decode cX10_cell 55 = .ok (.iload_n 3, 1) := by decide +kernel
theorem dX10_cell_56 : decode cX10_cell 56 = .ok (.invokestatic 51, 3) := by decide +kernel
theorem dX10_cell_59 : decode cX10_cell 59 = .ok (.aload 4, 2) := by decide +kernel
theorem dX10_cell_61 : decode cX10_cell 61 = .ok (.getfield 35, 3) := by decide +kernel
theorem dX10_cell_64 : decode cX10_cell 64 = .ok (.iload_n 2, 1) := by decide +kernel
theorem dX10_cell_65 : decode cX10_cell 65 = .ok (.iload_n 3, 1) := by decide +kernel
theorem dX10_cell_66 : decode cX10_cell 66 = .ok (.invokevirtual 173, 3) := by decide +kernel
theorem dX10_cell_69 : decode cX10_cell 69 = .ok (.ireturn, 1) := by decide +kernel
theorem dX10_changed_0 : decode cX10_changed 0 = .ok (.aload_n 0, 1) := by decide +kernel
theorem dX10_changed_1 : decode cX10_changed 1 = .ok (.iload_n 1, 1) := by decide +kernel
theorem dX10_changed_2 : decode cX10_changed 2 = .ok (.invokevirtual 48, 3) := by decide +kernel
theorem dX10_changed_5 : decode cX10_changed 5 = .ok (.getfield 177, 3) := by decide +kernel
theorem dX10_changed_8 : decode cX10_changed 8 = .ok (.ireturn, 1) := by decide +kernel
theorem dX10_count_0 : decode cX10_count 0 = .ok (.iload_n 1, 1) := by decide +kernel
theorem dX10_count_1 : decode cX10_count 1 = .ok (.ifCond .lt 8, 3) := by decide +kernel
theorem dX10_count_4 : decode cX10_count 4 = .ok (.iload_n 1, 1) := by decide +kernel
theorem dX10_count_5 : decode cX10_count 5 = .ok (.iconst 2, 1) := by decide +kernel
theorem dX10_count_6 : decode cX10_count 6 = .ok (.if_icmp .le 13, 3) := by decide +kernel
theorem dX10_count_9 : decode cX10_count 9 = .ok (.new 28, 3) := by decide +kernel
theorem dX10_count_12 : decode cX10_count 12 = .ok (.dup, 1) := by decide +kernel
theorem dX10_count_13 : decode cX10_count 13 = .ok (.ldc 180, 2) := by decide +kernel
theorem dX10_count_15 : decode cX10_count 15 = .ok (.invokespecial 32, 3) := by decide +kernel
theorem dX10_count_18 : decode cX10_count 18 = .ok (.athrow, 1) := by decide +kernel
theorem dX10_count_19 : decode cX10_count 19 = .ok (.iconst 0, 1) := by decide +kernel
theorem dX10_count_20 : decode cX10_count 20 = .ok (.istore_n 2, 1) := by decide +kernel
theorem dX10_count_21 : decode cX10_count 21 = .ok (.aload_n 0, 1) := by decide +kernel
theorem dX10_count_22 : decode cX10_count 22 = .ok (.getfield 11, 3) := by decide +kernel
theorem dX10_count_25 : decode cX10_count 25 = .ok (.astore_n 3, 1) := by decide +kernel
theorem dX10_count_26 : decode cX10_count 26 = .ok (.aload_n 3, 1) := by decide +kernel
theorem dX10_count_27 : decode cX10_count 27 = .ok (.arraylength, 1) := by decide +kernel
theorem dX10_count_28 : decode cX10_count 28 = .ok (.istore 4, 2) := by decide +kernel
theorem dX10_count_30 : decode cX10_count 30 = .ok (.iconst 0, 1) := by decide +kernel
theorem dX10_count_31 : decode cX10_count 31 = .ok (.istore 5, 2) := by decide +kernel
theorem dX10_count_33 : decode cX10_count 33 = .ok (.iload 5, 2) := by decide +kernel
theorem dX10_count_35 : decode cX10_count 35 = .ok (.iload 4, 2) := by decide +kernel
theorem dX10_count_37 : decode cX10_count 37 = .ok (.if_icmp .ge 32, 3) := by decide +kernel
theorem dX10_count_40 : decode cX10_count 40 = .ok (.aload_n 3, 1) := by decide +kernel
theorem dX10_count_41 : decode cX10_count 41 = .ok (.iload 5, 2) := by decide +kernel
theorem dX10_count_43 : decode cX10_count 43 = .ok (.aaload, 1) := by decide +kernel
theorem dX10_count_44 : decode cX10_count 44 = .ok (.astore 6, 2) := by decide +kernel
theorem dX10_count_46 : decode cX10_count 46 = .ok (.aload 6, 2) := by decide +kernel
theorem dX10_count_48 : decode cX10_count 48 = .ok (.invokevirtual 182, 3) := by decide +kernel
theorem dX10_count_51 : decode cX10_count 51 = .ok (.ifCond .eq 12, 3) := by decide +kernel
theorem dX10_count_54 : decode cX10_count 54 = .ok (.iload_n 2, 1) := by decide +kernel
theorem dX10_count_55 : decode cX10_count 55 = .ok (.aload 6, 2) := by decide +kernel
theorem dX10_count_57 : decode cX10_count 57 = .ok (.iload_n 1, 1) := by decide +kernel
theorem dX10_count_58 : decode cX10_count 58 = .ok (.invokestatic 186, 3) := by decide +kernel
theorem dX10_count_61 : decode cX10_count 61 = .ok (.iadd, 1) := by decide +kernel
theorem dX10_count_62 : decode cX10_count 62 = .ok (.istore_n 2, 1) := by decide +kernel
theorem dX10_count_63 : decode cX10_count 63 = .ok (.iinc 5 1, 3) := by decide +kernel
theorem dX10_count_66 : decode cX10_count 66 = .ok (.goto (-33), 3) := by decide +kernel
theorem dX10_count_69 : decode cX10_count 69 = .ok (.iload_n 2, 1) := by decide +kernel
theorem dX10_count_70 : decode cX10_count 70 = .ok (.ireturn, 1) := by decide +kernel
theorem dX10_countIn_0 : decode cX10_countIn 0 = .ok (.iload_n 1, 1) := by decide +kernel
theorem dX10_countIn_1 : decode cX10_countIn 1 = .ok (.lookupswitch 42 #[(0, 27), (1, 29)], 27) := by decide +kernel
theorem dX10_countIn_28 : decode cX10_countIn 28 = .ok (.iconst 1, 1) := by decide +kernel
theorem dX10_countIn_29 : decode cX10_countIn 29 = .ok (.ireturn, 1) := by decide +kernel
theorem dX10_countIn_30 : decode cX10_countIn 30 = .ok (.aload_n 0, 1) := by decide +kernel
theorem dX10_countIn_31 : decode cX10_countIn 31 = .ok (.getfield 190, 3) := by decide +kernel
theorem dX10_countIn_34 : decode cX10_countIn 34 = .ok (.ifnonnull 7, 3) := by decide +kernel
theorem dX10_countIn_37 : decode cX10_countIn 37 = .ok (.iconst 1, 1) := by decide +kernel
theorem dX10_countIn_38 : decode cX10_countIn 38 = .ok (.goto 4, 3) := by decide +kernel
theorem dX10_countIn_41 : decode cX10_countIn 41 = .ok (.iconst 0, 1) := by decide +kernel
theorem dX10_countIn_42 : decode cX10_countIn 42 = .ok (.ireturn, 1) := by decide +kernel
theorem dX10_countIn_43 : decode cX10_countIn 43 = .ok (.aload_n 0, 1) := by decide +kernel
theorem dX10_countIn_44 : decode cX10_countIn 44 = .ok (.getfield 35, 3) := by decide +kernel
theorem dX10_countIn_47 : decode cX10_countIn 47 = .ok (.getfield 158, 3) := by decide +kernel
theorem dX10_countIn_50 : decode cX10_countIn 50 = .ok (.ireturn, 1) := by decide +kernel
theorem dX10_placeAt_0 : decode cX10_placeAt 0 = .ok (.iload_n 1, 1) := by decide +kernel
theorem dX10_placeAt_1 : decode cX10_placeAt 1 = .ok (.ifCond .lt 9, 3) := by decide +kernel
theorem dX10_placeAt_4 : decode cX10_placeAt 4 = .ok (.iload_n 1, 1) := by decide +kernel
theorem dX10_placeAt_5 : decode cX10_placeAt 5 = .ok (.bipush 8, 2) := by decide +kernel
theorem dX10_placeAt_7 : decode cX10_placeAt 7 = .ok (.if_icmp .lt 13, 3) := by decide +kernel
theorem dX10_placeAt_10 : decode cX10_placeAt 10 = .ok (.new 165, 3) := by decide +kernel
theorem dX10_placeAt_13 : decode cX10_placeAt 13 = .ok (.dup, 1) := by decide +kernel
theorem dX10_placeAt_14 : decode cX10_placeAt 14 = .ok (.ldc 194, 2) := by decide +kernel
theorem dX10_placeAt_16 : decode cX10_placeAt 16 = .ok (.invokespecial 169, 3) := by decide +kernel
theorem dX10_placeAt_19 : decode cX10_placeAt 19 = .ok (.athrow, 1) := by decide +kernel
theorem dX10_placeAt_20 : decode cX10_placeAt 20 = .ok (.aload_n 0, 1) := by decide +kernel
theorem dX10_placeAt_21 : decode cX10_placeAt 21 = .ok (.getfield 11, 3) := by decide +kernel
theorem dX10_placeAt_24 : decode cX10_placeAt 24 = .ok (.iload_n 1, 1) := by decide +kernel
theorem dX10_placeAt_25 : decode cX10_placeAt 25 = .ok (.aaload, 1) := by decide +kernel
theorem dX10_placeAt_26 : decode cX10_placeAt 26 = .ok (.areturn, 1) := by decide +kernel
theorem dX10_relationAt_0 : decode cX10_relationAt 0 = .ok (.aload_n 0, 1) := by decide +kernel
theorem dX10_relationAt_1 : decode cX10_relationAt 1 = .ok (.iload_n 1, 1) := by decide +kernel
theorem dX10_relationAt_2 : decode cX10_relationAt 2 = .ok (.invokevirtual 20, 3) := by decide +kernel
theorem dX10_relationAt_5 : decode cX10_relationAt 5 = .ok (.astore_n 2, 1) := by decide +kernel
theorem dX10_relationAt_6 : decode cX10_relationAt 6 = .ok (.aload_n 2, 1) := by decide +kernel
theorem dX10_relationAt_7 : decode cX10_relationAt 7 = .ok (.invokevirtual 182, 3) := by decide +kernel
theorem dX10_relationAt_10 : decode cX10_relationAt 10 = .ok (.ifCond .ne 13, 3) := by decide +kernel
theorem dX10_relationAt_13 : decode cX10_relationAt 13 = .ok (.new 165, 3) := by decide +kernel
theorem dX10_relationAt_16 : decode cX10_relationAt 16 = .ok (.dup, 1) := by decide +kernel
theorem dX10_relationAt_17 : decode cX10_relationAt 17 = .ok (.ldc 196, 2) := by decide +kernel
theorem dX10_relationAt_19 : decode cX10_relationAt 19 = .ok (.invokespecial 169, 3) := by decide +kernel
theorem dX10_relationAt_22 : decode cX10_relationAt 22 = .ok (.athrow, 1) := by decide +kernel
theorem dX10_relationAt_23 : decode cX10_relationAt 23 = .ok (.aload_n 2, 1) := by decide +kernel
theorem dX10_relationAt_24 : decode cX10_relationAt 24 = .ok (.areturn, 1) := by decide +kernel
theorem dX10_tableAt_0 : decode cX10_tableAt 0 = .ok (.aload_n 0, 1) := by decide +kernel
theorem dX10_tableAt_1 : decode cX10_tableAt 1 = .ok (.iload_n 1, 1) := by decide +kernel
theorem dX10_tableAt_2 : decode cX10_tableAt 2 = .ok (.invokevirtual 48, 3) := by decide +kernel
theorem dX10_tableAt_5 : decode cX10_tableAt 5 = .ok (.astore_n 2, 1) := by decide +kernel
theorem dX10_tableAt_6 : decode cX10_tableAt 6 = .ok (.aload_n 2, 1) := by decide +kernel
theorem dX10_tableAt_7 : decode cX10_tableAt 7 = .ok (.getfield 190, 3) := by decide +kernel
theorem dX10_tableAt_10 : decode cX10_tableAt 10 = .ok (.ifnull 13, 3) := by decide +kernel
theorem dX10_tableAt_13 : decode cX10_tableAt 13 = .ok (.new 114, 3) := by decide +kernel
theorem dX10_tableAt_16 : decode cX10_tableAt 16 = .ok (.dup, 1) := by decide +kernel
theorem dX10_tableAt_17 : decode cX10_tableAt 17 = .ok (.ldc 198, 2) := by decide +kernel
theorem dX10_tableAt_19 : decode cX10_tableAt 19 = .ok (.invokespecial 118, 3) := by decide +kernel
theorem dX10_tableAt_22 : decode cX10_tableAt 22 = .ok (.athrow, 1) := by decide +kernel
theorem dX10_tableAt_23 : decode cX10_tableAt 23 = .ok (.aload_n 2, 1) := by decide +kernel
theorem dX10_tableAt_24 : decode cX10_tableAt 24 = .ok (.areturn, 1) := by decide +kernel
theorem dX10_needFree_0 : decode cX10_needFree 0 = .ok (.aload_n 0, 1) := by decide +kernel
theorem dX10_needFree_1 : decode cX10_needFree 1 = .ok (.invokevirtual 182, 3) := by decide +kernel
theorem dX10_needFree_4 : decode cX10_needFree 4 = .ok (.ifCond .eq 13, 3) := by decide +kernel
theorem dX10_needFree_7 : decode cX10_needFree 7 = .ok (.new 114, 3) := by decide +kernel
theorem dX10_needFree_10 : decode cX10_needFree 10 = .ok (.dup, 1) := by decide +kernel
theorem dX10_needFree_11 : decode cX10_needFree 11 = .ok (.ldc 200, 2) := by decide +kernel
theorem dX10_needFree_13 : decode cX10_needFree 13 = .ok (.invokespecial 118, 3) := by decide +kernel
theorem dX10_needFree_16 : decode cX10_needFree 16 = .ok (.athrow, 1) := by decide +kernel
theorem dX10_needFree_17 : decode cX10_needFree 17 = .ok (.return_, 1) := by decide +kernel
theorem dX10_needColumn_0 : decode cX10_needColumn 0 = .ok (.iload_n 1, 1) := by decide +kernel
theorem dX10_needColumn_1 : decode cX10_needColumn 1 = .ok (.ifCond .lt 11, 3) := by decide +kernel
theorem dX10_needColumn_4 : decode cX10_needColumn 4 = .ok (.iload_n 1, 1) := by decide +kernel
theorem dX10_needColumn_5 : decode cX10_needColumn 5 = .ok (.aload_n 0, 1) := by decide +kernel
theorem dX10_needColumn_6 : decode cX10_needColumn 6 = .ok (.getfield 57, 3) := by decide +kernel
theorem dX10_needColumn_9 : decode cX10_needColumn 9 = .ok (.if_icmp .lt 13, 3) := by decide +kernel
theorem dX10_needColumn_12 : decode cX10_needColumn 12 = .ok (.new 165, 3) := by decide +kernel
theorem dX10_needColumn_15 : decode cX10_needColumn 15 = .ok (.dup, 1) := by decide +kernel
theorem dX10_needColumn_16 : decode cX10_needColumn 16 = .ok (.ldc 202, 2) := by decide +kernel
theorem dX10_needColumn_18 : decode cX10_needColumn 18 = .ok (.invokespecial 169, 3) := by decide +kernel
theorem dX10_needColumn_21 : decode cX10_needColumn 21 = .ok (.athrow, 1) := by decide +kernel
theorem dX10_needColumn_22 : decode cX10_needColumn 22 = .ok (.return_, 1) := by decide +kernel
theorem dX10_needColumnOrNone_0 : decode cX10_needColumnOrNone 0 = .ok (.iload_n 1, 1) := by decide +kernel
theorem dX10_needColumnOrNone_1 : decode cX10_needColumnOrNone 1 = .ok (.iconst (-1), 1) := by decide +kernel
theorem dX10_needColumnOrNone_2 : decode cX10_needColumnOrNone 2 = .ok (.if_icmp .eq 8, 3) := by decide +kernel
theorem dX10_needColumnOrNone_5 : decode cX10_needColumnOrNone 5 = .ok (.aload_n 0, 1) := by decide +kernel
theorem dX10_needColumnOrNone_6 : decode cX10_needColumnOrNone 6 = .ok (.iload_n 1, 1) := by decide +kernel
theorem dX10_needColumnOrNone_7 : decode cX10_needColumnOrNone 7 = .ok (.invokestatic 51, 3) := by decide +kernel
theorem dX10_needColumnOrNone_10 : decode cX10_needColumnOrNone 10 = .ok (.return_, 1) := by decide +kernel
theorem dX10_countChosen_0 : decode cX10_countChosen 0 = .ok (.iconst 0, 1) := by decide +kernel
theorem dX10_countChosen_1 : decode cX10_countChosen 1 = .ok (.istore_n 1, 1) := by decide +kernel
theorem dX10_countChosen_2 : decode cX10_countChosen 2 = .ok (.iload_n 1, 1) := by decide +kernel
theorem dX10_countChosen_3 : decode cX10_countChosen 3 = .ok (.aload_n 0, 1) := by decide +kernel
theorem dX10_countChosen_4 : decode cX10_countChosen 4 = .ok (.arraylength, 1) := by decide +kernel
theorem dX10_countChosen_5 : decode cX10_countChosen 5 = .ok (.if_icmp .ge 16, 3) := by decide +kernel
theorem dX10_countChosen_8 : decode cX10_countChosen 8 = .ok (.aload_n 0, 1) := by decide +kernel
theorem dX10_countChosen_9 : decode cX10_countChosen 9 = .ok (.iload_n 1, 1) := by decide +kernel
theorem dX10_countChosen_10 : decode cX10_countChosen 10 = .ok (.iaload, 1) := by decide +kernel
theorem dX10_countChosen_11 : decode cX10_countChosen 11 = .ok (.iconst (-1), 1) := by decide +kernel
theorem dX10_countChosen_12 : decode cX10_countChosen 12 = .ok (.if_icmp .eq 9, 3) := by decide +kernel
theorem dX10_countChosen_15 : decode cX10_countChosen 15 = .ok (.iinc 1 1, 3) := by decide +kernel
theorem dX10_countChosen_18 : decode cX10_countChosen 18 = .ok (.goto (-16), 3) := by decide +kernel
theorem dX10_countChosen_21 : decode cX10_countChosen 21 = .ok (.iload_n 1, 1) := by decide +kernel
theorem dX10_countChosen_22 : decode cX10_countChosen 22 = .ok (.ifCond .ne 13, 3) := by decide +kernel
theorem dX10_countChosen_25 : decode cX10_countChosen 25 = .ok (.new 28, 3) := by decide +kernel
theorem dX10_countChosen_28 : decode cX10_countChosen 28 = .ok (.dup, 1) := by decide +kernel
theorem dX10_countChosen_29 : decode cX10_countChosen 29 = .ok (.ldc 204, 2) := by decide +kernel
theorem dX10_countChosen_31 : decode cX10_countChosen 31 = .ok (.invokespecial 32, 3) := by decide +kernel
theorem dX10_countChosen_34 : decode cX10_countChosen 34 = .ok (.athrow, 1) := by decide +kernel
theorem dX10_countChosen_35 : decode cX10_countChosen 35 = .ok (.iload_n 1, 1) := by decide +kernel
theorem dX10_countChosen_36 : decode cX10_countChosen 36 = .ok (.istore_n 2, 1) := by decide +kernel
theorem dX10_countChosen_37 : decode cX10_countChosen 37 = .ok (.iload_n 2, 1) := by decide +kernel
theorem dX10_countChosen_38 : decode cX10_countChosen 38 = .ok (.aload_n 0, 1) := by decide +kernel
theorem dX10_countChosen_39 : decode cX10_countChosen 39 = .ok (.arraylength, 1) := by decide +kernel
theorem dX10_countChosen_40 : decode cX10_countChosen 40 = .ok (.if_icmp .ge 26, 3) := by decide +kernel
theorem dX10_countChosen_43 : decode cX10_countChosen 43 = .ok (.aload_n 0, 1) := by decide +kernel
theorem dX10_countChosen_44 : decode cX10_countChosen 44 = .ok (.iload_n 2, 1) := by decide +kernel
theorem dX10_countChosen_45 : decode cX10_countChosen 45 = .ok (.iaload, 1) := by decide +kernel
theorem dX10_countChosen_46 : decode cX10_countChosen 46 = .ok (.iconst (-1), 1) := by decide +kernel
theorem dX10_countChosen_47 : decode cX10_countChosen 47 = .ok (.if_icmp .eq 13, 3) := by decide +kernel
theorem dX10_countChosen_50 : decode cX10_countChosen 50 = .ok (.new 28, 3) := by decide +kernel
theorem dX10_countChosen_53 : decode cX10_countChosen 53 = .ok (.dup, 1) := by decide +kernel
theorem dX10_countChosen_54 : decode cX10_countChosen 54 = .ok (.ldc 206, 2) := by decide +kernel
theorem dX10_countChosen_56 : decode cX10_countChosen 56 = .ok (.invokespecial 32, 3) := by decide +kernel
theorem dX10_countChosen_59 : decode cX10_countChosen 59 = .ok (.athrow, 1) := by decide +kernel
theorem dX10_countChosen_60 : decode cX10_countChosen 60 = .ok (.iinc 2 1, 3) := by decide +kernel
theorem dX10_countChosen_63 : decode cX10_countChosen 63 = .ok (.goto (-26), 3) := by decide +kernel
theorem dX10_countChosen_66 : decode cX10_countChosen 66 = .ok (.iload_n 1, 1) := by decide +kernel
theorem dX10_countChosen_67 : decode cX10_countChosen 67 = .ok (.ireturn, 1) := by decide +kernel
theorem dX10_makeView_0 : decode cX10_makeView 0 = .ok (.aload_n 0, 1) := by decide +kernel
theorem dX10_makeView_1 : decode cX10_makeView 1 = .ok (.getfield 35, 3) := by decide +kernel
theorem dX10_makeView_4 : decode cX10_makeView 4 = .ok (.invokevirtual 39, 3) := by decide +kernel
theorem dX10_makeView_7 : decode cX10_makeView 7 = .ok (.aload_n 2, 1) := by decide +kernel
theorem dX10_makeView_8 : decode cX10_makeView 8 = .ok (.aload_n 0, 1) := by decide +kernel
theorem dX10_makeView_9 : decode cX10_makeView 9 = .ok (.getfield 35, 3) := by decide +kernel
theorem dX10_makeView_12 : decode cX10_makeView 12 = .ok (.invokevirtual 208, 3) := by decide +kernel
theorem dX10_makeView_15 : decode cX10_makeView 15 = .ok (.ifCond .ne 13, 3) := by decide +kernel
theorem dX10_makeView_18 : decode cX10_makeView 18 = .ok (.new 214, 3) := by decide +kernel
theorem dX10_makeView_21 : decode cX10_makeView 21 = .ok (.dup, 1) := by decide +kernel
theorem dX10_makeView_22 : decode cX10_makeView 22 = .ok (.ldc 216, 2) := by decide +kernel
theorem dX10_makeView_24 : decode cX10_makeView 24 = .ok (.invokespecial 218, 3) := by decide +kernel
theorem dX10_makeView_27 : decode cX10_makeView 27 = .ok (.athrow, 1) := by decide +kernel
theorem dX10_makeView_28 : decode cX10_makeView 28 = .ok (.aload_n 0, 1) := by decide +kernel
theorem dX10_makeView_29 : decode cX10_makeView 29 = .ok (.iload_n 1, 1) := by decide +kernel
theorem dX10_makeView_30 : decode cX10_makeView 30 = .ok (.aload_n 2, 1) := by decide +kernel
theorem dX10_makeView_31 : decode cX10_makeView 31 = .ok (.invokevirtual 44, 3) := by decide +kernel
theorem dX10_makeView_34 : decode cX10_makeView 34 = .ok (.return_, 1) := by decide +kernel
theorem dX10_tell_0 : decode cX10_tell 0 = .ok (.aload_n 0, 1) := by decide +kernel
theorem dX10_tell_1 : decode cX10_tell 1 = .ok (.getfield 15, 3) := by decide +kernel
theorem dX10_tell_4 : decode cX10_tell 4 = .ok (.iconst 0, 1) := by decide +kernel
theorem dX10_tell_5 : decode cX10_tell 5 = .ok (.iload_n 2, 1) := by decide +kernel
theorem dX10_tell_6 : decode cX10_tell 6 = .ok (.iastore, 1) := by decide +kernel
theorem dX10_tell_7 : decode cX10_tell 7 = .ok (.aload_n 0, 1) := by decide +kernel
theorem dX10_tell_8 : decode cX10_tell 8 = .ok (.getfield 15, 3) := by decide +kernel
theorem dX10_tell_11 : decode cX10_tell 11 = .ok (.iconst 1, 1) := by decide +kernel
theorem dX10_tell_12 : decode cX10_tell 12 = .ok (.aload_n 1, 1) := by decide +kernel
theorem dX10_tell_13 : decode cX10_tell 13 = .ok (.getfield 57, 3) := by decide +kernel
theorem dX10_tell_16 : decode cX10_tell 16 = .ok (.iconst 1, 1) := by decide +kernel
theorem dX10_tell_17 : decode cX10_tell 17 = .ok (.if_icmp .le 7, 3) := by decide +kernel
theorem dX10_tell_20 : decode cX10_tell 20 = .ok (.iload_n 3, 1) := by decide +kernel
theorem dX10_tell_21 : decode cX10_tell 21 = .ok (.goto 4, 3) := by decide +kernel
theorem dX10_tell_24 : decode cX10_tell 24 = .ok (.iconst 0, 1) := by decide +kernel
theorem dX10_tell_25 : decode cX10_tell 25 = .ok (.iastore, 1) := by decide +kernel
theorem dX10_tell_26 : decode cX10_tell 26 = .ok (.aload_n 0, 1) := by decide +kernel
theorem dX10_tell_27 : decode cX10_tell 27 = .ok (.getfield 15, 3) := by decide +kernel
theorem dX10_tell_30 : decode cX10_tell 30 = .ok (.iconst 2, 1) := by decide +kernel
theorem dX10_tell_31 : decode cX10_tell 31 = .ok (.aload_n 1, 1) := by decide +kernel
theorem dX10_tell_32 : decode cX10_tell 32 = .ok (.getfield 57, 3) := by decide +kernel
theorem dX10_tell_35 : decode cX10_tell 35 = .ok (.iconst 2, 1) := by decide +kernel
theorem dX10_tell_36 : decode cX10_tell 36 = .ok (.if_icmp .le 8, 3) := by decide +kernel
theorem dX10_tell_39 : decode cX10_tell 39 = .ok (.iload 4, 2) := by decide +kernel
theorem dX10_tell_41 : decode cX10_tell 41 = .ok (.goto 4, 3) := by decide +kernel
theorem dX10_tell_44 : decode cX10_tell 44 = .ok (.iconst 0, 1) := by decide +kernel
theorem dX10_tell_45 : decode cX10_tell 45 = .ok (.iastore, 1) := by decide +kernel
theorem dX10_tell_46 : decode cX10_tell 46 = .ok (.aload_n 0, 1) := by decide +kernel
theorem dX10_tell_47 : decode cX10_tell 47 = .ok (.getfield 15, 3) := by decide +kernel
theorem dX10_tell_50 : decode cX10_tell 50 = .ok (.iconst 3, 1) := by decide +kernel
theorem dX10_tell_51 : decode cX10_tell 51 = .ok (.aload_n 1, 1) := by decide +kernel
theorem dX10_tell_52 : decode cX10_tell 52 = .ok (.getfield 57, 3) := by decide +kernel
theorem dX10_tell_55 : decode cX10_tell 55 = .ok (.iconst 3, 1) := by decide +kernel
theorem dX10_tell_56 : decode cX10_tell 56 = .ok (.if_icmp .le 8, 3) := by decide +kernel
theorem dX10_tell_59 : decode cX10_tell 59 = .ok (.iload 5, 2) := by decide +kernel
theorem dX10_tell_61 : decode cX10_tell 61 = .ok (.goto 4, 3) := by decide +kernel
theorem dX10_tell_64 : decode cX10_tell 64 = .ok (.iconst 0, 1) := by decide +kernel
theorem dX10_tell_65 : decode cX10_tell 65 = .ok (.iastore, 1) := by decide +kernel
theorem dX10_tell_66 : decode cX10_tell 66 = .ok (.return_, 1) := by decide +kernel
theorem dX10_viewsFit_0 : decode cX10_viewsFit 0 = .ok (.aload_n 1, 1) := by decide +kernel
theorem dX10_viewsFit_1 : decode cX10_viewsFit 1 = .ok (.aload_n 1, 1) := by decide +kernel
theorem dX10_viewsFit_2 : decode cX10_viewsFit 2 = .ok (.getfield 138, 3) := by decide +kernel
theorem dX10_viewsFit_5 : decode cX10_viewsFit 5 = .ok (.aload_n 1, 1) := by decide +kernel
theorem dX10_viewsFit_6 : decode cX10_viewsFit 6 = .ok (.getfield 35, 3) := by decide +kernel
theorem dX10_viewsFit_9 : decode cX10_viewsFit 9 = .ok (.invokevirtual 219, 3) := by decide +kernel
theorem dX10_viewsFit_12 : decode cX10_viewsFit 12 = .ok (.putfield 223, 3) := by decide +kernel
theorem dX10_viewsFit_15 : decode cX10_viewsFit 15 = .ok (.iconst 1, 1) := by decide +kernel
theorem dX10_viewsFit_16 : decode cX10_viewsFit 16 = .ok (.istore_n 2, 1) := by decide +kernel
theorem dX10_viewsFit_17 : decode cX10_viewsFit 17 = .ok (.iload_n 2, 1) := by decide +kernel
theorem dX10_viewsFit_18 : decode cX10_viewsFit 18 = .ok (.bipush 8, 2) := by decide +kernel
theorem dX10_viewsFit_20 : decode cX10_viewsFit 20 = .ok (.if_icmp .ge 59, 3) := by decide +kernel
theorem dX10_viewsFit_23 : decode cX10_viewsFit 23 = .ok (.aload_n 0, 1) := by decide +kernel
theorem dX10_viewsFit_24 : decode cX10_viewsFit 24 = .ok (.getfield 11, 3) := by decide +kernel
theorem dX10_viewsFit_27 : decode cX10_viewsFit 27 = .ok (.astore_n 3, 1) := by decide +kernel
theorem dX10_viewsFit_28 : decode cX10_viewsFit 28 = .ok (.aload_n 3, 1) := by decide +kernel
theorem dX10_viewsFit_29 : decode cX10_viewsFit 29 = .ok (.arraylength, 1) := by decide +kernel
theorem dX10_viewsFit_30 : decode cX10_viewsFit 30 = .ok (.istore 4, 2) := by decide +kernel
theorem dX10_viewsFit_32 : decode cX10_viewsFit 32 = .ok (.iconst 0, 1) := by decide +kernel
theorem dX10_viewsFit_33 : decode cX10_viewsFit 33 = .ok (.istore 5, 2) := by decide +kernel
theorem dX10_viewsFit_35 : decode cX10_viewsFit 35 = .ok (.iload 5, 2) := by decide +kernel
theorem dX10_viewsFit_37 : decode cX10_viewsFit 37 = .ok (.iload 4, 2) := by decide +kernel
theorem dX10_viewsFit_39 : decode cX10_viewsFit 39 = .ok (.if_icmp .ge 34, 3) := by decide +kernel
theorem dX10_viewsFit_42 : decode cX10_viewsFit 42 = .ok (.aload_n 3, 1) := by decide +kernel
theorem dX10_viewsFit_43 : decode cX10_viewsFit 43 = .ok (.iload 5, 2) := by decide +kernel
theorem dX10_viewsFit_45 : decode cX10_viewsFit 45 = .ok (.aaload, 1) := by decide +kernel
theorem dX10_viewsFit_46 : decode cX10_viewsFit 46 = .ok (.astore 6, 2) := by decide +kernel
theorem dX10_viewsFit_48 : decode cX10_viewsFit 48 = .ok (.aload 6, 2) := by decide +kernel
theorem dX10_viewsFit_50 : decode cX10_viewsFit 50 = .ok (.invokevirtual 226, 3) := by decide +kernel
theorem dX10_viewsFit_53 : decode cX10_viewsFit 53 = .ok (.iload_n 2, 1) := by decide +kernel
theorem dX10_viewsFit_54 : decode cX10_viewsFit 54 = .ok (.if_icmp .ne 13, 3) := by decide +kernel
theorem dX10_viewsFit_57 : decode cX10_viewsFit 57 = .ok (.aload 6, 2) := by decide +kernel
theorem dX10_viewsFit_59 : decode cX10_viewsFit 59 = .ok (.invokevirtual 230, 3) := by decide +kernel
theorem dX10_viewsFit_62 : decode cX10_viewsFit 62 = .ok (.ifCond .ne 5, 3) := by decide +kernel
theorem dX10_viewsFit_65 : decode cX10_viewsFit 65 = .ok (.iconst 0, 1) := by decide +kernel
theorem dX10_viewsFit_66 : decode cX10_viewsFit 66 = .ok (.ireturn, 1) := by decide +kernel
theorem dX10_viewsFit_67 : decode cX10_viewsFit 67 = .ok (.iinc 5 1, 3) := by decide +kernel
theorem dX10_viewsFit_70 : decode cX10_viewsFit 70 = .ok (.goto (-35), 3) := by decide +kernel
theorem dX10_viewsFit_73 : decode cX10_viewsFit 73 = .ok (.iinc 2 1, 3) := by decide +kernel
theorem dX10_viewsFit_76 : decode cX10_viewsFit 76 = .ok (.goto (-59), 3) := by decide +kernel
theorem dX10_viewsFit_79 : decode cX10_viewsFit 79 = .ok (.iconst 1, 1) := by decide +kernel
theorem dX10_viewsFit_80 : decode cX10_viewsFit 80 = .ok (.ireturn, 1) := by decide +kernel
theorem dX10_takeOver_0 : decode cX10_takeOver 0 = .ok (.aload_n 0, 1) := by decide +kernel
theorem dX10_takeOver_1 : decode cX10_takeOver 1 = .ok (.getfield 11, 3) := by decide +kernel
theorem dX10_takeOver_4 : decode cX10_takeOver 4 = .ok (.astore_n 2, 1) := by decide +kernel
theorem dX10_takeOver_5 : decode cX10_takeOver 5 = .ok (.aload_n 2, 1) := by decide +kernel
theorem dX10_takeOver_6 : decode cX10_takeOver 6 = .ok (.arraylength, 1) := by decide +kernel
theorem dX10_takeOver_7 : decode cX10_takeOver 7 = .ok (.istore_n 3, 1) := by decide +kernel
theorem dX10_takeOver_8 : decode cX10_takeOver 8 = .ok (.iconst 0, 1) := by decide +kernel
theorem dX10_takeOver_9 : decode cX10_takeOver 9 = .ok (.istore 4, 2) := by decide +kernel
theorem dX10_takeOver_11 : decode cX10_takeOver 11 = .ok (.iload 4, 2) := by decide +kernel
theorem dX10_takeOver_13 : decode cX10_takeOver 13 = .ok (.iload_n 3, 1) := by decide +kernel
theorem dX10_takeOver_14 : decode cX10_takeOver 14 = .ok (.if_icmp .ge 21, 3) := by decide +kernel
theorem dX10_takeOver_17 : decode cX10_takeOver 17 = .ok (.aload_n 2, 1) := by decide +kernel
theorem dX10_takeOver_18 : decode cX10_takeOver 18 = .ok (.iload 4, 2) := by decide +kernel
theorem dX10_takeOver_20 : decode cX10_takeOver 20 = .ok (.aaload, 1) := by decide +kernel
theorem dX10_takeOver_21 : decode cX10_takeOver 21 = .ok (.astore 5, 2) := by decide +kernel
theorem dX10_takeOver_23 : decode cX10_takeOver 23 = .ok (.aload 5, 2) := by decide +kernel
theorem dX10_takeOver_25 : decode cX10_takeOver 25 = .ok (.iload_n 1, 1) := by decide +kernel
theorem dX10_takeOver_26 : decode cX10_takeOver 26 = .ok (.invokevirtual 233, 3) := by decide +kernel
theorem dX10_takeOver_29 : decode cX10_takeOver 29 = .ok (.iinc 4 1, 3) := by decide +kernel
theorem dX10_takeOver_32 : decode cX10_takeOver 32 = .ok (.goto (-21), 3) := by decide +kernel
theorem dX10_takeOver_35 : decode cX10_takeOver 35 = .ok (.iload_n 1, 1) := by decide +kernel
theorem dX10_takeOver_36 : decode cX10_takeOver 36 = .ok (.ifCond .ne 13, 3) := by decide +kernel
theorem dX10_takeOver_39 : decode cX10_takeOver 39 = .ok (.new 214, 3) := by decide +kernel
theorem dX10_takeOver_42 : decode cX10_takeOver 42 = .ok (.dup, 1) := by decide +kernel
theorem dX10_takeOver_43 : decode cX10_takeOver 43 = .ok (.ldc 236, 2) := by decide +kernel
theorem dX10_takeOver_45 : decode cX10_takeOver 45 = .ok (.invokespecial 218, 3) := by decide +kernel
theorem dX10_takeOver_48 : decode cX10_takeOver 48 = .ok (.athrow, 1) := by decide +kernel
theorem dX10_takeOver_49 : decode cX10_takeOver 49 = .ok (.return_, 1) := by decide +kernel
end
section
/-! THE LAYER: a world is a function from addresses to cells; J is the judgement that the rows below turn, an instruction a row. -/
abbrev Cst : Type := va_G × (ClassId × ClassId × ClassId × ClassId) × Nat
abbrev kD (K : Cst) : va_G := K.1
abbrev kI (K : Cst) : ClassId := K.2.1.1
abbrev kZ (K : Cst) : ClassId := K.2.1.2.1
abbrev kR (K : Cst) : ClassId := K.2.1.2.2.1
abbrev kJ (K : Cst) : ClassId := K.2.1.2.2.2
abbrev kb (K : Cst) : Nat := K.2.2
abbrev kA (K : Cst) : Nat → Prop := fun q => kb K ≤ q
abbrev tysK (K : Cst) : List (ClassId × FieldType) := [(kI K, .int), (kZ K, .boolean), (kR K, .object "BagViews$Relation"), (kJ K, .long)]
abbrev Wd : Type := Nat → Option va_E
def wdP (K : Cst) (g : Wd) (H : Heap) : Prop := ∀ a e, g a = some e → va_at (kD K) vwCl (a, e) H
def wdA (K : Cst) (g : Wd) : Prop := ∀ a e, g a = some e → kb K ≤ a
def up (g : Wd) (a : Nat) (e : va_E) : Wd := fun q => if q = a then some e else g q
theorem up_s (g : Wd) (a : Nat) (e : va_E) : up g a e a = some e := if_pos rfl
theorem up_n {g : Wd} {a q : Nat} {e : va_E} (h : q ≠ a) : up g a e q = g q := if_neg h
theorem up_up (g : Wd) (a : Nat) (e e' : va_E) : up (up g a e) a e' = up g a e' := by
  funext q; by_cases h : q = a <;> simp [up, h]
theorem up_id {g : Wd} {a : Nat} {e : va_E} (h : g a = some e) : up g a e = g := by
  funext q; by_cases hq : q = a <;> simp [up, hq, h]
abbrev aI (K : Cst) (n : Nat) (f : Nat → Int32) : va_E := .inl (kI K, n, .inl f)
abbrev aZ (K : Cst) (n : Nat) (f : Nat → Int32) : va_E := .inl (kZ K, n, .inl f)
abbrev aJ (K : Cst) (n : Nat) (f : Nat → Int64) : va_E := .inl (kJ K, n, .inr (.inl f))
abbrev aQ (K : Cst) (n : Nat) (f : Nat → Option Nat) : va_E := .inl (kR K, n, .inr (.inr (.inr (.inr f))))
abbrev ob (ci : Nat) (fs : List Value) : va_E := .inr (ci, fs)
theorem wdP.one {K : Cst} {g : Wd} {H : Heap} (h : wdP K g H) {a : Nat} {e : va_E} (ha : g a = some e) : va_P (kD K) vwCl [(a, e)] H := fun k q hk => by
  match k, hk with
  | 0, hk => cases hk; exact h a e ha
theorem wdP.two {K : Cst} {g : Wd} {H : Heap} (h : wdP K g H) {a b : Nat} {e f : va_E} (ha : g a = some e) (hb : g b = some f) : va_P (kD K) vwCl [(a, e), (b, f)] H := fun k q hk => by
  match k, hk with
  | 0, hk => cases hk; exact h a e ha
  | 1, hk => cases hk; exact h b f hb
theorem wdA.one {K : Cst} {g : Wd} (h : wdA K g) {a : Nat} {e : va_E} (ha : g a = some e) : va_D (kA K) [(a, e)] := ⟨fun i j p q hi hj _ => by
  have h1 : i < 1 := (List.getElem?_eq_some_iff.mp hi).1
  have h2 : j < 1 := (List.getElem?_eq_some_iff.mp hj).1
  omega, fun k q hk => by
  match k, hk with
  | 0, hk => cases hk; exact h a e ha⟩
theorem wdA.two {K : Cst} {g : Wd} (h : wdA K g) {a b : Nat} {e f : va_E} (ha : g a = some e) (hb : g b = some f) (hab : a ≠ b) : va_D (kA K) [(a, e), (b, f)] := ⟨fun i j p q hi hj hpq => by
  have h1 : i < 2 := (List.getElem?_eq_some_iff.mp hi).1
  have h2 : j < 2 := (List.getElem?_eq_some_iff.mp hj).1
  match i, j, h1, h2, hi, hj with
  | 0, 0, _, _, _, _ => rfl
  | 1, 1, _, _, _, _ => rfl
  | 0, 1, _, _, hi, hj => cases hi; cases hj; exact absurd hpq hab
  | 1, 0, _, _, hi, hj => cases hi; cases hj; exact absurd hpq.symm hab, fun k q hk => by
  match k, hk with
  | 0, hk => cases hk; exact h a e ha
  | 1, hk => cases hk; exact h b f hb⟩
/-- a cell is written, the others stay -/
theorem wdP.put {K : Cst} {g : Wd} {H H1 : Heap} (h : wdP K g H) {a : Nat} {e : va_E} (he : va_at (kD K) vwCl (a, e) H1) (oq : ∀ q : Nat, q ≠ a → H1[q]? = H[q]?) : wdP K (up g a e) H1 := fun b x hb => by
  by_cases hq : b = a
  · subst hq; rw [up_s] at hb; cases hb; exact he
  · rw [up_n hq] at hb; exact (h b x hb).kept (oq b hq)
theorem wdA.put {K : Cst} {g : Wd} (h : wdA K g) {a : Nat} {e : va_E} (ha : kb K ≤ a) : wdA K (up g a e) := fun b x hb => by
  by_cases hq : b = a
  · subst hq; exact ha
  · rw [up_n hq] at hb; exact h b x hb
theorem wdP.lt {K : Cst} {g : Wd} {H : Heap} (h : wdP K g H) {a : Nat} {e : va_E} (ha : g a = some e) : a < H.size := (h a e ha).lt
def nestW : List Cond := [.methodLinkNest RX10 19 yX6_init "BagViews", .methodLinkNest RX6 9 yX0_init "BagViews", .fieldLinkNest RX2 36 "BagViews$Bag" "often" "[I" "BagViews", .fieldLinkNest RX8 40 "BagViews$Bag" "often" "[I" "BagViews", .fieldLinkNest RX4 48 "BagViews$Bag" "often" "[I" "BagViews", .fieldLinkNest RX1 38 "BagViews$Bag" "often" "[I" "BagViews", .fieldLinkNest RX7 56 "BagViews$Bag" "often" "[I" "BagViews", .fieldLinkNest RX3 60 "BagViews$Bag" "often" "[I" "BagViews", .fieldLinkNest RX10 170 "BagViews$Bag" "often" "[I" "BagViews", .fieldLinkNest RX1 25 "BagViews$Bag" "rowCount" "I" "BagViews", .fieldLinkNest RX3 31 "BagViews$Bag" "rowCount" "I" "BagViews", .fieldLinkNest RX5 19 "BagViews$Bag" "rowCount" "I" "BagViews", .fieldLinkNest RX7 35 "BagViews$Bag" "rowCount" "I" "BagViews", .fieldLinkNest RX4 31 "BagViews$Bag" "rowCount" "I" "BagViews", .fieldLinkNest RX2 22 "BagViews$Bag" "rowCount" "I" "BagViews", .fieldLinkNest RX8 28 "BagViews$Bag" "rowCount" "I" "BagViews", .fieldLinkNest RX10 158 "BagViews$Bag" "rowCount" "I" "BagViews", .fieldLinkNest RX10 35 "BagViews$Relation" "now" "LBagViews$Bag;" "BagViews", .fieldLinkNest RX10 138 "BagViews$Relation" "next" "LBagViews$Bag;" "BagViews", .fieldLinkNest RX10 190 "BagViews$Relation" "view" "LBagViews$View;" "BagViews", .fieldLinkNest RX4 59 "BagViews$Relation" "columnCount" "I" "BagViews", .fieldLinkNest RX10 57 "BagViews$Relation" "columnCount" "I" "BagViews", .fieldLinkNest RX9 37 "BagViews$Relation" "pending" "I" "BagViews", .fieldLinkNest RX10 223 "BagViews$Relation" "pending" "I" "BagViews", .fieldLinkNest RX10 177 "BagViews$Relation" "changedRows" "I" "BagViews", .declares ⟨"java/lang/RuntimeException", "<init>", "()V"⟩, .declares ⟨"java/lang/RuntimeException", "<init>", "(Ljava/lang/String;)V"⟩, .declares ⟨"java/lang/Exception", "<init>", "()V"⟩, .declares ⟨"java/lang/Exception", "<init>", "(Ljava/lang/String;)V"⟩, .declares ⟨"java/lang/Throwable", "<init>", "()V"⟩, .declares ⟨"java/lang/Throwable", "<init>", "(Ljava/lang/String;)V"⟩, .declares ⟨"BagViews$View", "makeInto", "(LBagViews$Bag;)Z"⟩, .castable "java/lang/IndexOutOfBoundsException" "java/lang/IndexOutOfBoundsException", .castable "java/lang/IllegalStateException" "java/lang/IllegalStateException", .castable "java/lang/IllegalArgumentException" "java/lang/IllegalArgumentException", .castable "java/lang/UnsupportedOperationException" "java/lang/UnsupportedOperationException"]
theorem nk_X10_19 : (.methodLinkNest RX10 19 yX6_init "BagViews" : Cond) ∈ nestW := List.mem_of_getElem? (i := 0) rfl
theorem nk_X6_9 : (.methodLinkNest RX6 9 yX0_init "BagViews" : Cond) ∈ nestW := List.mem_of_getElem? (i := 1) rfl
theorem nk_X2_36 : (.fieldLinkNest RX2 36 "BagViews$Bag" "often" "[I" "BagViews" : Cond) ∈ nestW := List.mem_of_getElem? (i := 2) rfl
theorem nk_X8_40 : (.fieldLinkNest RX8 40 "BagViews$Bag" "often" "[I" "BagViews" : Cond) ∈ nestW := List.mem_of_getElem? (i := 3) rfl
theorem nk_X4_48 : (.fieldLinkNest RX4 48 "BagViews$Bag" "often" "[I" "BagViews" : Cond) ∈ nestW := List.mem_of_getElem? (i := 4) rfl
theorem nk_X1_38 : (.fieldLinkNest RX1 38 "BagViews$Bag" "often" "[I" "BagViews" : Cond) ∈ nestW := List.mem_of_getElem? (i := 5) rfl
theorem nk_X7_56 : (.fieldLinkNest RX7 56 "BagViews$Bag" "often" "[I" "BagViews" : Cond) ∈ nestW := List.mem_of_getElem? (i := 6) rfl
theorem nk_X3_60 : (.fieldLinkNest RX3 60 "BagViews$Bag" "often" "[I" "BagViews" : Cond) ∈ nestW := List.mem_of_getElem? (i := 7) rfl
theorem nk_X10_170 : (.fieldLinkNest RX10 170 "BagViews$Bag" "often" "[I" "BagViews" : Cond) ∈ nestW := List.mem_of_getElem? (i := 8) rfl
theorem nk_X1_25 : (.fieldLinkNest RX1 25 "BagViews$Bag" "rowCount" "I" "BagViews" : Cond) ∈ nestW := List.mem_of_getElem? (i := 9) rfl
theorem nk_X3_31 : (.fieldLinkNest RX3 31 "BagViews$Bag" "rowCount" "I" "BagViews" : Cond) ∈ nestW := List.mem_of_getElem? (i := 10) rfl
theorem nk_X5_19 : (.fieldLinkNest RX5 19 "BagViews$Bag" "rowCount" "I" "BagViews" : Cond) ∈ nestW := List.mem_of_getElem? (i := 11) rfl
theorem nk_X7_35 : (.fieldLinkNest RX7 35 "BagViews$Bag" "rowCount" "I" "BagViews" : Cond) ∈ nestW := List.mem_of_getElem? (i := 12) rfl
theorem nk_X4_31 : (.fieldLinkNest RX4 31 "BagViews$Bag" "rowCount" "I" "BagViews" : Cond) ∈ nestW := List.mem_of_getElem? (i := 13) rfl
theorem nk_X2_22 : (.fieldLinkNest RX2 22 "BagViews$Bag" "rowCount" "I" "BagViews" : Cond) ∈ nestW := List.mem_of_getElem? (i := 14) rfl
theorem nk_X8_28 : (.fieldLinkNest RX8 28 "BagViews$Bag" "rowCount" "I" "BagViews" : Cond) ∈ nestW := List.mem_of_getElem? (i := 15) rfl
theorem nk_X10_158 : (.fieldLinkNest RX10 158 "BagViews$Bag" "rowCount" "I" "BagViews" : Cond) ∈ nestW := List.mem_of_getElem? (i := 16) rfl
theorem nk_X10_35 : (.fieldLinkNest RX10 35 "BagViews$Relation" "now" "LBagViews$Bag;" "BagViews" : Cond) ∈ nestW := List.mem_of_getElem? (i := 17) rfl
theorem nk_X10_138 : (.fieldLinkNest RX10 138 "BagViews$Relation" "next" "LBagViews$Bag;" "BagViews" : Cond) ∈ nestW := List.mem_of_getElem? (i := 18) rfl
theorem nk_X10_190 : (.fieldLinkNest RX10 190 "BagViews$Relation" "view" "LBagViews$View;" "BagViews" : Cond) ∈ nestW := List.mem_of_getElem? (i := 19) rfl
theorem nk_X4_59 : (.fieldLinkNest RX4 59 "BagViews$Relation" "columnCount" "I" "BagViews" : Cond) ∈ nestW := List.mem_of_getElem? (i := 20) rfl
theorem nk_X10_57 : (.fieldLinkNest RX10 57 "BagViews$Relation" "columnCount" "I" "BagViews" : Cond) ∈ nestW := List.mem_of_getElem? (i := 21) rfl
theorem nk_X9_37 : (.fieldLinkNest RX9 37 "BagViews$Relation" "pending" "I" "BagViews" : Cond) ∈ nestW := List.mem_of_getElem? (i := 22) rfl
theorem nk_X10_223 : (.fieldLinkNest RX10 223 "BagViews$Relation" "pending" "I" "BagViews" : Cond) ∈ nestW := List.mem_of_getElem? (i := 23) rfl
theorem nk_X10_177 : (.fieldLinkNest RX10 177 "BagViews$Relation" "changedRows" "I" "BagViews" : Cond) ∈ nestW := List.mem_of_getElem? (i := 24) rfl
theorem nd_25 : (.declares ⟨"java/lang/RuntimeException", "<init>", "()V"⟩ : Cond) ∈ nestW := List.mem_of_getElem? (i := 25) rfl
theorem nd_26 : (.declares ⟨"java/lang/RuntimeException", "<init>", "(Ljava/lang/String;)V"⟩ : Cond) ∈ nestW := List.mem_of_getElem? (i := 26) rfl
theorem nd_27 : (.declares ⟨"java/lang/Exception", "<init>", "()V"⟩ : Cond) ∈ nestW := List.mem_of_getElem? (i := 27) rfl
theorem nd_28 : (.declares ⟨"java/lang/Exception", "<init>", "(Ljava/lang/String;)V"⟩ : Cond) ∈ nestW := List.mem_of_getElem? (i := 28) rfl
theorem nd_29 : (.declares ⟨"java/lang/Throwable", "<init>", "()V"⟩ : Cond) ∈ nestW := List.mem_of_getElem? (i := 29) rfl
theorem nd_30 : (.declares ⟨"java/lang/Throwable", "<init>", "(Ljava/lang/String;)V"⟩ : Cond) ∈ nestW := List.mem_of_getElem? (i := 30) rfl
theorem nd_31 : (.declares ⟨"BagViews$View", "makeInto", "(LBagViews$Bag;)Z"⟩ : Cond) ∈ nestW := List.mem_of_getElem? (i := 31) rfl
theorem nc_0 : (.castable "java/lang/IndexOutOfBoundsException" "java/lang/IndexOutOfBoundsException" : Cond) ∈ nestW := List.mem_of_getElem? (i := 32) rfl
theorem nc_1 : (.castable "java/lang/IllegalStateException" "java/lang/IllegalStateException" : Cond) ∈ nestW := List.mem_of_getElem? (i := 33) rfl
theorem nc_2 : (.castable "java/lang/IllegalArgumentException" "java/lang/IllegalArgumentException" : Cond) ∈ nestW := List.mem_of_getElem? (i := 34) rfl
theorem nc_3 : (.castable "java/lang/UnsupportedOperationException" "java/lang/UnsupportedOperationException" : Cond) ∈ nestW := List.mem_of_getElem? (i := 35) rfl
def strW : List (String × Nat × String) := [(RX10, 194, "relations are 0 to 7"), (RX10, 200, "the relation that is to be made is there"), (RX10, 30, "a table has 1 to 4 columns"), (RX10, 196, "there is no such relation"), (RX10, 202, "there is no such column"), (RX10, 55, "there is no such comparison"), (RX10, 216, "the view would be beyond the bounds"), (RX10, 204, "no column at all"), (RX10, 206, "a column behind NONE"), (RX10, 82, "a join has at most 4 columns"), (RX10, 89, "they have not as many columns"), (RX10, 103, "there is no such sort"), (RX10, 116, "a view is of it"), (RX10, 198, "it is a view"), (RX10, 127, "n is 0, or beyond 1000000 either way"), (RX10, 136, "the table has the row not so often"), (RX10, 236, "a relation would be beyond the bounds"), (RX10, 156, "n is not 1 to 40"), (RX10, 167, "there is no such row"), (RX10, 180, "there is nothing such to count")]
theorem sk_X10_194 : (RX10, 194, "relations are 0 to 7") ∈ strW := List.mem_of_getElem? (i := 0) rfl
theorem sk_X10_200 : (RX10, 200, "the relation that is to be made is there") ∈ strW := List.mem_of_getElem? (i := 1) rfl
theorem sk_X10_30 : (RX10, 30, "a table has 1 to 4 columns") ∈ strW := List.mem_of_getElem? (i := 2) rfl
theorem sk_X10_196 : (RX10, 196, "there is no such relation") ∈ strW := List.mem_of_getElem? (i := 3) rfl
theorem sk_X10_202 : (RX10, 202, "there is no such column") ∈ strW := List.mem_of_getElem? (i := 4) rfl
theorem sk_X10_55 : (RX10, 55, "there is no such comparison") ∈ strW := List.mem_of_getElem? (i := 5) rfl
theorem sk_X10_216 : (RX10, 216, "the view would be beyond the bounds") ∈ strW := List.mem_of_getElem? (i := 6) rfl
theorem sk_X10_204 : (RX10, 204, "no column at all") ∈ strW := List.mem_of_getElem? (i := 7) rfl
theorem sk_X10_206 : (RX10, 206, "a column behind NONE") ∈ strW := List.mem_of_getElem? (i := 8) rfl
theorem sk_X10_82 : (RX10, 82, "a join has at most 4 columns") ∈ strW := List.mem_of_getElem? (i := 9) rfl
theorem sk_X10_89 : (RX10, 89, "they have not as many columns") ∈ strW := List.mem_of_getElem? (i := 10) rfl
theorem sk_X10_103 : (RX10, 103, "there is no such sort") ∈ strW := List.mem_of_getElem? (i := 11) rfl
theorem sk_X10_116 : (RX10, 116, "a view is of it") ∈ strW := List.mem_of_getElem? (i := 12) rfl
theorem sk_X10_198 : (RX10, 198, "it is a view") ∈ strW := List.mem_of_getElem? (i := 13) rfl
theorem sk_X10_127 : (RX10, 127, "n is 0, or beyond 1000000 either way") ∈ strW := List.mem_of_getElem? (i := 14) rfl
theorem sk_X10_136 : (RX10, 136, "the table has the row not so often") ∈ strW := List.mem_of_getElem? (i := 15) rfl
theorem sk_X10_236 : (RX10, 236, "a relation would be beyond the bounds") ∈ strW := List.mem_of_getElem? (i := 16) rfl
theorem sk_X10_156 : (RX10, 156, "n is not 1 to 40") ∈ strW := List.mem_of_getElem? (i := 17) rfl
theorem sk_X10_167 : (RX10, 167, "there is no such row") ∈ strW := List.mem_of_getElem? (i := 18) rfl
theorem sk_X10_180 : (RX10, 180, "there is nothing such to count") ∈ strW := List.mem_of_getElem? (i := 19) rfl
def ncW : List (String × String) := [("java/lang/IndexOutOfBoundsException", "java/lang/IllegalStateException"), ("java/lang/IndexOutOfBoundsException", "java/lang/IllegalArgumentException"), ("java/lang/IndexOutOfBoundsException", "java/lang/UnsupportedOperationException"), ("java/lang/IllegalStateException", "java/lang/IndexOutOfBoundsException"), ("java/lang/IllegalStateException", "java/lang/IllegalArgumentException"), ("java/lang/IllegalStateException", "java/lang/UnsupportedOperationException"), ("java/lang/IllegalArgumentException", "java/lang/IndexOutOfBoundsException"), ("java/lang/IllegalArgumentException", "java/lang/IllegalStateException"), ("java/lang/IllegalArgumentException", "java/lang/UnsupportedOperationException"), ("java/lang/UnsupportedOperationException", "java/lang/IndexOutOfBoundsException"), ("java/lang/UnsupportedOperationException", "java/lang/IllegalStateException"), ("java/lang/UnsupportedOperationException", "java/lang/IllegalArgumentException")]
theorem nn_0_1 : ("java/lang/IndexOutOfBoundsException", "java/lang/IllegalStateException") ∈ ncW := List.mem_of_getElem? (i := 0) rfl
theorem nn_0_2 : ("java/lang/IndexOutOfBoundsException", "java/lang/IllegalArgumentException") ∈ ncW := List.mem_of_getElem? (i := 1) rfl
theorem nn_0_3 : ("java/lang/IndexOutOfBoundsException", "java/lang/UnsupportedOperationException") ∈ ncW := List.mem_of_getElem? (i := 2) rfl
theorem nn_1_0 : ("java/lang/IllegalStateException", "java/lang/IndexOutOfBoundsException") ∈ ncW := List.mem_of_getElem? (i := 3) rfl
theorem nn_1_2 : ("java/lang/IllegalStateException", "java/lang/IllegalArgumentException") ∈ ncW := List.mem_of_getElem? (i := 4) rfl
theorem nn_1_3 : ("java/lang/IllegalStateException", "java/lang/UnsupportedOperationException") ∈ ncW := List.mem_of_getElem? (i := 5) rfl
theorem nn_2_0 : ("java/lang/IllegalArgumentException", "java/lang/IndexOutOfBoundsException") ∈ ncW := List.mem_of_getElem? (i := 6) rfl
theorem nn_2_1 : ("java/lang/IllegalArgumentException", "java/lang/IllegalStateException") ∈ ncW := List.mem_of_getElem? (i := 7) rfl
theorem nn_2_3 : ("java/lang/IllegalArgumentException", "java/lang/UnsupportedOperationException") ∈ ncW := List.mem_of_getElem? (i := 8) rfl
theorem nn_3_0 : ("java/lang/UnsupportedOperationException", "java/lang/IndexOutOfBoundsException") ∈ ncW := List.mem_of_getElem? (i := 9) rfl
theorem nn_3_1 : ("java/lang/UnsupportedOperationException", "java/lang/IllegalStateException") ∈ ncW := List.mem_of_getElem? (i := 10) rfl
theorem nn_3_2 : ("java/lang/UnsupportedOperationException", "java/lang/IllegalArgumentException") ∈ ncW := List.mem_of_getElem? (i := 11) rfl
def nestB : Cond → Bool
  | .fieldLinkNest _ _ _ _ _ _ => true
  | .methodLinkNest _ _ _ _ => true
  | .declares _ => true
  | .castable _ _ => true
  | _ => false
theorem nest_all : nestW.all nestB = true := by decide +kernel
theorem nest_warm {w : Cond} (hw : nestB w = true) {s U : State} (hW : s.WarmedH U.vm) (h : va_Nw w s) : va_Nw w U := by
  cases w <;> first | (simp [nestB] at hw; done) | exact va_Nw.warmF hW h | exact va_Nw.warmM hW h | exact va_Nw.warmD hW h | exact va_Nw.warmC hW h
theorem nest_same {w : Cond} (hw : nestB w = true) {s U : State} (hv : s.vm = U.vm) (h : va_Nw w s) : va_Nw w U := by
  cases w <;> first | (simp [nestB] at hw; done) | exact va_Nw.same rfl hv h
/-- what every method may take of the state: the classes, the nest's links, Throwable's two statics, the texts -/
def StF (K : Cst) (U : State) : Prop := va_K (kD K) vwCl (tysK K) U ∧ (∀ w ∈ nestW, va_Nw w U) ∧ (vx_Zq Bundle.tN "UNASSIGNED_STACK" Bundle.steD (kA K) U U.heap ∧ vx_Zq Bundle.tN "SUPPRESSED_SENTINEL" Bundle.listD (kA K) U U.heap) ∧ (∀ q ∈ strW, ∃ sa, vk_R q.1 q.2.1 q.2.2 sa U) ∧ va_AO "BagViews$Relation" U ∧ ∀ q ∈ ncW, va_Nc q.1 q.2 U
theorem StF.same {K : Cst} {s U : State} (hv : s.vm = U.vm) (hh : s.heap = U.heap) (h : StF K s) : StF K U := by
  obtain ⟨h1, h2, ⟨h3, h4⟩, h5, h6, h7⟩ := h
  refine ⟨va_K.moved (by rw [hv]; exact Vm.Alike.refl _) h1, fun w hw => nest_same (List.all_eq_true.mp nest_all w hw) hv (h2 w hw), ⟨?_, ?_⟩, fun q hq => ?_, va_AO.moved (by rw [hv]; exact Vm.Alike.refl _) h6, fun q hq => va_Nc.moved (by rw [hv]; exact Vm.Alike.refl _) (h7 q hq)⟩
  · rw [← hh]; exact vx_Zq.moved (by rw [hv]; exact Vm.Alike.refl _) h3
  · rw [← hh]; exact vx_Zq.moved (by rw [hv]; exact Vm.Alike.refl _) h4
  · obtain ⟨sa, hs⟩ := h5 q hq
    exact ⟨sa, vk_R.same hv.symm hs⟩
theorem StF.pass {K : Cst} {s U : State} {locs : List Loc} (hW : s.WarmedH U.vm) (hS : va_S (kA K) s.heap U.heap locs) (h : StF K s) : StF K U := by
  obtain ⟨h1, h2, ⟨h3, h4⟩, h5, h6, h7⟩ := h
  refine ⟨va_K.moved hW.alike h1, fun w hw => nest_warm (List.all_eq_true.mp nest_all w hw) hW (h2 w hw), ⟨vx_Zq.moved hW.alike (h3.kept hS.2.1), vx_Zq.moved hW.alike (h4.kept hS.2.1)⟩, fun q hq => ?_, va_AO.moved hW.alike h6, fun q hq => va_Nc.moved hW.alike (h7 q hq)⟩
  obtain ⟨sa, hs⟩ := h5 q hq
  exact ⟨sa, vk_R.warm hW hs⟩
end
section
/-! THE JUDGEMENT. Cx: a method's run: program, launch, environment, room, start state, method, arguments, frames below, the method, its code, what is owed at the end, the constants, the number of locals, the level. -/
abbrev Cx : Type := Program × Launch × Env × Room × State × MethodId × Array Value × List Frame × Method × Code × (State → Prop) × Cst × Nat × Nat
abbrev xp (X : Cx) : Program := X.1
abbrev xl (X : Cx) : Launch := X.2.1
abbrev xe (X : Cx) : Env := X.2.2.1
abbrev xR (X : Cx) : Room := X.2.2.2.1
abbrev xs (X : Cx) : State := X.2.2.2.2.1
abbrev xm (X : Cx) : MethodId := X.2.2.2.2.2.1
abbrev xargs (X : Cx) : Array Value := X.2.2.2.2.2.2.1
abbrev xbelow (X : Cx) : List Frame := X.2.2.2.2.2.2.2.1
abbrev xmeth (X : Cx) : Method := X.2.2.2.2.2.2.2.2.1
abbrev xc (X : Cx) : Code := X.2.2.2.2.2.2.2.2.2.1
abbrev xQ (X : Cx) : State → Prop := X.2.2.2.2.2.2.2.2.2.2.1
abbrev xK (X : Cx) : Cst := X.2.2.2.2.2.2.2.2.2.2.2.1
abbrev xn (X : Cx) : Nat := X.2.2.2.2.2.2.2.2.2.2.2.2.1
abbrev xlev (X : Cx) : Nat := X.2.2.2.2.2.2.2.2.2.2.2.2.2
def Hs (X : Cx) (g : Wd) (H : Heap) (locs : List Loc) : Prop := wdP (xK X) g H ∧ wdA (xK X) g ∧ va_S (kA (xK X)) (xs X).heap H locs
abbrev WX (X : Cx) (H : Heap) (locs : List Loc) (cells slots : Nat) (fr : JFrame) : Prop := W (xp X) (xl X) (xe X) (xR X) (xs X) (xm X) (xargs X) (xbelow X) (xmeth X) (xc X) H locs cells slots (xQ X) fr
def J (X : Cx) (kc ks : Nat) (g : Wd) (pc : Nat) (lv : List (Nat × Value)) (st : List Value) : Prop :=
  ∀ (H : Heap) (locs : List Loc) (cells slots : Nat) (ls : Array Slot), cells ≤ kc → slots ≤ ks → Hs X g H locs → lv_has ls (xn X) lv → WX X H locs cells slots (F0 (xm X) pc ls st)
/-- an exception of the class E stands over the frame -/
def JX (X : Cx) (kc ks : Nat) (g : Wd) (pc : Nat) (lv : List (Nat × Value)) (st : List Value) (E : String) : Prop :=
  ∀ (H : Heap) (locs : List Loc) (cells slots : Nat) (ls : Array Slot) (q : Addr) (ce : Cell), cells ≤ kc → slots ≤ ks → Hs X g H locs → lv_has ls (xn X) lv → H[q]? = some ce → ce.vm = .none → (xs X).vm.findClass E = some ce.cls →
    vx_W (xp X) (xl X) (xe X) (xR X) (xs X) (xm X) (xargs X) (xbelow X) (xmeth X) (xc X) H locs cells slots (xQ X) (F0 (xm X) pc ls st) q
def OK (X : Cx) (cc : ByteArray) (own : String) : Prop :=
  (xp X).tables.exec = Jvm.exec ∧ (xc X).code = cc ∧ (xc X).maxLocals = xn X ∧ (xs X).vm.findClass own = some (xm X).cls ∧ (∀ w ∈ wsL_law, w.before (xargs X) (xs X) = true) ∧ StF (xK X) (xs X) ∧ (xmeth X).locks = false ∧ kb (xK X) ≤ (xs X).heap.size ∧ (xlev X ≤ (xR X).frames ∧ 32 * xlev X ≤ (xR X).locals)
section Acc
variable {X : Cx} {cc : ByteArray} {own : String}
theorem OK.x (h : OK X cc own) : (xp X).tables.exec = Jvm.exec := h.1
theorem OK.b (h : OK X cc own) : (xc X).code = cc := h.2.1
theorem OK.ml (h : OK X cc own) : (xc X).maxLocals = xn X := h.2.2.1
theorem OK.ow (h : OK X cc own) : (xs X).vm.findClass own = some (xm X).cls := h.2.2.2.1
theorem OK.ts (h : OK X cc own) : ∀ w ∈ wsL_law, w.before (xargs X) (xs X) = true := h.2.2.2.2.1
theorem OK.F (h : OK X cc own) : StF (xK X) (xs X) := h.2.2.2.2.2.1
theorem OK.K (h : OK X cc own) : va_K (kD (xK X)) vwCl (tysK (xK X)) (xs X) := h.F.1
theorem OK.N (h : OK X cc own) : ∀ w ∈ nestW, va_Nw w (xs X) := h.F.2.1
theorem OK.locks (h : OK X cc own) : (xmeth X).locks = false := h.2.2.2.2.2.2.1
theorem OK.b0 (h : OK X cc own) : kb (xK X) ≤ (xs X).heap.size := h.2.2.2.2.2.2.2.1
theorem OK.room (h : OK X cc own) : xlev X ≤ (xR X).frames ∧ 32 * xlev X ≤ (xR X).locals := h.2.2.2.2.2.2.2.2
theorem OK.A (h : OK X cc own) : ∀ q, (xs X).heap.size ≤ q → kA (xK X) q := fun _ hq => Nat.le_trans h.b0 hq
end Acc
/-- what a method owes at its end -/
def QcW (K : Cst) (Post : Option Value → Wd → Prop) : Array Value → State → Outcome → State → Prop := fun _ st oc t => (∃ v g', oc = .returned v ∧ Post v g' ∧ wdP K g' t.heap ∧ wdA K g') ∧ va_F (kA K) st t
def XcW (K : Cst) (XP : String → Wd → Prop) : String → State → State → Prop := fun E st t => (∃ g', XP E g' ∧ wdP K g' t.heap ∧ wdA K g') ∧ va_F (kA K) st t
def EndX (X : Cx) (ret : Option FieldType) (Post : Option Value → Wd → Prop) (XP : String → Wd → Prop) (mc ms : Nat) : Prop :=
  xQ X = vx_MQ (xbelow X) (QcW (xK X) Post) (XcW (xK X) XP) (xargs X) (xs X) mc ms (kA (xK X)) ∧ (xmeth X).sig.returnType = ret ∧ ∀ x ∈ (xc X).exceptionTable.toList, False
abbrev rmL (L mc ms : Nat) : Room := { frames := L, cells := mc, slots := ms, locals := 32 * L }
def PreW (K : Cst) (g : Wd) (U : State) : Prop := StF K U ∧ wdP K g U.heap ∧ wdA K g ∧ kb K ≤ U.heap.size
/-- A CONTRACT: the method y, called with av in the world g, returns with Post or throws with XP -/
def Ct (l : Launch) (K : Cst) (y : MethodName) (cc : ByteArray) (n : Nat) (r : Option FieldType) (L : Nat) (av : List Value) (g : Wd) (Post : Option Value → Wd → Prop) (XP : String → Wd → Prop) (mc ms : Nat) : Prop :=
  vx_Met l y (Cond.code y cc n r :: wsL_law) (rmL L mc ms) (va_Pc av (PreW K g)) (QcW K Post) (XcW K XP) mc ms (kA K)
theorem PreW.blind {K : Cst} {g : Wd} {av : List Value} : FrameBlind (va_Pc av (PreW K g)) := fun a U f mk h => ⟨h.1, StF.same (s := U) (U := U.calling f mk a) rfl rfl h.2.1, h.2.2.1, h.2.2.2.1, h.2.2.2.2⟩
set_option maxRecDepth 100000 in
theorem ct_of {l : Launch} {K : Cst} {y : MethodName} {cc : ByteArray} {n : Nat} {r : Option FieldType} {L : Nat} {av : List Value} {g : Wd} {Post : Option Value → Wd → Prop} {XP : String → Wd → Prop} {mc ms : Nat} (hy : plainName y.cls = true) (hn : (lg_sl av).length ≤ n)
    (body : ∀ X : Cx, xl X = l → xK X = K → OK X cc y.cls → EndX X r Post XP mc ms → xn X = n → xlev X = L → xR X = rmL L mc ms → (xmeth X).name = y.name → J X 0 0 g 0 (lv_args 0 av) []) : Ct l K y cc n r L av g Post XP mc ms := by
  refine vx_ofW (cc := cc) (maxL := n) (ret := r) hy rfl ?_
  intro p e s m args below meth c s₁ B hml ht hv
  obtain ⟨rfl, hF, hP, hA, hb0⟩ := hv
  have hts := atoms_spec (ws := Cond.code y cc n r :: wsL_law) B.pre
  have hJ := body (p, l, e, rmL L mc ms, s, m, av.toArray, below, meth, c, vx_MQ below (QcW K Post) (XcW K XP) av.toArray s mc ms (kA K), K, n, L) rfl rfl
    ⟨B.exec, B.bytes, hml, findClass_of_methodNamed B.named, fun w hw => hts w (List.mem_cons_of_mem _ hw), hF, B.notSynchronized, hb0, Nat.le_refl _, Nat.le_refl _⟩ ⟨rfl, B.returns, ht⟩ rfl rfl rfl (name_of_methodNamed B.named B.method).1
  rw [lg_entry_eq]
  exact hJ s.heap [] 0 0 _ (Nat.le_refl _) (Nat.le_refl _) ⟨hP, hA, va_S.rf⟩ (lv_entry av hn)
/-! the words are good -/
theorem wg_app {a b : List Cond} (ha : ∀ w ∈ a, goodWord w = true) (hb : ∀ w ∈ b, goodWord w = true) : ∀ w ∈ a ++ b, goodWord w = true := fun w h => (List.mem_append.mp h).elim (ha w) (hb w)
theorem wg_all {a : List Cond} (h : a.all goodWord = true) : ∀ w ∈ a, goodWord w = true := List.all_eq_true.mp h
theorem wg_good0 : ∀ w ∈ wsL_law0, goodWord w = true := (wg_app (wg_app (wg_app (wg_app (wg_app (wg_app (wg_app (wg_app (wg_app (wg_app (wg_app (wg_app (wg_app (wg_all (by decide +kernel)) (wg_app (wg_all (by decide +kernel)) (wg_app (wg_all (by decide +kernel)) (wg_app (wg_all (by decide +kernel)) (wg_app (wg_all (by decide +kernel)) (wg_app (wg_all (by decide +kernel)) (wg_app (wg_all (by decide +kernel)) (wg_app (wg_all (by decide +kernel)) (wg_app (wg_all (by decide +kernel)) (wg_app (wg_all (by decide +kernel)) (wg_app (wg_all (by decide +kernel)) (wg_app (wg_all (by decide +kernel)) (wg_app (wg_all (by decide +kernel)) (wg_app (wg_all (by decide +kernel)) (wg_app (wg_all (by decide +kernel)) (wg_app (wg_all (by decide +kernel)) (wg_app (wg_all (by decide +kernel)) (wg_app (wg_all (by decide +kernel)) (wg_app (wg_all (by decide +kernel)) (wg_app (wg_all (by decide +kernel)) (wg_app (wg_all (by decide +kernel)) (wg_app (wg_all (by decide +kernel)) (wg_app (wg_all (by decide +kernel)) (wg_app (wg_all (by decide +kernel)) (wg_app (wg_all (by decide +kernel)) (wg_app (wg_all (by decide +kernel)) (wg_app (wg_all (by decide +kernel)) (wg_app (wg_all (by decide +kernel)) (wg_app (wg_all (by decide +kernel)) (wg_all (by decide +kernel))))))))))))))))))))))))))))))) (wg_all (by decide +kernel))) (wg_all (by decide +kernel))) (wg_all (by decide +kernel))) (wg_all (by decide +kernel))) (wg_all (by decide +kernel))) (wg_all (by decide +kernel))) (wg_all (by decide +kernel))) (wg_all (by decide +kernel))) (wg_all (by decide +kernel))) (wg_all (by decide +kernel))) (wg_all (by decide +kernel))) (wg_all rfl))
theorem wg_good : ∀ w ∈ wsL_law, goodWord w = true := (wg_app (wg_app (wg_app (wg_app wg_good0 (fun w h => (List.mem_filter.mp h).2)) (fun w h => (List.mem_filter.mp h).2)) (fun w h => (List.mem_filter.mp h).2)) (fun w h => (List.mem_filter.mp h).2))
theorem wg_in {ws : List Cond} (h : ∀ w ∈ ws, w ∈ wsL_law) : GoodIn wsL_law ws := fun w hw => ⟨h w hw, good_of_word (wg_good w (h w hw))⟩
theorem wg_c {c : Cond} {B : List Cond} (h : c ∈ wsL_law) (t : ∀ w ∈ B, w ∈ wsL_law) : ∀ w ∈ c :: B, w ∈ wsL_law := fun w h' => (List.mem_cons.mp h').elim (fun e => by rw [e]; exact h) (t w)
theorem wg_s : ∀ w ∈ wsL_law, w ∈ wsL_law := fun _ h => h
end
section
section Rows
variable {X : Cx} {cc : ByteArray} {own : String} {kc ks : Nat} {g : Wd} {pc : Nat} {lv lv' : List (Nat × Value)} {st rest : List Value}
theorem j_lift {pc' : Nat} {st' : List Value} (h : ∀ (H : Heap) (locs : List Loc) (cells slots : Nat) (ls : Array Slot), lv_has ls (xn X) lv → WX X H locs cells slots (F0 (xm X) pc' ls st') → WX X H locs cells slots (F0 (xm X) pc ls st)) (k : J X kc ks g pc' lv st') : J X kc ks g pc lv st :=
  fun H locs cells slots ls h1 h2 h3 h4 => h H locs cells slots ls h4 (k H locs cells slots ls h1 h2 h3 h4)
theorem j_sub (js : List Nat) (hl : lv_pick lv js = lv') (k : J X kc ks g pc lv' st) : J X kc ks g pc lv st :=
  fun H locs cells slots ls h1 h2 h3 h4 => k H locs cells slots ls h1 h2 h3 (lv_sub h4 js hl)
theorem j_w {g' : Wd} (e : g = g') (k : J X kc ks g' pc lv st) : J X kc ks g pc lv st := e ▸ k
theorem j_more {kc' ks' : Nat} (h1 : kc ≤ kc') (h2 : ks ≤ ks') (k : J X kc' ks' g pc lv st) : J X kc ks g pc lv st :=
  fun H locs cells slots ls a1 a2 h3 h4 => k H locs cells slots ls (Nat.le_trans a1 h1) (Nat.le_trans a2 h2) h3 h4
theorem j_topi {x : Int32} (k : ∀ y : Int32, y = x → J X kc ks g pc lv (.int y :: rest)) : J X kc ks g pc lv (.int x :: rest) := k x rfl
theorem j_topl {x : Int64} (k : ∀ y : Int64, y = x → J X kc ks g pc lv (.long y :: rest)) : J X kc ks g pc lv (.long x :: rest) := k x rfl
theorem j_at {x y : Value} (e : x = y) (k : J X kc ks g pc lv (y :: rest)) : J X kc ks g pc lv (x :: rest) := by rw [e]; exact k
theorem j_eqi {x y : Int32} (e : x = y) (k : J X kc ks g pc lv (.int y :: rest)) : J X kc ks g pc lv (.int x :: rest) := by rw [e]; exact k
theorem j_eql {x y : Int64} (e : x = y) (k : J X kc ks g pc lv (.long y :: rest)) : J X kc ks g pc lv (.long x :: rest) := by rw [e]; exact k
theorem j_iconst (hX : OK X cc own) {n : Int} {v : Int32} (d : decode cc pc = .ok (.iconst n, 1)) (hv : Int32.ofInt n = v) (k : J X kc ks g (pc + 1) lv (.int v :: st)) : J X kc ks g pc lv (st) := j_lift (fun _ _ _ _ _ _ k => lv_iconst hX.x hX.b d hv k) k
theorem j_bipush (hX : OK X cc own) {n : Int} {v : Int32} (d : decode cc pc = .ok (.bipush n, 2)) (hv : (Int8.ofInt n).toInt32 = v) (k : J X kc ks g (pc + 2) lv (.int v :: st)) : J X kc ks g pc lv (st) := j_lift (fun _ _ _ _ _ _ k => lv_bipush hX.x hX.b d hv k) k
theorem j_sipush (hX : OK X cc own) {n : Int} {v : Int32} (d : decode cc pc = .ok (.sipush n, 3)) (hv : (Int16.ofInt n).toInt32 = v) (k : J X kc ks g (pc + 3) lv (.int v :: st)) : J X kc ks g pc lv (st) := j_lift (fun _ _ _ _ _ _ k => lv_sipush hX.x hX.b d hv k) k
theorem j_lconst (hX : OK X cc own) {n : Fin 2} {v : Int64} (d : decode cc pc = .ok (.lconst n, 1)) (hv : Int64.ofNat (n : Nat) = v) (k : J X kc ks g (pc + 1) lv (.long v :: st)) : J X kc ks g pc lv (st) := j_lift (fun _ _ _ _ _ _ k => lv_lconst hX.x hX.b d hv k) k
theorem j_null (hX : OK X cc own)  (d : decode cc pc = .ok (.aconst_null, 1)) (k : J X kc ks g (pc + 1) lv (.null :: st)) : J X kc ks g pc lv (st) := j_lift (fun _ _ _ _ _ _ k => lv_null hX.x hX.b d k) k
theorem j_iadd (hX : OK X cc own) {x y : Int32} (d : decode cc pc = .ok (.iadd, 1)) (k : J X kc ks g (pc + 1) lv (.int (x + y) :: rest)) : J X kc ks g pc lv (.int y :: .int x :: rest) := j_lift (fun _ _ _ _ _ _ k => lv_iadd hX.x hX.b d k) k
theorem j_isub (hX : OK X cc own) {x y : Int32} (d : decode cc pc = .ok (.isub, 1)) (k : J X kc ks g (pc + 1) lv (.int (x - y) :: rest)) : J X kc ks g pc lv (.int y :: .int x :: rest) := j_lift (fun _ _ _ _ _ _ k => lv_isub hX.x hX.b d k) k
theorem j_imul (hX : OK X cc own) {x y : Int32} (d : decode cc pc = .ok (.imul, 1)) (k : J X kc ks g (pc + 1) lv (.int (x * y) :: rest)) : J X kc ks g pc lv (.int y :: .int x :: rest) := j_lift (fun _ _ _ _ _ _ k => lv_imul hX.x hX.b d k) k
theorem j_iand (hX : OK X cc own) {x y : Int32} (d : decode cc pc = .ok (.iand, 1)) (k : J X kc ks g (pc + 1) lv (.int (x &&& y) :: rest)) : J X kc ks g pc lv (.int y :: .int x :: rest) := j_lift (fun _ _ _ _ _ _ k => lv_iand hX.x hX.b d k) k
theorem j_idiv (hX : OK X cc own) {x y : Int32} (d : decode cc pc = .ok (.idiv, 1)) (hne : ¬ y = 0) (k : J X kc ks g (pc + 1) lv (.int (x / y) :: rest)) : J X kc ks g pc lv (.int y :: .int x :: rest) := j_lift (fun _ _ _ _ _ _ k => lv_idiv hX.x hX.b d hne k) k
theorem j_ladd (hX : OK X cc own) {x y : Int64} (d : decode cc pc = .ok (.ladd, 1)) (k : J X kc ks g (pc + 1) lv (.long (x + y) :: rest)) : J X kc ks g pc lv (.long y :: .long x :: rest) := j_lift (fun _ _ _ _ _ _ k => lv_ladd hX.x hX.b d k) k
theorem j_lsub (hX : OK X cc own) {x y : Int64} (d : decode cc pc = .ok (.lsub, 1)) (k : J X kc ks g (pc + 1) lv (.long (x - y) :: rest)) : J X kc ks g pc lv (.long y :: .long x :: rest) := j_lift (fun _ _ _ _ _ _ k => lv_lsub hX.x hX.b d k) k
theorem j_lmul (hX : OK X cc own) {x y : Int64} (d : decode cc pc = .ok (.lmul, 1)) (k : J X kc ks g (pc + 1) lv (.long (x * y) :: rest)) : J X kc ks g pc lv (.long y :: .long x :: rest) := j_lift (fun _ _ _ _ _ _ k => lv_lmul hX.x hX.b d k) k
theorem j_i2l (hX : OK X cc own) {x : Int32} (d : decode cc pc = .ok (.i2l, 1)) (k : J X kc ks g (pc + 1) lv (.long x.toInt64 :: rest)) : J X kc ks g pc lv (.int x :: rest) := j_lift (fun _ _ _ _ _ _ k => lv_i2l hX.x hX.b d rfl k) k
theorem j_l2i (hX : OK X cc own) {x : Int64} (d : decode cc pc = .ok (.l2i, 1)) (k : J X kc ks g (pc + 1) lv (.int x.toInt32 :: rest)) : J X kc ks g pc lv (.long x :: rest) := j_lift (fun _ _ _ _ _ _ k => lv_l2i hX.x hX.b d rfl k) k
theorem j_lcmp (hX : OK X cc own) {x y : Int64} (d : decode cc pc = .ok (.lcmp, 1)) (k : J X kc ks g (pc + 1) lv (.int (lg_cmp x y) :: rest)) : J X kc ks g pc lv (.long y :: .long x :: rest) := j_lift (fun _ _ _ _ _ _ k => W.lcmp hX.x hX.b d k) k
theorem j_ineg (hX : OK X cc own) {x : Int32} (d : decode cc pc = .ok (.ineg, 1)) (k : J X kc ks g (pc + 1) lv (.int (-x) :: rest)) : J X kc ks g pc lv (.int x :: rest) := j_lift (fun _ _ _ _ _ _ k => lv_ineg hX.x hX.b d k) k
theorem j_dup (hX : OK X cc own) {v : Value} (d : decode cc pc = .ok (.dup, 1)) (hv : v.category = 1) (k : J X kc ks g (pc + 1) lv (v :: v :: rest)) : J X kc ks g pc lv (v :: rest) := j_lift (fun _ _ _ _ _ _ k => lv_dup hX.x hX.b d hv k) k
theorem j_dup2 (hX : OK X cc own) {va vb : Value} (d : decode cc pc = .ok (.dup2, 1)) (hva : va.category = 1) (hvb : vb.category = 1) (k : J X kc ks g (pc + 1) lv (va :: vb :: va :: vb :: rest)) : J X kc ks g pc lv (va :: vb :: rest) := j_lift (fun _ _ _ _ _ _ k => lv_dup2_11 hX.x hX.b d hva hvb k) k
theorem j_dupx1 (hX : OK X cc own) {va vb : Value} (d : decode cc pc = .ok (.dup_x1, 1)) (hva : va.category = 1) (hvb : vb.category = 1) (k : J X kc ks g (pc + 1) lv (va :: vb :: va :: rest)) : J X kc ks g pc lv (va :: vb :: rest) := j_lift (fun _ _ _ _ _ _ k => lv_dup_x1 hX.x hX.b d hva hvb k) k
theorem j_pop (hX : OK X cc own) {v : Value} (d : decode cc pc = .ok (.pop, 1)) (hv : v.category = 1) (k : J X kc ks g (pc + 1) lv rest) : J X kc ks g pc lv (v :: rest) := j_lift (fun _ _ _ _ _ _ k => lv_pop hX.x hX.b d hv k) k
theorem j_iload_n (hX : OK X cc own) {i : Fin 4} {x : Int32} (d : decode cc pc = .ok (.iload_n i, 1)) (j : Nat) (hj : lv[j]? = some ((i : Nat), .int x)) (k : J X kc ks g (pc + 1) lv (.int x :: st)) : J X kc ks g pc lv st := j_lift (fun _ _ _ _ _ hl k => lv_iload_n hX.x hX.b d rfl (lv_at hl j hj) k) k
theorem j_iload (hX : OK X cc own) {i : Nat} {x : Int32} (d : decode cc pc = .ok (.iload i, 2)) (j : Nat) (hj : lv[j]? = some (i, .int x)) (k : J X kc ks g (pc + 2) lv (.int x :: st)) : J X kc ks g pc lv st := j_lift (fun _ _ _ _ _ hl k => lv_iload hX.x hX.b d (lv_at hl j hj) k) k
theorem j_lload_n (hX : OK X cc own) {i : Fin 4} {x : Int64} (d : decode cc pc = .ok (.lload_n i, 1)) (j : Nat) (hj : lv[j]? = some ((i : Nat), .long x)) (k : J X kc ks g (pc + 1) lv (.long x :: st)) : J X kc ks g pc lv st := j_lift (fun _ _ _ _ _ hl k => lv_lload_n hX.x hX.b d rfl (lv_at hl j hj) k) k
theorem j_lload (hX : OK X cc own) {i : Nat} {x : Int64} (d : decode cc pc = .ok (.lload i, 2)) (j : Nat) (hj : lv[j]? = some (i, .long x)) (k : J X kc ks g (pc + 2) lv (.long x :: st)) : J X kc ks g pc lv st := j_lift (fun _ _ _ _ _ hl k => lv_lload hX.x hX.b d (lv_at hl j hj) k) k
theorem j_aload_n (hX : OK X cc own) {i : Fin 4} {x : Nat} (d : decode cc pc = .ok (.aload_n i, 1)) (j : Nat) (hj : lv[j]? = some ((i : Nat), .ref x)) (k : J X kc ks g (pc + 1) lv (.ref x :: st)) : J X kc ks g pc lv st := j_lift (fun _ _ _ _ _ hl k => lv_aload_n hX.x hX.b d rfl (lv_at hl j hj) k) k
theorem j_aload (hX : OK X cc own) {i : Nat} {x : Nat} (d : decode cc pc = .ok (.aload i, 2)) (j : Nat) (hj : lv[j]? = some (i, .ref x)) (k : J X kc ks g (pc + 2) lv (.ref x :: st)) : J X kc ks g pc lv st := j_lift (fun _ _ _ _ _ hl k => lv_aload hX.x hX.b d (lv_at hl j hj) k) k
theorem j_istore (hX : OK X cc own) {i : Nat} {x : Int32} (d : decode cc pc = .ok (.istore i, 2)) (hn : i < xn X) (hl : (i, Value.int x) :: lv.filter (fun q => !(q.1 == i) && !(q.1 + 1 == i && q.2.category == 2)) = lv') (k : J X kc ks g (pc + 2) lv' rest) : J X kc ks g pc lv (.int x :: rest) := fun H locs cells slots ls h1 h2 h3 h4 => lv_istore hX.x hX.b d h4 hn hl (fun ls' h5 => k H locs cells slots ls' h1 h2 h3 h5)
theorem j_istore_n (hX : OK X cc own) {i : Fin 4} {x : Int32} (d : decode cc pc = .ok (.istore_n i, 1)) (hn : (i : Nat) < xn X) (hl : ((i : Nat), Value.int x) :: lv.filter (fun q => !(q.1 == (i : Nat)) && !(q.1 + 1 == (i : Nat) && q.2.category == 2)) = lv') (k : J X kc ks g (pc + 1) lv' rest) : J X kc ks g pc lv (.int x :: rest) := fun H locs cells slots ls h1 h2 h3 h4 => lv_istore_n hX.x hX.b d rfl h4 hn hl (fun ls' h5 => k H locs cells slots ls' h1 h2 h3 h5)
theorem j_astore (hX : OK X cc own) {i : Nat} {x : Nat} (d : decode cc pc = .ok (.astore i, 2)) (hn : i < xn X) (hl : (i, Value.ref x) :: lv.filter (fun q => !(q.1 == i) && !(q.1 + 1 == i && q.2.category == 2)) = lv') (k : J X kc ks g (pc + 2) lv' rest) : J X kc ks g pc lv (.ref x :: rest) := fun H locs cells slots ls h1 h2 h3 h4 => lv_astore hX.x hX.b d h4 hn hl (fun ls' h5 => k H locs cells slots ls' h1 h2 h3 h5)
theorem j_astore_n (hX : OK X cc own) {i : Fin 4} {x : Nat} (d : decode cc pc = .ok (.astore_n i, 1)) (hn : (i : Nat) < xn X) (hl : ((i : Nat), Value.ref x) :: lv.filter (fun q => !(q.1 == (i : Nat)) && !(q.1 + 1 == (i : Nat) && q.2.category == 2)) = lv') (k : J X kc ks g (pc + 1) lv' rest) : J X kc ks g pc lv (.ref x :: rest) := fun H locs cells slots ls h1 h2 h3 h4 => lv_astore_n hX.x hX.b d rfl h4 hn hl (fun ls' h5 => k H locs cells slots ls' h1 h2 h3 h5)
theorem j_lstore (hX : OK X cc own) {i : Nat} {x : Int64} (d : decode cc pc = .ok (.lstore i, 2)) (hn : i + 1 < xn X) (hl : (i, Value.long x) :: lv.filter (fun q => !(q.1 == i) && (!(q.1 == i + 1) && !(q.1 + 1 == i && q.2.category == 2))) = lv') (k : J X kc ks g (pc + 2) lv' rest) : J X kc ks g pc lv (.long x :: rest) := fun H locs cells slots ls h1 h2 h3 h4 => lv_lstore hX.x hX.b d h4 hn hl (fun ls' h5 => k H locs cells slots ls' h1 h2 h3 h5)
theorem j_lstore_n (hX : OK X cc own) {i : Fin 4} {x : Int64} (d : decode cc pc = .ok (.lstore_n i, 1)) (hn : (i : Nat) + 1 < xn X) (hl : ((i : Nat), Value.long x) :: lv.filter (fun q => !(q.1 == (i : Nat)) && (!(q.1 == (i : Nat) + 1) && !(q.1 + 1 == (i : Nat) && q.2.category == 2))) = lv') (k : J X kc ks g (pc + 1) lv' rest) : J X kc ks g pc lv (.long x :: rest) := fun H locs cells slots ls h1 h2 h3 h4 => lv_lstore_n hX.x hX.b d rfl h4 hn hl (fun ls' h5 => k H locs cells slots ls' h1 h2 h3 h5)
theorem j_iinc (hX : OK X cc own) {i : Nat} {n : Int} {x v : Int32} (d : decode cc pc = .ok (.iinc i n, 3)) (j : Nat) (hj : lv[j]? = some (i, .int x)) (hv : x + Int32.ofInt n = v) (hn : i < xn X) (hl : (i, Value.int v) :: lv.filter (fun q => !(q.1 == i) && !(q.1 + 1 == i && q.2.category == 2)) = lv') (k : J X kc ks g (pc + 3) lv' st) : J X kc ks g pc lv st := fun H locs cells slots ls h1 h2 h3 h4 => lv_iinc hX.x hX.b d h4 hj hv hn hl (fun ls' h5 => k H locs cells slots ls' h1 h2 h3 h5)
theorem j_if_eq (hX : OK X cc own) {x : Int32} {off : Int} (tgt : Nat) (d : decode cc pc = .ok (.ifCond .eq off, 3)) (ht : (pc : Int) + off = (tgt : Int)) (kt : x = 0 → J X kc ks g tgt lv rest) (kf : ¬ x = 0 → J X kc ks g (pc + 3) lv rest) : J X kc ks g pc lv (.int x :: rest) := fun H locs cells slots ls h1 h2 h3 h4 => lv_if_eq hX.x hX.b d ht (fun c => kt c H locs cells slots ls h1 h2 h3 h4) (fun c => kf c H locs cells slots ls h1 h2 h3 h4)
theorem j_icmp_eq (hX : OK X cc own) {x y : Int32} {off : Int} (tgt : Nat) (d : decode cc pc = .ok (.if_icmp .eq off, 3)) (ht : (pc : Int) + off = (tgt : Int)) (kt : x = y → J X kc ks g tgt lv rest) (kf : ¬ x = y → J X kc ks g (pc + 3) lv rest) : J X kc ks g pc lv (.int y :: .int x :: rest) := fun H locs cells slots ls h1 h2 h3 h4 => lv_icmp_eq hX.x hX.b d ht (fun c => kt c H locs cells slots ls h1 h2 h3 h4) (fun c => kf c H locs cells slots ls h1 h2 h3 h4)
theorem j_if_ne (hX : OK X cc own) {x : Int32} {off : Int} (tgt : Nat) (d : decode cc pc = .ok (.ifCond .ne off, 3)) (ht : (pc : Int) + off = (tgt : Int)) (kt : ¬ x = 0 → J X kc ks g tgt lv rest) (kf : x = 0 → J X kc ks g (pc + 3) lv rest) : J X kc ks g pc lv (.int x :: rest) := fun H locs cells slots ls h1 h2 h3 h4 => lv_if_ne hX.x hX.b d ht (fun c => kt c H locs cells slots ls h1 h2 h3 h4) (fun c => kf c H locs cells slots ls h1 h2 h3 h4)
theorem j_icmp_ne (hX : OK X cc own) {x y : Int32} {off : Int} (tgt : Nat) (d : decode cc pc = .ok (.if_icmp .ne off, 3)) (ht : (pc : Int) + off = (tgt : Int)) (kt : ¬ x = y → J X kc ks g tgt lv rest) (kf : x = y → J X kc ks g (pc + 3) lv rest) : J X kc ks g pc lv (.int y :: .int x :: rest) := fun H locs cells slots ls h1 h2 h3 h4 => lv_icmp_ne hX.x hX.b d ht (fun c => kt c H locs cells slots ls h1 h2 h3 h4) (fun c => kf c H locs cells slots ls h1 h2 h3 h4)
theorem j_if_lt (hX : OK X cc own) {x : Int32} {off : Int} (tgt : Nat) (d : decode cc pc = .ok (.ifCond .lt off, 3)) (ht : (pc : Int) + off = (tgt : Int)) (kt : x < 0 → J X kc ks g tgt lv rest) (kf : ¬ x < 0 → J X kc ks g (pc + 3) lv rest) : J X kc ks g pc lv (.int x :: rest) := fun H locs cells slots ls h1 h2 h3 h4 => lv_if_lt hX.x hX.b d ht (fun c => kt c H locs cells slots ls h1 h2 h3 h4) (fun c => kf c H locs cells slots ls h1 h2 h3 h4)
theorem j_icmp_lt (hX : OK X cc own) {x y : Int32} {off : Int} (tgt : Nat) (d : decode cc pc = .ok (.if_icmp .lt off, 3)) (ht : (pc : Int) + off = (tgt : Int)) (kt : x < y → J X kc ks g tgt lv rest) (kf : ¬ x < y → J X kc ks g (pc + 3) lv rest) : J X kc ks g pc lv (.int y :: .int x :: rest) := fun H locs cells slots ls h1 h2 h3 h4 => lv_icmp_lt hX.x hX.b d ht (fun c => kt c H locs cells slots ls h1 h2 h3 h4) (fun c => kf c H locs cells slots ls h1 h2 h3 h4)
theorem j_if_ge (hX : OK X cc own) {x : Int32} {off : Int} (tgt : Nat) (d : decode cc pc = .ok (.ifCond .ge off, 3)) (ht : (pc : Int) + off = (tgt : Int)) (kt : 0 ≤ x → J X kc ks g tgt lv rest) (kf : ¬ 0 ≤ x → J X kc ks g (pc + 3) lv rest) : J X kc ks g pc lv (.int x :: rest) := fun H locs cells slots ls h1 h2 h3 h4 => lv_if_ge hX.x hX.b d ht (fun c => kt c H locs cells slots ls h1 h2 h3 h4) (fun c => kf c H locs cells slots ls h1 h2 h3 h4)
theorem j_icmp_ge (hX : OK X cc own) {x y : Int32} {off : Int} (tgt : Nat) (d : decode cc pc = .ok (.if_icmp .ge off, 3)) (ht : (pc : Int) + off = (tgt : Int)) (kt : y ≤ x → J X kc ks g tgt lv rest) (kf : ¬ y ≤ x → J X kc ks g (pc + 3) lv rest) : J X kc ks g pc lv (.int y :: .int x :: rest) := fun H locs cells slots ls h1 h2 h3 h4 => lv_icmp_ge hX.x hX.b d ht (fun c => kt c H locs cells slots ls h1 h2 h3 h4) (fun c => kf c H locs cells slots ls h1 h2 h3 h4)
theorem j_if_gt (hX : OK X cc own) {x : Int32} {off : Int} (tgt : Nat) (d : decode cc pc = .ok (.ifCond .gt off, 3)) (ht : (pc : Int) + off = (tgt : Int)) (kt : 0 < x → J X kc ks g tgt lv rest) (kf : ¬ 0 < x → J X kc ks g (pc + 3) lv rest) : J X kc ks g pc lv (.int x :: rest) := fun H locs cells slots ls h1 h2 h3 h4 => lv_if_gt hX.x hX.b d ht (fun c => kt c H locs cells slots ls h1 h2 h3 h4) (fun c => kf c H locs cells slots ls h1 h2 h3 h4)
theorem j_icmp_gt (hX : OK X cc own) {x y : Int32} {off : Int} (tgt : Nat) (d : decode cc pc = .ok (.if_icmp .gt off, 3)) (ht : (pc : Int) + off = (tgt : Int)) (kt : y < x → J X kc ks g tgt lv rest) (kf : ¬ y < x → J X kc ks g (pc + 3) lv rest) : J X kc ks g pc lv (.int y :: .int x :: rest) := fun H locs cells slots ls h1 h2 h3 h4 => lv_icmp_gt hX.x hX.b d ht (fun c => kt c H locs cells slots ls h1 h2 h3 h4) (fun c => kf c H locs cells slots ls h1 h2 h3 h4)
theorem j_if_le (hX : OK X cc own) {x : Int32} {off : Int} (tgt : Nat) (d : decode cc pc = .ok (.ifCond .le off, 3)) (ht : (pc : Int) + off = (tgt : Int)) (kt : x ≤ 0 → J X kc ks g tgt lv rest) (kf : ¬ x ≤ 0 → J X kc ks g (pc + 3) lv rest) : J X kc ks g pc lv (.int x :: rest) := fun H locs cells slots ls h1 h2 h3 h4 => lv_if_le hX.x hX.b d ht (fun c => kt c H locs cells slots ls h1 h2 h3 h4) (fun c => kf c H locs cells slots ls h1 h2 h3 h4)
theorem j_icmp_le (hX : OK X cc own) {x y : Int32} {off : Int} (tgt : Nat) (d : decode cc pc = .ok (.if_icmp .le off, 3)) (ht : (pc : Int) + off = (tgt : Int)) (kt : x ≤ y → J X kc ks g tgt lv rest) (kf : ¬ x ≤ y → J X kc ks g (pc + 3) lv rest) : J X kc ks g pc lv (.int y :: .int x :: rest) := fun H locs cells slots ls h1 h2 h3 h4 => lv_icmp_le hX.x hX.b d ht (fun c => kt c H locs cells slots ls h1 h2 h3 h4) (fun c => kf c H locs cells slots ls h1 h2 h3 h4)
theorem j_goto (hX : OK X cc own) {off : Int} (tgt : Nat) (d : decode cc pc = .ok (.goto off, 3)) (ht : (pc : Int) + off = (tgt : Int)) (k : J X kc ks g tgt lv st) : J X kc ks g pc lv st := j_lift (fun _ _ _ _ _ _ k => lv_goto hX.x hX.b d ht k) k
theorem j_ifnull_r (hX : OK X cc own) {x : Nat} {off : Int} (d : decode cc pc = .ok (.ifnull off, 3)) (k : J X kc ks g (pc + 3) lv rest) : J X kc ks g pc lv (.ref x :: rest) := j_lift (fun _ _ _ _ _ _ k => lv_ifnull hX.x hX.b d k) k
theorem j_ifnull_n (hX : OK X cc own) {off : Int} (tgt : Nat) (d : decode cc pc = .ok (.ifnull off, 3)) (ht : (pc : Int) + off = (tgt : Int)) (k : J X kc ks g tgt lv rest) : J X kc ks g pc lv (.null :: rest) := j_lift (fun _ _ _ _ _ _ k => lv_ifnullN hX.x hX.b d ht k) k
theorem j_ifnonnull_r (hX : OK X cc own) {x : Nat} {off : Int} (tgt : Nat) (d : decode cc pc = .ok (.ifnonnull off, 3)) (ht : (pc : Int) + off = (tgt : Int)) (k : J X kc ks g tgt lv rest) : J X kc ks g pc lv (.ref x :: rest) := j_lift (fun _ _ _ _ _ _ k => lv_ifnonnull hX.x hX.b d ht k) k
theorem j_ifnonnull_n (hX : OK X cc own) {off : Int} (d : decode cc pc = .ok (.ifnonnull off, 3)) (k : J X kc ks g (pc + 3) lv rest) : J X kc ks g pc lv (.null :: rest) := j_lift (fun _ _ _ _ _ _ k => lv_ifnonnullN hX.x hX.b d k) k
theorem j_acmp_ne (hX : OK X cc own) {x y : Nat} {off : Int} (tgt : Nat) (d : decode cc pc = .ok (.if_acmp .ne off, 3)) (ht : (pc : Int) + off = (tgt : Int)) (kt : ¬ x = y → J X kc ks g tgt lv rest) (kf : x = y → J X kc ks g (pc + 3) lv rest) : J X kc ks g pc lv (.ref y :: .ref x :: rest) := fun H locs cells slots ls h1 h2 h3 h4 => lv_acmp_ne (rx := some x) (ry := some y) hX.x hX.b d ht (fun c => kt (fun e => c (by rw [e])) H locs cells slots ls h1 h2 h3 h4) (fun c => kf (Option.some.inj c) H locs cells slots ls h1 h2 h3 h4)
theorem j_acmp_eq (hX : OK X cc own) {x y : Nat} {off : Int} (tgt : Nat) (d : decode cc pc = .ok (.if_acmp .eq off, 3)) (ht : (pc : Int) + off = (tgt : Int)) (kt : x = y → J X kc ks g tgt lv rest) (kf : ¬ x = y → J X kc ks g (pc + 3) lv rest) : J X kc ks g pc lv (.ref y :: .ref x :: rest) := fun H locs cells slots ls h1 h2 h3 h4 => lv_acmp_eq (rx := some x) (ry := some y) hX.x hX.b d ht (fun c => kt (Option.some.inj c) H locs cells slots ls h1 h2 h3 h4) (fun c => kf (fun e => c (by rw [e])) H locs cells slots ls h1 h2 h3 h4)
theorem j_ldc (hX : OK X cc own) {idx : Nat} {v : Int32} (wk : Cond.constant own idx v ∈ wsL_law) (d : decode cc pc = .ok (.ldc idx, 2)) (k : J X kc ks g (pc + 2) lv (.int v :: st)) : J X kc ks g pc lv st := j_lift (fun _ _ _ _ _ _ k => lv_ldc hX.x hX.b hX.ow (hX.ts _ wk) d k) k
theorem j_ldc2 (hX : OK X cc own) {idx : Nat} {v : Int64} (wk : Cond.constantLong own idx v ∈ wsL_law) (d : decode cc pc = .ok (.ldc2_w idx, 3)) (k : J X kc ks g (pc + 3) lv (.long v :: st)) : J X kc ks g pc lv st := j_lift (fun _ _ _ _ _ _ k => lv_ldc2 hX.x hX.b hX.ow (hX.ts _ wk) d k) k
theorem j_get (hX : OK X cc own) {ref C : String} {T : u_T} {N ci idx a : Nat} {fs : List Value} {v : Value} (hg : g a = some (ob ci fs)) (hc : vwCl[ci]? = some (C, T, N)) (wf : ∀ w ∈ u_ws C T N, w ∈ wsL_law) (i : Nat) (hi : i < N) (wk : Cond.fieldLink own idx ref (T i).2.1 (T i).2.2.1 ∈ wsL_law) (hsame : ∀ x, (xs X).fieldFound? (T i).1 (T i).2.1 (T i).2.2.1 = some x → (xs X).fieldFound? ref (T i).2.1 (T i).2.2.1 = some x) (hv : fs[i]? = some v) (d : decode cc pc = .ok (.getfield idx, 3))
    (k : J X kc ks g (pc + 3) lv (v :: rest)) : J X kc ks g pc lv (.ref a :: rest) := fun H locs cells slots ls h1 h2 h3 h4 =>
  va_get hX.x hX.b hX.ts wf hX.ow hX.K (h3.1.one hg) 0 rfl hc i hi (hX.ts _ wk) hsame hv d (k H locs cells slots ls h1 h2 h3 h4)
theorem j_getN (hX : OK X cc own) {ref C host : String} {T : u_T} {N ci idx a : Nat} {fs : List Value} {v : Value} (hg : g a = some (ob ci fs)) (hc : vwCl[ci]? = some (C, T, N)) (wf : ∀ w ∈ u_ws C T N, w ∈ wsL_law) (i : Nat) (hi : i < N) (wk : Cond.fieldLinkNest own idx ref (T i).2.1 (T i).2.2.1 host ∈ nestW) (hsame : ∀ x, (xs X).fieldFound? (T i).1 (T i).2.1 (T i).2.2.1 = some x → (xs X).fieldFound? ref (T i).2.1 (T i).2.2.1 = some x) (hv : fs[i]? = some v) (d : decode cc pc = .ok (.getfield idx, 3))
    (k : J X kc ks g (pc + 3) lv (v :: rest)) : J X kc ks g pc lv (.ref a :: rest) := fun H locs cells slots ls h1 h2 h3 h4 =>
  va_getN hX.x hX.b hX.ts wf hX.ow hX.K (h3.1.one hg) 0 rfl hc i hi (va_Nw.use rfl (hX.N _ wk)) hsame hv d (k H locs cells slots ls h1 h2 h3 h4)
theorem hs_put {X : Cx} {g : Wd} {H H1 : Heap} {locs : List Loc} {a i : Nat} {e0 e : va_E} (h : Hs X g H locs) (hg : g a = some e0) (he : va_at (kD (xK X)) vwCl (a, e) H1) (z : H1.size = H.size) (oq : ∀ q : Nat, q ≠ a → H1[q]? = H[q]?) : Hs X (up g a e) H1 (locs ++ [⟨a, i⟩]) :=
  ⟨h.1.put he oq, h.2.1.put (h.2.1 a e0 hg), h.2.2.put z oq (h.2.1 a e0 hg)⟩
theorem j_put (hX : OK X cc own) {ref C : String} {T : u_T} {N ci idx a : Nat} {fs : List Value} {v : Value} {ty0 : Nat → FieldType} {ty : FieldType} (hg : g a = some (ob ci fs)) (hc : vwCl[ci]? = some (C, T, N)) (wf : ∀ w ∈ u_ws C T N, w ∈ wsL_law) (hty : ∀ k, k < N → parseFieldDescriptor (T k).2.2.1 = some (ty0 k)) (hnm : ∀ a, a < N → ∀ b, b < N → a ≠ b → (T a).2.1 ≠ (T b).2.1) (i : Nat) (hi : i < N) (wk : Cond.fieldLink own idx ref (T i).2.1 (T i).2.2.1 ∈ wsL_law) (hsame : ∀ x, (xs X).fieldFound? (T i).1 (T i).2.1 (T i).2.2.1 = some x → (xs X).fieldFound? ref (T i).2.1 (T i).2.2.1 = some x)
    (hfin : (T i).2.2.2 = false) (hd : parseFieldDescriptor (T i).2.2.1 = some ty) (hn : narrow ty v = v) (hfit : fits ty v = true) (hl : i < fs.length) (d : decode cc pc = .ok (.putfield idx, 3)) (k : J X kc ks (up g a (ob ci (fs.set i v))) (pc + 3) lv rest) : J X kc ks g pc lv (v :: .ref a :: rest) := by
  intro H locs cells slots ls h1 h2 h3 h4
  have hap := va_apart (own := own) hX.ts wf ty0 hty hnm hX.K hc
  obtain ⟨r, hr1, cell, q1, q2, q3, q4⟩ := h3.1 a _ hg
  have hr : r = (C, T, N) := Option.some.inj (hr1.symm.trans hc)
  subst hr
  obtain ⟨hS, hfc, kC, hkC, hkind⟩ := hX.K.1 ci _ hc
  obtain ⟨cf, kf, fi, f, hi9, hsl⟩ := hS i hi
  have hlay := hX.ts _ (wf _ (u_in_lay hi))
  unfold u_lay at hlay
  rw [if_neg (by rw [hfin]; decide)] at hlay
  have hst := (u_facts hfc hkC (u_lays hX.ts wf hi) hi9).1
  have h6 := u_store hfc hkC hkind hlay hi9 hd hn hfit
  refine W.putK hX.x hX.b (f := f) ⟨hX.ow, hX.ts _ wk, ⟨_, _, _, hsame _ hi9⟩, hst⟩ (by rw [q2]; exact h6) q1 q3 (by rw [hsl]; exact k2_hasslot (q4 i hi)) rfl rfl d fun H' e1 e2 e3 => ?_
  rw [hsl] at e1 ⊢
  exact k H' _ cells slots ls h1 h2 (hs_put h3 hg ⟨_, hc, t_OB.to (V := updV (vp_V fs) i v) ⟨_, e1, q2, q3, t_set q4 hap hi v⟩ (fun j _ => vp_updV_set hl v j)⟩ e2 e3) h4
theorem j_putN (hX : OK X cc own) {ref C host : String} {T : u_T} {N ci idx a : Nat} {fs : List Value} {v : Value} {ty0 : Nat → FieldType} {ty : FieldType} (hg : g a = some (ob ci fs)) (hc : vwCl[ci]? = some (C, T, N)) (wf : ∀ w ∈ u_ws C T N, w ∈ wsL_law) (hty : ∀ k, k < N → parseFieldDescriptor (T k).2.2.1 = some (ty0 k)) (hnm : ∀ a, a < N → ∀ b, b < N → a ≠ b → (T a).2.1 ≠ (T b).2.1) (i : Nat) (hi : i < N) (wk : Cond.fieldLinkNest own idx ref (T i).2.1 (T i).2.2.1 host ∈ nestW) (hsame : ∀ x, (xs X).fieldFound? (T i).1 (T i).2.1 (T i).2.2.1 = some x → (xs X).fieldFound? ref (T i).2.1 (T i).2.2.1 = some x)
    (hfin : (T i).2.2.2 = false) (hd : parseFieldDescriptor (T i).2.2.1 = some ty) (hn : narrow ty v = v) (hfit : fits ty v = true) (hl : i < fs.length) (d : decode cc pc = .ok (.putfield idx, 3)) (k : J X kc ks (up g a (ob ci (fs.set i v))) (pc + 3) lv rest) : J X kc ks g pc lv (v :: .ref a :: rest) := by
  intro H locs cells slots ls h1 h2 h3 h4
  have hap := va_apart (own := own) hX.ts wf ty0 hty hnm hX.K hc
  obtain ⟨r, hr1, cell, q1, q2, q3, q4⟩ := h3.1 a _ hg
  have hr : r = (C, T, N) := Option.some.inj (hr1.symm.trans hc)
  subst hr
  obtain ⟨hS, hfc, kC, hkC, hkind⟩ := hX.K.1 ci _ hc
  obtain ⟨cf, kf, fi, f, hi9, hsl⟩ := hS i hi
  have hlay := hX.ts _ (wf _ (u_in_lay hi))
  unfold u_lay at hlay
  rw [if_neg (by rw [hfin]; decide)] at hlay
  have hst := (u_facts hfc hkC (u_lays hX.ts wf hi) hi9).1
  have h6 := u_store hfc hkC hkind hlay hi9 hd hn hfit
  refine va_WputK hX.x hX.b (f := f) hX.ow (va_Nw.use rfl (hX.N _ wk)) (hsame _ hi9) hst (by rw [q2]; exact h6) q1 q3 (by rw [hsl]; exact k2_hasslot (q4 i hi)) rfl rfl d fun H' e1 e2 e3 => ?_
  rw [hsl] at e1 ⊢
  exact k H' _ cells slots ls h1 h2 (hs_put h3 hg ⟨_, hc, t_OB.to (V := updV (vp_V fs) i v) ⟨_, e1, q2, q3, t_set q4 hap hi v⟩ (fun j _ => vp_updV_set hl v j)⟩ e2 e3) h4
theorem j_putF (hX : OK X cc own) (hinit : (xmeth X).name = "<init>") {ref C : String} {T : u_T} {N ci idx a : Nat} {fs : List Value} {v : Value} {ty0 : Nat → FieldType} {ty : FieldType} (hg : g a = some (ob ci fs)) (hc : vwCl[ci]? = some (C, T, N)) (wf : ∀ w ∈ u_ws C T N, w ∈ wsL_law) (hty : ∀ k, k < N → parseFieldDescriptor (T k).2.2.1 = some (ty0 k)) (hnm : ∀ a, a < N → ∀ b, b < N → a ≠ b → (T a).2.1 ≠ (T b).2.1) (i : Nat) (hi : i < N) (wk : Cond.fieldLink own idx ref (T i).2.1 (T i).2.2.1 ∈ wsL_law) (hsame : ∀ x, (xs X).fieldFound? (T i).1 (T i).2.1 (T i).2.2.1 = some x → (xs X).fieldFound? ref (T i).2.1 (T i).2.2.1 = some x)
    (hfin : (T i).2.2.2 = true) (hdecl : (T i).1 = own) (hd : parseFieldDescriptor (T i).2.2.1 = some ty) (hn : narrow ty v = v) (hfit : fits ty v = true) (hl : i < fs.length) (d : decode cc pc = .ok (.putfield idx, 3)) (k : J X kc ks (up g a (ob ci (fs.set i v))) (pc + 3) lv rest) : J X kc ks g pc lv (v :: .ref a :: rest) := by
  intro H locs cells slots ls h1 h2 h3 h4
  have hap := va_apart (own := own) hX.ts wf ty0 hty hnm hX.K hc
  obtain ⟨r, hr1, cell, q1, q2, q3, q4⟩ := h3.1 a _ hg
  have hr : r = (C, T, N) := Option.some.inj (hr1.symm.trans hc)
  subst hr
  obtain ⟨hS, hfc, kC, hkC, hkind⟩ := hX.K.1 ci _ hc
  obtain ⟨cf, kf, fi, f, hi9, hsl⟩ := hS i hi
  have hlay := hX.ts _ (wf _ (u_in_lay hi))
  unfold u_lay at hlay
  rw [if_pos hfin] at hlay
  have hst := (u_facts hfc hkC (u_lays hX.ts wf hi) hi9).1
  have hcf : (xm X).cls = cf := by
    obtain ⟨_, _, c', _, _, _, -, -, hf', -, -, -, hown2, -⟩ := Cond.laysFinal_spec hlay
    have e1 : c' = cf := by have := hi9.symm.trans hf'; simp at this; exact this.1.symm
    rw [hdecl] at hown2
    rw [← e1]; exact Option.some.inj (hX.ow.symm.trans hown2)
  have h6 := u_fits hfc hkC hkind (Or.inr hlay) hi9 hd hn hfit
  refine W.putFinK hX.x hX.b hX.ow (hX.ts _ wk) (hsame _ hi9) hst hcf hinit (by rw [q2]; exact h6) q1 q3 (by rw [hsl]; exact k2_hasslot (q4 i hi)) rfl rfl d fun H' e1 e2 e3 => ?_
  rw [hsl] at e1 ⊢
  exact k H' _ cells slots ls h1 h2 (hs_put h3 hg ⟨_, hc, t_OB.to (V := updV (vp_V fs) i v) ⟨_, e1, q2, q3, t_set q4 hap hi v⟩ (fun j _ => vp_updV_set hl v j)⟩ e2 e3) h4
theorem j_iald (hX : OK X cc own) {a n : Nat} {f : Nat → Int32} (hg : g a = some (aI (xK X) n f)) {i : Int32} (hin : vp_in i n) (d : decode cc pc = .ok (.iaload, 1)) (k : J X kc ks g (pc + 1) lv (.int (f i.toNatClampNeg) :: rest)) : J X kc ks g pc lv (.int i :: .ref a :: rest) := fun H locs cells slots ls h1 h2 h3 h4 =>
  va_iald hX.x hX.b hX.K (h3.1.one hg) 0 0 rfl rfl hin d (k H locs cells slots ls h1 h2 h3 h4)
theorem j_zald (hX : OK X cc own) {a n : Nat} {f : Nat → Int32} (hg : g a = some (aZ (xK X) n f)) {i : Int32} (hin : vp_in i n) (d : decode cc pc = .ok (.baload, 1)) (k : J X kc ks g (pc + 1) lv (.int (f i.toNatClampNeg) :: rest)) : J X kc ks g pc lv (.int i :: .ref a :: rest) := fun H locs cells slots ls h1 h2 h3 h4 =>
  va_zald hX.x hX.b hX.K (h3.1.one hg) 0 1 rfl rfl hin d (k H locs cells slots ls h1 h2 h3 h4)
theorem j_lald (hX : OK X cc own) {a n : Nat} {f : Nat → Int64} (hg : g a = some (aJ (xK X) n f)) {i : Int32} (hin : vp_in i n) (d : decode cc pc = .ok (.laload, 1)) (k : J X kc ks g (pc + 1) lv (.long (f i.toNatClampNeg) :: rest)) : J X kc ks g pc lv (.int i :: .ref a :: rest) := fun H locs cells slots ls h1 h2 h3 h4 =>
  va_lald hX.x hX.b hX.K (h3.1.one hg) 0 3 rfl rfl hin d (k H locs cells slots ls h1 h2 h3 h4)
theorem j_aald (hX : OK X cc own) {a n : Nat} {f : Nat → Option Nat} (hg : g a = some (aQ (xK X) n f)) {i : Int32} (hin : vp_in i n) (d : decode cc pc = .ok (.aaload, 1)) (k : J X kc ks g (pc + 1) lv (va_rf (f i.toNatClampNeg) :: rest)) : J X kc ks g pc lv (.int i :: .ref a :: rest) := fun H locs cells slots ls h1 h2 h3 h4 =>
  va_aldq hX.x hX.b hX.K (h3.1.one hg) 0 2 rfl rfl hin d (k H locs cells slots ls h1 h2 h3 h4)
theorem j_alenI (hX : OK X cc own) {a n : Nat} {f : Nat → Int32} (hg : g a = some (aI (xK X) n f)) (d : decode cc pc = .ok (.arraylength, 1)) (k : J X kc ks g (pc + 1) lv (.int (nI n) :: rest)) : J X kc ks g pc lv (.ref a :: rest) := fun H locs cells slots ls h1 h2 h3 h4 =>
  va_alen hX.x hX.b hX.K (h3.1.one hg) 0 0 rfl rfl rfl d (k H locs cells slots ls h1 h2 h3 h4)
theorem j_alenQ (hX : OK X cc own) {a n : Nat} {f : Nat → Option Nat} (hg : g a = some (aQ (xK X) n f)) (d : decode cc pc = .ok (.arraylength, 1)) (k : J X kc ks g (pc + 1) lv (.int (nI n) :: rest)) : J X kc ks g pc lv (.ref a :: rest) := fun H locs cells slots ls h1 h2 h3 h4 =>
  va_alen hX.x hX.b hX.K (h3.1.one hg) 0 2 rfl rfl rfl d (k H locs cells slots ls h1 h2 h3 h4)
theorem j_iast (hX : OK X cc own) {a n : Nat} {f : Nat → Int32} (hg : g a = some (aI (xK X) n f)) {i x : Int32} (hin : vp_in i n) (d : decode cc pc = .ok (.iastore, 1)) (k : J X kc ks (up g a (aI (xK X) n (upd f i.toNatClampNeg x))) (pc + 1) lv rest) : J X kc ks g pc lv (.int x :: .int i :: .ref a :: rest) := by
  intro H locs cells slots ls h1 h2 h3 h4
  refine W.iast hX.x hX.b (h3.1 a _ hg) ((hX.K.2 0 _ rfl).1 n (fun j => .int (f j))) (fun q => by cases q) (by show ¬ (i < 0 ∨ (arrV _ _ _).slots.size ≤ _); rw [arrV_size]; exact hin) rfl rfl d fun H1 e z oq => ?_
  refine k H1 _ cells slots ls h1 h2 (hs_put h3 hg ?_ z oq) h4
  show H1[a]? = some (vp_cell _ _)
  rw [e]
  rw [vp_cell_i, vp_cell_i, arrV_store]
  congr 2
  funext q
  by_cases hq : q = i.toNatClampNeg
  · subst hq; simp [updV, upd]
  · simp [updV, upd, hq]
theorem j_zast (hX : OK X cc own) {a n : Nat} {f : Nat → Int32} (hg : g a = some (aZ (xK X) n f)) {i x : Int32} (hin : vp_in i n) (d : decode cc pc = .ok (.bastore, 1)) (k : J X kc ks (up g a (aZ (xK X) n (upd f i.toNatClampNeg (vp_nar .boolean x)))) (pc + 1) lv rest) : J X kc ks g pc lv (.int x :: .int i :: .ref a :: rest) := by
  intro H locs cells slots ls h1 h2 h3 h4
  refine W.zast hX.x hX.b (h3.1 a _ hg) ((hX.K.2 1 _ rfl).1 n (fun j => .int (f j))) (fun q => by cases q) (by show ¬ (i < 0 ∨ (arrV _ _ _).slots.size ≤ _); rw [arrV_size]; exact hin) rfl rfl d fun H1 e z oq => ?_
  refine k H1 _ cells slots ls h1 h2 (hs_put h3 hg ?_ z oq) h4
  show H1[a]? = some (vp_cell _ _)
  rw [e]
  rw [vp_cell_i, vp_cell_i, arrV_store]
  congr 2
  funext q
  by_cases hq : q = i.toNatClampNeg
  · subst hq
    simp [updV, upd, vp_nar]
    try rfl
  · simp [updV, upd, hq]
theorem j_last (hX : OK X cc own) {a n : Nat} {f : Nat → Int64} (hg : g a = some (aJ (xK X) n f)) {i : Int32} {x : Int64} (hin : vp_in i n) (d : decode cc pc = .ok (.lastore, 1)) (k : J X kc ks (up g a (aJ (xK X) n (vp_updL f i.toNatClampNeg x))) (pc + 1) lv rest) : J X kc ks g pc lv (.long x :: .int i :: .ref a :: rest) := by
  intro H locs cells slots ls h1 h2 h3 h4
  refine W.last hX.x hX.b (h3.1 a _ hg) ((hX.K.2 3 _ rfl).1 n (fun j => .long (f j))) (fun q => by cases q) (by show ¬ (i < 0 ∨ (arrV _ _ _).slots.size ≤ _); rw [arrV_size]; exact hin) rfl rfl d fun H1 e z oq => ?_
  refine k H1 _ cells slots ls h1 h2 (hs_put h3 hg ?_ z oq) h4
  show H1[a]? = some (vp_cell _ _)
  rw [e]
  rw [vp_cell_l, vp_cell_l, arrV_store]
  congr 2
  funext q
  by_cases hq : q = i.toNatClampNeg
  · subst hq; simp [updV, vp_updL]
  · simp [updV, vp_updL, hq]
theorem j_ret {ret : Option FieldType} {Post : Option Value → Wd → Prop} {XP : String → Wd → Prop} {mc ms : Nat} {v : Option Value} (hE : EndX X ret Post XP mc ms) (hp : Post v g) (hc : kc ≤ mc) (hs : ks ≤ ms)
    (kk : ∀ (H : Heap) (locs : List Loc) (ls : Array Slot), (∀ t : State, t.heap = H → (xs X).WarmedH t.vm → QcW (xK X) Post (xargs X) (xs X) (.returned v) t) → (∀ q ∈ locs, kA (xK X) q.base) →
      W (xp X) (xl X) (xe X) (xR X) (xs X) (xm X) (xargs X) (xbelow X) (xmeth X) (xc X) H locs mc ms (MQ (xbelow X) (QcW (xK X) Post) (xargs X) (xs X) mc ms (kA (xK X))) (F0 (xm X) pc ls st)) : J X kc ks g pc lv st := by
  intro H locs cells slots ls h1 h2 h3 h4
  show W _ _ _ _ _ _ _ _ _ _ _ _ _ _ (xQ X) _
  rw [hE.1]
  refine vx_ret (W.widen (k := mc) (n := ms) (Nat.le_trans h1 hc) (Nat.le_trans h2 hs) ?_)
  exact kk H locs ls (fun t ht hW => ⟨⟨v, g, rfl, hp, by rw [ht]; exact h3.1, h3.2.1⟩, h3.2.2.F ht⟩) h3.2.2.2.2
theorem j_iret {Post : Option Value → Wd → Prop} {XP : String → Wd → Prop} {mc ms : Nat} {v : Int32} (hX : OK X cc own) (hE : EndX X (some .int) Post XP mc ms) (d : decode cc pc = .ok (.ireturn, 1)) (hp : Post (some (.int v)) g) (hc : kc ≤ mc) (hs : ks ≤ ms) : J X kc ks g pc lv [.int v] :=
  j_ret hE hp hc hs (fun _ _ _ hq hf => W.iret hX.x hX.b hE.2.1 hq hf d hX.locks)
theorem j_zret {Post : Option Value → Wd → Prop} {XP : String → Wd → Prop} {mc ms : Nat} {v : Int32} (hX : OK X cc own) (hE : EndX X (some .boolean) Post XP mc ms) (d : decode cc pc = .ok (.ireturn, 1)) (hn : narrow .boolean (.int v) = .int v) (hp : Post (some (.int v)) g) (hc : kc ≤ mc) (hs : ks ≤ ms) : J X kc ks g pc lv [.int v] :=
  j_ret hE hp hc hs (fun _ _ _ hq hf => W.zret hX.x hX.b hE.2.1 hn hq hf d hX.locks)
theorem j_lret {Post : Option Value → Wd → Prop} {XP : String → Wd → Prop} {mc ms : Nat} {v : Int64} (hX : OK X cc own) (hE : EndX X (some .long) Post XP mc ms) (d : decode cc pc = .ok (.lreturn, 1)) (hp : Post (some (.long v)) g) (hc : kc ≤ mc) (hs : ks ≤ ms) : J X kc ks g pc lv [.long v] :=
  j_ret hE hp hc hs (fun _ _ _ hq hf => W.lret hX.x hX.b hE.2.1 hq hf d hX.locks)
theorem j_vret {Post : Option Value → Wd → Prop} {XP : String → Wd → Prop} {mc ms : Nat} (hX : OK X cc own) (hE : EndX X none Post XP mc ms) (d : decode cc pc = .ok (.return_, 1)) (hp : Post none g) (hc : kc ≤ mc) (hs : ks ≤ ms) : J X kc ks g pc lv [] :=
  j_ret hE hp hc hs (fun _ _ _ hq hf => W.vret hX.x hX.b hE.2.1 hq hf d hX.locks)
theorem j_aret {Post : Option Value → Wd → Prop} {XP : String → Wd → Prop} {mc ms : Nat} {a : Nat} {C : String} (hX : OK X cc own) (hE : EndX X (some (.object C)) Post XP mc ms) (d : decode cc pc = .ok (.areturn, 1)) (hp : Post (some (.ref a)) g) (hc : kc ≤ mc) (hs : ks ≤ ms) : J X kc ks g pc lv [.ref a] :=
  j_ret hE hp hc hs (fun _ _ _ hq hf => W.aret hX.x hX.b hE.2.1 (Or.inl ⟨_, rfl⟩) (Or.inr ⟨_, rfl⟩) hq hf d hX.locks)
/-- an exception leaves the method -/
theorem jx_out {ret : Option FieldType} {Post : Option Value → Wd → Prop} {XP : String → Wd → Prop} {mc ms : Nat} {E : String} (hX : OK X cc own) (hE : EndX X ret Post XP mc ms) (hp : XP E g) (hc : kc ≤ mc) (hs : ks ≤ ms) : JX X kc ks g pc lv st E := by
  intro H locs cells slots ls q ce h1 h2 h3 h4 hq hv hcl
  rw [hE.1]
  exact vx_out (fun x hx => absurd hx (fun h => hE.2.2 x h)) hX.locks hq hv hcl (fun t ht _ => ⟨⟨g, hp, by rw [ht]; exact h3.1, h3.2.1⟩, h3.2.2.F ht⟩) h3.2.2.2.2 (Nat.le_trans h1 hc) (Nat.le_trans h2 hs)
theorem j_run {Post : Option Value → Wd → Prop} {XP : String → Wd → Prop} {mc ms : Nat} {av : Array Value}
    (hr : ∀ (H : Heap) (locs : List Loc) (cells slots : Nat) (ls : Array Slot), cells ≤ kc → slots ≤ ks → Hs X g H locs → lv_has ls (xn X) lv → vx_Run (xp X) (xl X) (xe X) (xR X) (xs X) (xm X) (xargs X) (xbelow X) (xmeth X) (xc X) H locs cells slots mc ms (F0 (xm X) pc ls st) rest (QcW (xK X) Post av) (XcW (xK X) XP) (kA (xK X)))
    (kx : ∀ E g', XP E g' → JX X (kc + mc) (ks + ms) g' pc lv rest E) (kk : ∀ v g', Post v g' → J X (kc + mc) (ks + ms) g' (pc + 3) lv (v.toList ++ rest)) : J X kc ks g pc lv st := by
  intro H locs cells slots ls h1 h2 h3 h4 T hT Y
  rcases hr H locs cells slots ls h1 h2 h3 h4 T hT Y with ⟨v, st₀, t, T', L, h0, X', hL, e1, e2, ⟨⟨v', g', hv, hp, hP, hA⟩, hF⟩, stp⟩ | ⟨q, st₀, t, T', L, E, ce, h0, X', hL, e1, e2, ⟨⟨g', hp, hP, hA⟩, hF⟩, hce, hcv, hcl, stp⟩
  · cases hv
    obtain ⟨k1, k2, k3⟩ := vx_keep h0 e1 h3.2.2 (fun _ _ h => h) (fun _ h => h) hL hF
    obtain ⟨t2, a1, b1⟩ := kk v g' hp T'.heap (locs ++ L) (cells + mc) (slots + ms) ls (by omega) (by omega) ⟨by rw [e1]; exact hP, hA, k3⟩ h4 T' rfl X'
    exact ⟨t2, stp t2 a1, b1⟩
  · obtain ⟨k1, k2, k3⟩ := vx_keep h0 e1 h3.2.2 (fun _ _ h => h) (fun _ h => h) hL hF
    obtain ⟨t2, a1, b1⟩ := kx E g' hp T'.heap (locs ++ L) (cells + mc) (slots + ms) ls q ce (by omega) (by omega) ⟨by rw [e1]; exact hP, hA, k3⟩ h4 (by rw [e1]; exact hce) hcv hcl T' rfl X'
    exact ⟨t2, stp.trans a1, b1⟩
theorem pre_w (hX : OK X cc own) {H : Heap} {locs : List Loc} (h3 : Hs X g H locs) {av : List Value} (U : State) (hU : U.heap = H) (hW : (xs X).WarmedH U.vm) : va_Pc av (PreW (xK X) g) av.toArray U :=
  ⟨rfl, StF.pass hW (by rw [hU]; exact h3.2.2) hX.F, by rw [hU]; exact h3.1, h3.2.1, Nat.le_trans hX.b0 (by rw [hU]; exact h3.2.2.1)⟩
theorem j_callV (hX : OK X cc own) {y : MethodName} {bytes : ByteArray} {n : Nat} {r : Option FieldType} {L a : Nat} {As : List Value} {Post : Option Value → Wd → Prop} {XP : String → Wd → Prop} {mc ms : Nat} (hC : Ct (xl X) (xK X) y bytes n r L (.ref a :: As) g Post XP mc ms)
    {ci idx N na : Nat} {fs : List Value} {C : String} {T : u_T} (hg : g a = some (ob ci fs)) (hc : vwCl[ci]? = some (C, T, N)) (wk : Cond.methodLink own idx y ∈ wsL_law) (wi : Cond.instanceMethod y ∈ wsL_law) (wv : Cond.selects C y y ∈ wsL_law) (wn : Cond.initialized C ∈ wsL_law) (wc : Cond.code y bytes n r ∈ wsL_law)
    (hd : y.cls = C ∧ y.cls ≠ "java/lang/invoke/MethodHandle" ∧ y.cls ≠ "java/lang/invoke/VarHandle" ∧ (parseMethodDescriptor y.desc).map (fun d => d.parameters.length) = some na) (hna : As.length = na) (hlev : L + 1 ≤ xlev X) (hn : n ≤ 13) (hst : st = As.reverse ++ .ref a :: rest) (hrest : (rest.map fun v => v.category).sum ≤ 8)
    (d : decode cc pc = .ok (.invokevirtual idx, 3)) (hcell : kc + mc ≤ (xR X).cells) (hslot : ks + ms ≤ (xR X).slots) (kx : ∀ E g', XP E g' → JX X (kc + mc) (ks + ms) g' pc lv rest E) (kk : ∀ v g', Post v g' → J X (kc + mc) (ks + ms) g' (pc + 3) lv (v.toList ++ rest)) : J X kc ks g pc lv st := by
  refine j_run (av := (Value.ref a :: As).toArray) (fun H locs cells slots ls h1 h2 h3 h4 => ?_) kx kk
  have hG : GoodIn wsL_law (wsV own idx C y (Cond.code y bytes n r :: wsL_law)) := wg_in (by unfold wsV; exact wg_c wk (wg_c wi (wg_c wv (wg_c wn (wg_c wc wg_s)))))
  have hro := hX.room
  exact vx_runV ⟨hX.x, hX.b, hX.ml, hX.ow, hX.ts⟩ hC (cwV na hX.ts hG rfl rfl rfl hd ⟨by show L + 1 ≤ _; omega, by show 8 + (n + 11) + 32 * L ≤ _; omega⟩) ⟨PreW.blind, va_recv hX.K (h3.1.one hg) (ci := ci) (q0 := 0) hc rfl, fun U hU hW => pre_w hX h3 U hU hW⟩ rfl hna h4.1 hst (lv_room hrest) d ⟨by omega, by omega⟩
theorem j_callS (hX : OK X cc own) {y : MethodName} {bytes : ByteArray} {n : Nat} {r : Option FieldType} {L : Nat} {As : List Value} {Post : Option Value → Wd → Prop} {XP : String → Wd → Prop} {mc ms : Nat} (hC : Ct (xl X) (xK X) y bytes n r L As g Post XP mc ms)
    {idx na : Nat} (wk : Cond.methodLink own idx y ∈ wsL_law) (wi : Cond.static y ∈ wsL_law) (wn : Cond.initialized own ∈ wsL_law) (wc : Cond.code y bytes n r ∈ wsL_law)
    (hd : y.cls = own ∧ y.cls ≠ "java/lang/invoke/MethodHandle" ∧ y.cls ≠ "java/lang/invoke/VarHandle" ∧ (parseMethodDescriptor y.desc).map (fun d => d.parameters.length) = some na) (hna : As.length = na) (hlev : L + 1 ≤ xlev X) (hn : n ≤ 13) (hst : st = As.reverse ++ rest) (hrest : (rest.map fun v => v.category).sum ≤ 8)
    (d : decode cc pc = .ok (.invokestatic idx, 3)) (hcell : kc + mc ≤ (xR X).cells) (hslot : ks + ms ≤ (xR X).slots) (kx : ∀ E g', XP E g' → JX X (kc + mc) (ks + ms) g' pc lv rest E) (kk : ∀ v g', Post v g' → J X (kc + mc) (ks + ms) g' (pc + 3) lv (v.toList ++ rest)) : J X kc ks g pc lv st := by
  refine j_run (av := As.toArray) (fun H locs cells slots ls h1 h2 h3 h4 => ?_) kx kk
  have hG : GoodIn wsL_law (wsS own idx y (Cond.code y bytes n r :: wsL_law)) := wg_in (by unfold wsS; exact wg_c wk (wg_c wi (wg_c wn (wg_c wc wg_s))))
  have hro := hX.room
  exact vx_runS ⟨hX.x, hX.b, hX.ml, hX.ow, hX.ts⟩ hC (cwS na hX.ts hG rfl rfl rfl hd ⟨by show L + 1 ≤ _; omega, by show 8 + (n + 11) + 32 * L ≤ _; omega⟩) ⟨PreW.blind, fun U hU hW => pre_w hX h3 U hU hW⟩ rfl hna h4.1 hst (lv_room hrest) d ⟨by omega, by omega⟩
/-- no exception: the second goal of a call falls away -/
theorem jx_no {mc ms : Nat} : ∀ (E : String) (g' : Wd), (fun (_ : String) (_ : Wd) => False) E g' → JX X mc ms g' pc lv rest E := fun _ _ h => h.elim
theorem j_copyi (hX : OK X cc own) {idx a0 a n0 n1 : Nat} {f h : Nat → Int32} (wk : Cond.methodLink own idx arraycopyName ∈ wsL_law) (hg0 : g a0 = some (aI (xK X) n0 f)) (hg1 : g a = some (aI (xK X) n1 h)) {sp dp n : Int32} (h1 : ¬ sp < 0) (h2 : ¬ dp < 0) (h3 : ¬ n < 0) (h4 : sp.toNatClampNeg + n.toNatClampNeg ≤ n0) (h5 : dp.toNatClampNeg + n.toNatClampNeg ≤ n1)
    (hlev : 1 ≤ xlev X) (hrest : (rest.map fun v => v.category).sum ≤ 4) (d : decode cc pc = .ok (.invokestatic idx, 3)) (k : J X kc ks (up g a (aI (xK X) n1 (va_cpy f h sp.toNatClampNeg dp.toNatClampNeg n.toNatClampNeg))) (pc + 3) lv rest) : J X kc ks g pc lv (.int n :: .int dp :: .ref a :: .int sp :: .ref a0 :: rest) := by
  intro H locs cells slots ls c1 c2 c3 c4
  have hro := hX.room
  intro T hT Y
  have nn : ∀ z : Int32, ¬ z < 0 → z.toInt = (z.toNatClampNeg : Int) := by
    intro z hz
    have hz0 : (0 : Int) ≤ z.toInt := by
      have := Int32.not_lt.mp hz
      simpa using Int32.le_iff_toInt_le.mp this
    show z.toInt = ((z.toInt.toNat : Nat) : Int)
    omega
  have hc0 : H[a0]? = some (vp_cell (kI (xK X)) (n0, .inl f)) := c3.1 a0 _ hg0
  have hc1 : H[a]? = some (vp_cell (kI (xK X)) (n1, .inl h)) := c3.1 a _ hg1
  obtain ⟨-, k0, hk0, cm0, hkk0⟩ := (hX.K.2 0 _ rfl).1 n0 (fun j => .int (f j))
  obtain ⟨-, k1, hk1, cm1, hkk1⟩ := (hX.K.2 0 _ rfl).1 n1 (fun j => .int (h j))
  obtain ⟨vm', Y', step⟩ := Y.arraycopy hX.x hX.ow (hX.ts _ wk) (hX.ts _ wz_8) (hX.ts _ wz_9) (hX.ts _ wN_System) (src := a0) (dst := a) (cs := vp_cell (kI (xK X)) (n0, .inl f)) (cd := vp_cell (kI (xK X)) (n1, .inl h)) (srcPos := sp) (destPos := dp) (n := n) (by rw [hT]; exact hc0) (by rw [hT]; exact hc1)
    (fun _ h => by cases h) (fun _ h => by cases h) (fun h => by cases h) (fun h => by cases h) hk0 hk1 hkk0 hkk1 (by simp [refKind]) h1 h2 h3
    (by rw [nn sp h1, nn n h3]; show ¬ _ > ((arrV _ n0 (fun j => .int (f j))).slots.size : Int); rw [arrV_size]; omega)
    (by rw [nn dp h2, nn n h3]; show ¬ _ > ((arrV _ n1 (fun j => .int (h j))).slots.size : Int); rw [arrV_size]; omega)
    (fun vm₁ _ i hi => by
      have e : (vp_cell (kI (xK X)) (n0, .inl f)).slots.getD (sp.toNatClampNeg + i) .null = .int (f (sp.toNatClampNeg + i)) := by
        show (arrV _ n0 (fun j => .int (f j))).slots.getD _ _ = _
        rw [Array.getD_eq_getD_getElem?, arrV_read _ _ (by omega)]
        rfl
      refine ⟨?_, ?_⟩
      · rw [e]; rfl
      · rw [e]
        exact trivial)
    (g := F0 (xm X) pc ls (.int n :: .int dp :: .ref a :: .int sp :: .ref a0 :: rest)) rfl (by rw [hX.ml]; exact c4.1) (rest := rest) rfl (by rw [hX.b]; exact d) (by omega) (by
      have hw : nativeFrameWords "java/lang/System" "arraycopy" 5 + 11 ≤ 28 := by decide +kernel
      show 2 * 0 + _ + _ ≤ _; omega)
  have e1 : copied (vp_cell (kI (xK X)) (n0, .inl f)) (vp_cell (kI (xK X)) (n1, .inl h)) sp dp n = vp_cell (kI (xK X)) (n1, .inl (va_cpy f h sp.toNatClampNeg dp.toNatClampNeg n.toNatClampNeg)) := va_copied (fun z => .int z) _ _ f h h4
  rw [e1] at Y' step
  have hl : a < H.size := (Array.getElem?_eq_some_iff.mp hc1).1
  have hheap : ((T.setVm vm').setCell a (vp_cell (kI (xK X)) (n1, .inl (va_cpy f h sp.toNatClampNeg dp.toNatClampNeg n.toNatClampNeg)))).heap = H.setIfInBounds a (vp_cell (kI (xK X)) (n1, .inl (va_cpy f h sp.toNatClampNeg dp.toNatClampNeg n.toNatClampNeg))) := by rw [← hT]; rfl
  have oq : ∀ q : Nat, q ≠ a → (H.setIfInBounds a (vp_cell (kI (xK X)) (n1, .inl (va_cpy f h sp.toNatClampNeg dp.toNatClampNeg n.toNatClampNeg))))[q]? = H[q]? := fun q hq => by simp [Array.getElem?_setIfInBounds, Ne.symm hq]
  obtain ⟨t, a1, b1⟩ := k _ _ cells slots ls c1 c2 ⟨c3.1.put (show (H.setIfInBounds a _)[a]? = some _ by simp [Array.getElem?_setIfInBounds, hl]) oq, c3.2.1.put (c3.2.1 a _ hg1), ⟨by simp; exact c3.2.2.1, fun q g1 g2 => by
      rw [oq q (fun e => g2 (by rw [e]; exact c3.2.1 a _ hg1))]
      exact c3.2.2.2.1 q g1 g2, fun q hq => by
      rcases List.mem_append.mp hq with h | h
      · exact c3.2.2.2.2 q h
      · obtain ⟨z, -, hz⟩ := List.mem_map.mp h
        rw [← hz]
        exact c3.2.1 a _ hg1⟩⟩ c4 _ hheap Y'
  exact ⟨t, step t a1, b1⟩
theorem j_ialdN (hX : OK X cc own) {a n : Nat} {f : Nat → Int32} (hg : g a = some (aI (xK X) n f)) {i : Int32} (m : Nat) (hi : i = nI m) (hm : m < n) (hn : n < 2 ^ 31) (d : decode cc pc = .ok (.iaload, 1)) (k : J X kc ks g (pc + 1) lv (.int (f m) :: rest)) : J X kc ks g pc lv (.int i :: .ref a :: rest) := by
  subst hi
  refine j_iald hX hg (vp_in_nI hm hn) d ?_
  rw [nI_clamp (Nat.lt_trans hm hn)]
  exact k
theorem j_zaldN (hX : OK X cc own) {a n : Nat} {f : Nat → Int32} (hg : g a = some (aZ (xK X) n f)) {i : Int32} (m : Nat) (hi : i = nI m) (hm : m < n) (hn : n < 2 ^ 31) (d : decode cc pc = .ok (.baload, 1)) (k : J X kc ks g (pc + 1) lv (.int (f m) :: rest)) : J X kc ks g pc lv (.int i :: .ref a :: rest) := by
  subst hi
  refine j_zald hX hg (vp_in_nI hm hn) d ?_
  rw [nI_clamp (Nat.lt_trans hm hn)]
  exact k
theorem j_laldN (hX : OK X cc own) {a n : Nat} {f : Nat → Int64} (hg : g a = some (aJ (xK X) n f)) {i : Int32} (m : Nat) (hi : i = nI m) (hm : m < n) (hn : n < 2 ^ 31) (d : decode cc pc = .ok (.laload, 1)) (k : J X kc ks g (pc + 1) lv (.long (f m) :: rest)) : J X kc ks g pc lv (.int i :: .ref a :: rest) := by
  subst hi
  refine j_lald hX hg (vp_in_nI hm hn) d ?_
  rw [nI_clamp (Nat.lt_trans hm hn)]
  exact k
theorem j_aaldN (hX : OK X cc own) {a n q : Nat} {f : Nat → Option Nat} (hg : g a = some (aQ (xK X) n f)) {i : Int32} (m : Nat) (hi : i = nI m) (hm : m < n) (hn : n < 2 ^ 31) (hq : f m = some q) (d : decode cc pc = .ok (.aaload, 1)) (k : J X kc ks g (pc + 1) lv (.ref q :: rest)) : J X kc ks g pc lv (.int i :: .ref a :: rest) := by
  subst hi
  refine j_aald hX hg (vp_in_nI hm hn) d ?_
  rw [nI_clamp (Nat.lt_trans hm hn), hq]
  exact k
theorem j_iastN (hX : OK X cc own) {a n : Nat} {f : Nat → Int32} (hg : g a = some (aI (xK X) n f)) {i x : Int32} (m : Nat) (hi : i = nI m) (hm : m < n) (hn : n < 2 ^ 31) (d : decode cc pc = .ok (.iastore, 1)) (k : J X kc ks (up g a (aI (xK X) n (upd f m x))) (pc + 1) lv rest) : J X kc ks g pc lv (.int x :: .int i :: .ref a :: rest) := by
  subst hi
  refine j_iast hX hg (vp_in_nI hm hn) d ?_
  rw [nI_clamp (Nat.lt_trans hm hn)]
  exact k
theorem j_copyN (hX : OK X cc own) {idx a0 a n0 n1 : Nat} {f h : Nat → Int32} (wk : Cond.methodLink own idx arraycopyName ∈ wsL_law) (hg0 : g a0 = some (aI (xK X) n0 f)) (hg1 : g a = some (aI (xK X) n1 h)) {sp dp n : Int32} (s d9 m : Nat) (hs : sp = nI s) (hd : dp = nI d9) (hm : n = nI m) (h4 : s + m ≤ n0) (h5 : d9 + m ≤ n1) (b0 : n0 < 2 ^ 31) (b1 : n1 < 2 ^ 31)
    (hlev : 1 ≤ xlev X) (hrest : (rest.map fun v => v.category).sum ≤ 4) (d : decode cc pc = .ok (.invokestatic idx, 3)) (k : J X kc ks (up g a (aI (xK X) n1 (va_cpy f h s d9 m))) (pc + 3) lv rest) : J X kc ks g pc lv (.int n :: .int dp :: .ref a :: .int sp :: .ref a0 :: rest) := by
  subst hs; subst hd; subst hm
  have e1 : (nI s).toNatClampNeg = s := nI_clamp (by omega)
  have e2 : (nI d9).toNatClampNeg = d9 := nI_clamp (by omega)
  have e3 : (nI m).toNatClampNeg = m := nI_clamp (by omega)
  refine j_copyi hX wk hg0 hg1 (nI_pos (by omega)) (nI_pos (by omega)) (nI_pos (by omega)) (by rw [e1, e3]; exact h4) (by rw [e2, e3]; exact h5) hlev hrest d ?_
  rw [e1, e2, e3]
  exact k
/-- two addresses with different cells differ -/
theorem ne_ob {g : Wd} {a b : Nat} {e f : va_E} (ha : g a = some e) (hb : g b = some f) (h : e ≠ f) : a ≠ b := fun q => h (Option.some.inj (ha.symm.trans (by rw [q]; exact hb)))
theorem ix4 (k c : Nat) : nI k * 4 + nI c = nI (4 * k + c) := by
  rw [show (4 : Int32) = nI 4 from rfl, pk_mul, nI_add, Nat.mul_comm]
theorem ix4' (k : Nat) : nI k * 4 = nI (4 * k) := by
  rw [show (4 : Int32) = nI 4 from rfl, pk_mul, Nat.mul_comm]
end Rows
end
section
theorem hd_X0_init : yX0_init.cls = RX0 ∧ yX0_init.cls ≠ "java/lang/invoke/MethodHandle" ∧ yX0_init.cls ≠ "java/lang/invoke/VarHandle" ∧ (parseMethodDescriptor yX0_init.desc).map (fun d => d.parameters.length) = some 0 := by decide +kernel
theorem hd_X0_clear : yX0_clear.cls = RX0 ∧ yX0_clear.cls ≠ "java/lang/invoke/MethodHandle" ∧ yX0_clear.cls ≠ "java/lang/invoke/VarHandle" ∧ (parseMethodDescriptor yX0_clear.desc).map (fun d => d.parameters.length) = some 0 := by decide +kernel
theorem hd_X0_copyFrom : yX0_copyFrom.cls = RX0 ∧ yX0_copyFrom.cls ≠ "java/lang/invoke/MethodHandle" ∧ yX0_copyFrom.cls ≠ "java/lang/invoke/VarHandle" ∧ (parseMethodDescriptor yX0_copyFrom.desc).map (fun d => d.parameters.length) = some 1 := by decide +kernel
theorem hd_X0_cellAt : yX0_cellAt.cls = RX0 ∧ yX0_cellAt.cls ≠ "java/lang/invoke/MethodHandle" ∧ yX0_cellAt.cls ≠ "java/lang/invoke/VarHandle" ∧ (parseMethodDescriptor yX0_cellAt.desc).map (fun d => d.parameters.length) = some 2 := by decide +kernel
theorem hd_X0_readRow : yX0_readRow.cls = RX0 ∧ yX0_readRow.cls ≠ "java/lang/invoke/MethodHandle" ∧ yX0_readRow.cls ≠ "java/lang/invoke/VarHandle" ∧ (parseMethodDescriptor yX0_readRow.desc).map (fun d => d.parameters.length) = some 2 := by decide +kernel
theorem hd_X0_allTimes : yX0_allTimes.cls = RX0 ∧ yX0_allTimes.cls ≠ "java/lang/invoke/MethodHandle" ∧ yX0_allTimes.cls ≠ "java/lang/invoke/VarHandle" ∧ (parseMethodDescriptor yX0_allTimes.desc).map (fun d => d.parameters.length) = some 0 := by decide +kernel
theorem hd_X0_timesOf : yX0_timesOf.cls = RX0 ∧ yX0_timesOf.cls ≠ "java/lang/invoke/MethodHandle" ∧ yX0_timesOf.cls ≠ "java/lang/invoke/VarHandle" ∧ (parseMethodDescriptor yX0_timesOf.desc).map (fun d => d.parameters.length) = some 1 := by decide +kernel
theorem hd_X0_add : yX0_add.cls = RX0 ∧ yX0_add.cls ≠ "java/lang/invoke/MethodHandle" ∧ yX0_add.cls ≠ "java/lang/invoke/VarHandle" ∧ (parseMethodDescriptor yX0_add.desc).map (fun d => d.parameters.length) = some 2 := by decide +kernel
theorem hd_X0_countDifferent : yX0_countDifferent.cls = RX0 ∧ yX0_countDifferent.cls ≠ "java/lang/invoke/MethodHandle" ∧ yX0_countDifferent.cls ≠ "java/lang/invoke/VarHandle" ∧ (parseMethodDescriptor yX0_countDifferent.desc).map (fun d => d.parameters.length) = some 1 := by decide +kernel
theorem hd_X0_placeBehind : yX0_placeBehind.cls = RX0 ∧ yX0_placeBehind.cls ≠ "java/lang/invoke/MethodHandle" ∧ yX0_placeBehind.cls ≠ "java/lang/invoke/VarHandle" ∧ (parseMethodDescriptor yX0_placeBehind.desc).map (fun d => d.parameters.length) = some 1 := by decide +kernel
theorem hd_X0_isAt : yX0_isAt.cls = RX0 ∧ yX0_isAt.cls ≠ "java/lang/invoke/MethodHandle" ∧ yX0_isAt.cls ≠ "java/lang/invoke/VarHandle" ∧ (parseMethodDescriptor yX0_isAt.desc).map (fun d => d.parameters.length) = some 2 := by decide +kernel
theorem hd_X0_compareRow : yX0_compareRow.cls = RX0 ∧ yX0_compareRow.cls ≠ "java/lang/invoke/MethodHandle" ∧ yX0_compareRow.cls ≠ "java/lang/invoke/VarHandle" ∧ (parseMethodDescriptor yX0_compareRow.desc).map (fun d => d.parameters.length) = some 3 := by decide +kernel
theorem hd_X0_setTimes : yX0_setTimes.cls = RX0 ∧ yX0_setTimes.cls ≠ "java/lang/invoke/MethodHandle" ∧ yX0_setTimes.cls ≠ "java/lang/invoke/VarHandle" ∧ (parseMethodDescriptor yX0_setTimes.desc).map (fun d => d.parameters.length) = some 2 := by decide +kernel
theorem hd_X0_insert : yX0_insert.cls = RX0 ∧ yX0_insert.cls ≠ "java/lang/invoke/MethodHandle" ∧ yX0_insert.cls ≠ "java/lang/invoke/VarHandle" ∧ (parseMethodDescriptor yX0_insert.desc).map (fun d => d.parameters.length) = some 3 := by decide +kernel
theorem hd_X0_remove : yX0_remove.cls = RX0 ∧ yX0_remove.cls ≠ "java/lang/invoke/MethodHandle" ∧ yX0_remove.cls ≠ "java/lang/invoke/VarHandle" ∧ (parseMethodDescriptor yX0_remove.desc).map (fun d => d.parameters.length) = some 1 := by decide +kernel
theorem hd_X1_init : yX1_init.cls = RX1 ∧ yX1_init.cls ≠ "java/lang/invoke/MethodHandle" ∧ yX1_init.cls ≠ "java/lang/invoke/VarHandle" ∧ (parseMethodDescriptor yX1_init.desc).map (fun d => d.parameters.length) = some 2 := by decide +kernel
theorem hd_X1_makeInto : yX1_makeInto.cls = RX1 ∧ yX1_makeInto.cls ≠ "java/lang/invoke/MethodHandle" ∧ yX1_makeInto.cls ≠ "java/lang/invoke/VarHandle" ∧ (parseMethodDescriptor yX1_makeInto.desc).map (fun d => d.parameters.length) = some 1 := by decide +kernel
theorem hd_X2_init : yX2_init.cls = RX2 ∧ yX2_init.cls ≠ "java/lang/invoke/MethodHandle" ∧ yX2_init.cls ≠ "java/lang/invoke/VarHandle" ∧ (parseMethodDescriptor yX2_init.desc).map (fun d => d.parameters.length) = some 2 := by decide +kernel
theorem hd_X2_makeInto : yX2_makeInto.cls = RX2 ∧ yX2_makeInto.cls ≠ "java/lang/invoke/MethodHandle" ∧ yX2_makeInto.cls ≠ "java/lang/invoke/VarHandle" ∧ (parseMethodDescriptor yX2_makeInto.desc).map (fun d => d.parameters.length) = some 1 := by decide +kernel
theorem hd_X3_init : yX3_init.cls = RX3 ∧ yX3_init.cls ≠ "java/lang/invoke/MethodHandle" ∧ yX3_init.cls ≠ "java/lang/invoke/VarHandle" ∧ (parseMethodDescriptor yX3_init.desc).map (fun d => d.parameters.length) = some 4 := by decide +kernel
theorem hd_X3_makeInto : yX3_makeInto.cls = RX3 ∧ yX3_makeInto.cls ≠ "java/lang/invoke/MethodHandle" ∧ yX3_makeInto.cls ≠ "java/lang/invoke/VarHandle" ∧ (parseMethodDescriptor yX3_makeInto.desc).map (fun d => d.parameters.length) = some 1 := by decide +kernel
theorem hd_X3_isFirst : yX3_isFirst.cls = RX3 ∧ yX3_isFirst.cls ≠ "java/lang/invoke/MethodHandle" ∧ yX3_isFirst.cls ≠ "java/lang/invoke/VarHandle" ∧ (parseMethodDescriptor yX3_isFirst.desc).map (fun d => d.parameters.length) = some 2 := by decide +kernel
theorem hd_X3_isTogether : yX3_isTogether.cls = RX3 ∧ yX3_isTogether.cls ≠ "java/lang/invoke/MethodHandle" ∧ yX3_isTogether.cls ≠ "java/lang/invoke/VarHandle" ∧ (parseMethodDescriptor yX3_isTogether.desc).map (fun d => d.parameters.length) = some 3 := by decide +kernel
theorem hd_X3_valueFrom : yX3_valueFrom.cls = RX3 ∧ yX3_valueFrom.cls ≠ "java/lang/invoke/MethodHandle" ∧ yX3_valueFrom.cls ≠ "java/lang/invoke/VarHandle" ∧ (parseMethodDescriptor yX3_valueFrom.desc).map (fun d => d.parameters.length) = some 2 := by decide +kernel
theorem hd_X3_withRow : yX3_withRow.cls = RX3 ∧ yX3_withRow.cls ≠ "java/lang/invoke/MethodHandle" ∧ yX3_withRow.cls ≠ "java/lang/invoke/VarHandle" ∧ (parseMethodDescriptor yX3_withRow.desc).map (fun d => d.parameters.length) = some 3 := by decide +kernel
theorem hd_X4_init : yX4_init.cls = RX4 ∧ yX4_init.cls ≠ "java/lang/invoke/MethodHandle" ∧ yX4_init.cls ≠ "java/lang/invoke/VarHandle" ∧ (parseMethodDescriptor yX4_init.desc).map (fun d => d.parameters.length) = some 4 := by decide +kernel
theorem hd_X4_makeInto : yX4_makeInto.cls = RX4 ∧ yX4_makeInto.cls ≠ "java/lang/invoke/MethodHandle" ∧ yX4_makeInto.cls ≠ "java/lang/invoke/VarHandle" ∧ (parseMethodDescriptor yX4_makeInto.desc).map (fun d => d.parameters.length) = some 1 := by decide +kernel
theorem hd_X4_readPair : yX4_readPair.cls = RX4 ∧ yX4_readPair.cls ≠ "java/lang/invoke/MethodHandle" ∧ yX4_readPair.cls ≠ "java/lang/invoke/VarHandle" ∧ (parseMethodDescriptor yX4_readPair.desc).map (fun d => d.parameters.length) = some 4 := by decide +kernel
theorem hd_X5_init : yX5_init.cls = RX5 ∧ yX5_init.cls ≠ "java/lang/invoke/MethodHandle" ∧ yX5_init.cls ≠ "java/lang/invoke/VarHandle" ∧ (parseMethodDescriptor yX5_init.desc).map (fun d => d.parameters.length) = some 1 := by decide +kernel
theorem hd_X5_makeInto : yX5_makeInto.cls = RX5 ∧ yX5_makeInto.cls ≠ "java/lang/invoke/MethodHandle" ∧ yX5_makeInto.cls ≠ "java/lang/invoke/VarHandle" ∧ (parseMethodDescriptor yX5_makeInto.desc).map (fun d => d.parameters.length) = some 1 := by decide +kernel
theorem hd_X6_init : yX6_init.cls = RX6 ∧ yX6_init.cls ≠ "java/lang/invoke/MethodHandle" ∧ yX6_init.cls ≠ "java/lang/invoke/VarHandle" ∧ (parseMethodDescriptor yX6_init.desc).map (fun d => d.parameters.length) = some 0 := by decide +kernel
theorem hd_X6_begin : yX6_begin.cls = RX6 ∧ yX6_begin.cls ≠ "java/lang/invoke/MethodHandle" ∧ yX6_begin.cls ≠ "java/lang/invoke/VarHandle" ∧ (parseMethodDescriptor yX6_begin.desc).map (fun d => d.parameters.length) = some 2 := by decide +kernel
theorem hd_X6_end : yX6_end.cls = RX6 ∧ yX6_end.cls ≠ "java/lang/invoke/MethodHandle" ∧ yX6_end.cls ≠ "java/lang/invoke/VarHandle" ∧ (parseMethodDescriptor yX6_end.desc).map (fun d => d.parameters.length) = some 0 := by decide +kernel
theorem hd_X6_isThere : yX6_isThere.cls = RX6 ∧ yX6_isThere.cls ≠ "java/lang/invoke/MethodHandle" ∧ yX6_isThere.cls ≠ "java/lang/invoke/VarHandle" ∧ (parseMethodDescriptor yX6_isThere.desc).map (fun d => d.parameters.length) = some 0 := by decide +kernel
theorem hd_X6_isOf : yX6_isOf.cls = RX6 ∧ yX6_isOf.cls ≠ "java/lang/invoke/MethodHandle" ∧ yX6_isOf.cls ≠ "java/lang/invoke/VarHandle" ∧ (parseMethodDescriptor yX6_isOf.desc).map (fun d => d.parameters.length) = some 1 := by decide +kernel
theorem hd_X6_depth : yX6_depth.cls = RX6 ∧ yX6_depth.cls ≠ "java/lang/invoke/MethodHandle" ∧ yX6_depth.cls ≠ "java/lang/invoke/VarHandle" ∧ (parseMethodDescriptor yX6_depth.desc).map (fun d => d.parameters.length) = some 0 := by decide +kernel
theorem hd_X6_latest : yX6_latest.cls = RX6 ∧ yX6_latest.cls ≠ "java/lang/invoke/MethodHandle" ∧ yX6_latest.cls ≠ "java/lang/invoke/VarHandle" ∧ (parseMethodDescriptor yX6_latest.desc).map (fun d => d.parameters.length) = some 0 := by decide +kernel
theorem hd_X6_remake : yX6_remake.cls = RX6 ∧ yX6_remake.cls ≠ "java/lang/invoke/MethodHandle" ∧ yX6_remake.cls ≠ "java/lang/invoke/VarHandle" ∧ (parseMethodDescriptor yX6_remake.desc).map (fun d => d.parameters.length) = some 0 := by decide +kernel
theorem hd_X6_settle : yX6_settle.cls = RX6 ∧ yX6_settle.cls ≠ "java/lang/invoke/MethodHandle" ∧ yX6_settle.cls ≠ "java/lang/invoke/VarHandle" ∧ (parseMethodDescriptor yX6_settle.desc).map (fun d => d.parameters.length) = some 1 := by decide +kernel
theorem hd_X7_init : yX7_init.cls = RX7 ∧ yX7_init.cls ≠ "java/lang/invoke/MethodHandle" ∧ yX7_init.cls ≠ "java/lang/invoke/VarHandle" ∧ (parseMethodDescriptor yX7_init.desc).map (fun d => d.parameters.length) = some 5 := by decide +kernel
theorem hd_X7_makeInto : yX7_makeInto.cls = RX7 ∧ yX7_makeInto.cls ≠ "java/lang/invoke/MethodHandle" ∧ yX7_makeInto.cls ≠ "java/lang/invoke/VarHandle" ∧ (parseMethodDescriptor yX7_makeInto.desc).map (fun d => d.parameters.length) = some 1 := by decide +kernel
theorem hd_X7_holds : yX7_holds.cls = RX7 ∧ yX7_holds.cls ≠ "java/lang/invoke/MethodHandle" ∧ yX7_holds.cls ≠ "java/lang/invoke/VarHandle" ∧ (parseMethodDescriptor yX7_holds.desc).map (fun d => d.parameters.length) = some 2 := by decide +kernel
theorem hd_X8_init : yX8_init.cls = RX8 ∧ yX8_init.cls ≠ "java/lang/invoke/MethodHandle" ∧ yX8_init.cls ≠ "java/lang/invoke/VarHandle" ∧ (parseMethodDescriptor yX8_init.desc).map (fun d => d.parameters.length) = some 2 := by decide +kernel
theorem hd_X8_makeInto : yX8_makeInto.cls = RX8 ∧ yX8_makeInto.cls ≠ "java/lang/invoke/MethodHandle" ∧ yX8_makeInto.cls ≠ "java/lang/invoke/VarHandle" ∧ (parseMethodDescriptor yX8_makeInto.desc).map (fun d => d.parameters.length) = some 1 := by decide +kernel
theorem hd_X9_init : yX9_init.cls = RX9 ∧ yX9_init.cls ≠ "java/lang/invoke/MethodHandle" ∧ yX9_init.cls ≠ "java/lang/invoke/VarHandle" ∧ (parseMethodDescriptor yX9_init.desc).map (fun d => d.parameters.length) = some 2 := by decide +kernel
theorem hd_X9_isTouched : yX9_isTouched.cls = RX9 ∧ yX9_isTouched.cls ≠ "java/lang/invoke/MethodHandle" ∧ yX9_isTouched.cls ≠ "java/lang/invoke/VarHandle" ∧ (parseMethodDescriptor yX9_isTouched.desc).map (fun d => d.parameters.length) = some 0 := by decide +kernel
theorem hd_X10_init : yX10_init.cls = RX10 ∧ yX10_init.cls ≠ "java/lang/invoke/MethodHandle" ∧ yX10_init.cls ≠ "java/lang/invoke/VarHandle" ∧ (parseMethodDescriptor yX10_init.desc).map (fun d => d.parameters.length) = some 0 := by decide +kernel
theorem hd_X10_table : yX10_table.cls = RX10 ∧ yX10_table.cls ≠ "java/lang/invoke/MethodHandle" ∧ yX10_table.cls ≠ "java/lang/invoke/VarHandle" ∧ (parseMethodDescriptor yX10_table.desc).map (fun d => d.parameters.length) = some 2 := by decide +kernel
theorem hd_X10_select : yX10_select.cls = RX10 ∧ yX10_select.cls ≠ "java/lang/invoke/MethodHandle" ∧ yX10_select.cls ≠ "java/lang/invoke/VarHandle" ∧ (parseMethodDescriptor yX10_select.desc).map (fun d => d.parameters.length) = some 6 := by decide +kernel
theorem hd_X10_columns : yX10_columns.cls = RX10 ∧ yX10_columns.cls ≠ "java/lang/invoke/MethodHandle" ∧ yX10_columns.cls ≠ "java/lang/invoke/VarHandle" ∧ (parseMethodDescriptor yX10_columns.desc).map (fun d => d.parameters.length) = some 6 := by decide +kernel
theorem hd_X10_join : yX10_join.cls = RX10 ∧ yX10_join.cls ≠ "java/lang/invoke/MethodHandle" ∧ yX10_join.cls ≠ "java/lang/invoke/VarHandle" ∧ (parseMethodDescriptor yX10_join.desc).map (fun d => d.parameters.length) = some 5 := by decide +kernel
theorem hd_X10_both : yX10_both.cls = RX10 ∧ yX10_both.cls ≠ "java/lang/invoke/MethodHandle" ∧ yX10_both.cls ≠ "java/lang/invoke/VarHandle" ∧ (parseMethodDescriptor yX10_both.desc).map (fun d => d.parameters.length) = some 4 := by decide +kernel
theorem hd_X10_once : yX10_once.cls = RX10 ∧ yX10_once.cls ≠ "java/lang/invoke/MethodHandle" ∧ yX10_once.cls ≠ "java/lang/invoke/VarHandle" ∧ (parseMethodDescriptor yX10_once.desc).map (fun d => d.parameters.length) = some 2 := by decide +kernel
theorem hd_X10_group : yX10_group.cls = RX10 ∧ yX10_group.cls ≠ "java/lang/invoke/MethodHandle" ∧ yX10_group.cls ≠ "java/lang/invoke/VarHandle" ∧ (parseMethodDescriptor yX10_group.desc).map (fun d => d.parameters.length) = some 5 := by decide +kernel
theorem hd_X10_drop : yX10_drop.cls = RX10 ∧ yX10_drop.cls ≠ "java/lang/invoke/MethodHandle" ∧ yX10_drop.cls ≠ "java/lang/invoke/VarHandle" ∧ (parseMethodDescriptor yX10_drop.desc).map (fun d => d.parameters.length) = some 1 := by decide +kernel
theorem hd_X10_put : yX10_put.cls = RX10 ∧ yX10_put.cls ≠ "java/lang/invoke/MethodHandle" ∧ yX10_put.cls ≠ "java/lang/invoke/VarHandle" ∧ (parseMethodDescriptor yX10_put.desc).map (fun d => d.parameters.length) = some 6 := by decide +kernel
theorem hd_X10_fill : yX10_fill.cls = RX10 ∧ yX10_fill.cls ≠ "java/lang/invoke/MethodHandle" ∧ yX10_fill.cls ≠ "java/lang/invoke/VarHandle" ∧ (parseMethodDescriptor yX10_fill.desc).map (fun d => d.parameters.length) = some 6 := by decide +kernel
theorem hd_X10_width : yX10_width.cls = RX10 ∧ yX10_width.cls ≠ "java/lang/invoke/MethodHandle" ∧ yX10_width.cls ≠ "java/lang/invoke/VarHandle" ∧ (parseMethodDescriptor yX10_width.desc).map (fun d => d.parameters.length) = some 1 := by decide +kernel
theorem hd_X10_rows : yX10_rows.cls = RX10 ∧ yX10_rows.cls ≠ "java/lang/invoke/MethodHandle" ∧ yX10_rows.cls ≠ "java/lang/invoke/VarHandle" ∧ (parseMethodDescriptor yX10_rows.desc).map (fun d => d.parameters.length) = some 1 := by decide +kernel
theorem hd_X10_size : yX10_size.cls = RX10 ∧ yX10_size.cls ≠ "java/lang/invoke/MethodHandle" ∧ yX10_size.cls ≠ "java/lang/invoke/VarHandle" ∧ (parseMethodDescriptor yX10_size.desc).map (fun d => d.parameters.length) = some 1 := by decide +kernel
theorem hd_X10_times : yX10_times.cls = RX10 ∧ yX10_times.cls ≠ "java/lang/invoke/MethodHandle" ∧ yX10_times.cls ≠ "java/lang/invoke/VarHandle" ∧ (parseMethodDescriptor yX10_times.desc).map (fun d => d.parameters.length) = some 5 := by decide +kernel
theorem hd_X10_cell : yX10_cell.cls = RX10 ∧ yX10_cell.cls ≠ "java/lang/invoke/MethodHandle" ∧ yX10_cell.cls ≠ "java/lang/invoke/VarHandle" ∧ (parseMethodDescriptor yX10_cell.desc).map (fun d => d.parameters.length) = some 3 := by decide +kernel
theorem hd_X10_changed : yX10_changed.cls = RX10 ∧ yX10_changed.cls ≠ "java/lang/invoke/MethodHandle" ∧ yX10_changed.cls ≠ "java/lang/invoke/VarHandle" ∧ (parseMethodDescriptor yX10_changed.desc).map (fun d => d.parameters.length) = some 1 := by decide +kernel
theorem hd_X10_count : yX10_count.cls = RX10 ∧ yX10_count.cls ≠ "java/lang/invoke/MethodHandle" ∧ yX10_count.cls ≠ "java/lang/invoke/VarHandle" ∧ (parseMethodDescriptor yX10_count.desc).map (fun d => d.parameters.length) = some 1 := by decide +kernel
theorem hd_X10_countIn : yX10_countIn.cls = RX10 ∧ yX10_countIn.cls ≠ "java/lang/invoke/MethodHandle" ∧ yX10_countIn.cls ≠ "java/lang/invoke/VarHandle" ∧ (parseMethodDescriptor yX10_countIn.desc).map (fun d => d.parameters.length) = some 2 := by decide +kernel
theorem hd_X10_placeAt : yX10_placeAt.cls = RX10 ∧ yX10_placeAt.cls ≠ "java/lang/invoke/MethodHandle" ∧ yX10_placeAt.cls ≠ "java/lang/invoke/VarHandle" ∧ (parseMethodDescriptor yX10_placeAt.desc).map (fun d => d.parameters.length) = some 1 := by decide +kernel
theorem hd_X10_relationAt : yX10_relationAt.cls = RX10 ∧ yX10_relationAt.cls ≠ "java/lang/invoke/MethodHandle" ∧ yX10_relationAt.cls ≠ "java/lang/invoke/VarHandle" ∧ (parseMethodDescriptor yX10_relationAt.desc).map (fun d => d.parameters.length) = some 1 := by decide +kernel
theorem hd_X10_tableAt : yX10_tableAt.cls = RX10 ∧ yX10_tableAt.cls ≠ "java/lang/invoke/MethodHandle" ∧ yX10_tableAt.cls ≠ "java/lang/invoke/VarHandle" ∧ (parseMethodDescriptor yX10_tableAt.desc).map (fun d => d.parameters.length) = some 1 := by decide +kernel
theorem hd_X10_needFree : yX10_needFree.cls = RX10 ∧ yX10_needFree.cls ≠ "java/lang/invoke/MethodHandle" ∧ yX10_needFree.cls ≠ "java/lang/invoke/VarHandle" ∧ (parseMethodDescriptor yX10_needFree.desc).map (fun d => d.parameters.length) = some 1 := by decide +kernel
theorem hd_X10_needColumn : yX10_needColumn.cls = RX10 ∧ yX10_needColumn.cls ≠ "java/lang/invoke/MethodHandle" ∧ yX10_needColumn.cls ≠ "java/lang/invoke/VarHandle" ∧ (parseMethodDescriptor yX10_needColumn.desc).map (fun d => d.parameters.length) = some 2 := by decide +kernel
theorem hd_X10_needColumnOrNone : yX10_needColumnOrNone.cls = RX10 ∧ yX10_needColumnOrNone.cls ≠ "java/lang/invoke/MethodHandle" ∧ yX10_needColumnOrNone.cls ≠ "java/lang/invoke/VarHandle" ∧ (parseMethodDescriptor yX10_needColumnOrNone.desc).map (fun d => d.parameters.length) = some 2 := by decide +kernel
theorem hd_X10_countChosen : yX10_countChosen.cls = RX10 ∧ yX10_countChosen.cls ≠ "java/lang/invoke/MethodHandle" ∧ yX10_countChosen.cls ≠ "java/lang/invoke/VarHandle" ∧ (parseMethodDescriptor yX10_countChosen.desc).map (fun d => d.parameters.length) = some 1 := by decide +kernel
theorem hd_X10_makeView : yX10_makeView.cls = RX10 ∧ yX10_makeView.cls ≠ "java/lang/invoke/MethodHandle" ∧ yX10_makeView.cls ≠ "java/lang/invoke/VarHandle" ∧ (parseMethodDescriptor yX10_makeView.desc).map (fun d => d.parameters.length) = some 3 := by decide +kernel
theorem hd_X10_tell : yX10_tell.cls = RX10 ∧ yX10_tell.cls ≠ "java/lang/invoke/MethodHandle" ∧ yX10_tell.cls ≠ "java/lang/invoke/VarHandle" ∧ (parseMethodDescriptor yX10_tell.desc).map (fun d => d.parameters.length) = some 5 := by decide +kernel
theorem hd_X10_viewsFit : yX10_viewsFit.cls = RX10 ∧ yX10_viewsFit.cls ≠ "java/lang/invoke/MethodHandle" ∧ yX10_viewsFit.cls ≠ "java/lang/invoke/VarHandle" ∧ (parseMethodDescriptor yX10_viewsFit.desc).map (fun d => d.parameters.length) = some 1 := by decide +kernel
theorem hd_X10_takeOver : yX10_takeOver.cls = RX10 ∧ yX10_takeOver.cls ≠ "java/lang/invoke/MethodHandle" ∧ yX10_takeOver.cls ≠ "java/lang/invoke/VarHandle" ∧ (parseMethodDescriptor yX10_takeOver.desc).map (fun d => d.parameters.length) = some 1 := by decide +kernel
theorem hd_X11_init : yX11_init.cls = RX11 ∧ yX11_init.cls ≠ "java/lang/invoke/MethodHandle" ∧ yX11_init.cls ≠ "java/lang/invoke/VarHandle" ∧ (parseMethodDescriptor yX11_init.desc).map (fun d => d.parameters.length) = some 0 := by decide +kernel
theorem hd_X11_thrown : yX11_thrown.cls = RX11 ∧ yX11_thrown.cls ≠ "java/lang/invoke/MethodHandle" ∧ yX11_thrown.cls ≠ "java/lang/invoke/VarHandle" ∧ (parseMethodDescriptor yX11_thrown.desc).map (fun d => d.parameters.length) = some 0 := by decide +kernel
theorem hd_X11_place : yX11_place.cls = RX11 ∧ yX11_place.cls ≠ "java/lang/invoke/MethodHandle" ∧ yX11_place.cls ≠ "java/lang/invoke/VarHandle" ∧ (parseMethodDescriptor yX11_place.desc).map (fun d => d.parameters.length) = some 1 := by decide +kernel
theorem hd_X11_isAt : yX11_isAt.cls = RX11 ∧ yX11_isAt.cls ≠ "java/lang/invoke/MethodHandle" ∧ yX11_isAt.cls ≠ "java/lang/invoke/VarHandle" ∧ (parseMethodDescriptor yX11_isAt.desc).map (fun d => d.parameters.length) = some 2 := by decide +kernel
theorem hd_X11_add : yX11_add.cls = RX11 ∧ yX11_add.cls ≠ "java/lang/invoke/MethodHandle" ∧ yX11_add.cls ≠ "java/lang/invoke/VarHandle" ∧ (parseMethodDescriptor yX11_add.desc).map (fun d => d.parameters.length) = some 2 := by decide +kernel
theorem hd_X11_cut : yX11_cut.cls = RX11 ∧ yX11_cut.cls ≠ "java/lang/invoke/MethodHandle" ∧ yX11_cut.cls ≠ "java/lang/invoke/VarHandle" ∧ (parseMethodDescriptor yX11_cut.desc).map (fun d => d.parameters.length) = some 2 := by decide +kernel
theorem hd_X11_cellOf : yX11_cellOf.cls = RX11 ∧ yX11_cellOf.cls ≠ "java/lang/invoke/MethodHandle" ∧ yX11_cellOf.cls ≠ "java/lang/invoke/VarHandle" ∧ (parseMethodDescriptor yX11_cellOf.desc).map (fun d => d.parameters.length) = some 3 := by decide +kernel
theorem hd_X11_timesOf : yX11_timesOf.cls = RX11 ∧ yX11_timesOf.cls ≠ "java/lang/invoke/MethodHandle" ∧ yX11_timesOf.cls ≠ "java/lang/invoke/VarHandle" ∧ (parseMethodDescriptor yX11_timesOf.desc).map (fun d => d.parameters.length) = some 2 := by decide +kernel
theorem hd_X11_take : yX11_take.cls = RX11 ∧ yX11_take.cls ≠ "java/lang/invoke/MethodHandle" ∧ yX11_take.cls ≠ "java/lang/invoke/VarHandle" ∧ (parseMethodDescriptor yX11_take.desc).map (fun d => d.parameters.length) = some 2 := by decide +kernel
theorem hd_X11_compares : yX11_compares.cls = RX11 ∧ yX11_compares.cls ≠ "java/lang/invoke/MethodHandle" ∧ yX11_compares.cls ≠ "java/lang/invoke/VarHandle" ∧ (parseMethodDescriptor yX11_compares.desc).map (fun d => d.parameters.length) = some 3 := by decide +kernel
theorem hd_X11_make : yX11_make.cls = RX11 ∧ yX11_make.cls ≠ "java/lang/invoke/MethodHandle" ∧ yX11_make.cls ≠ "java/lang/invoke/VarHandle" ∧ (parseMethodDescriptor yX11_make.desc).map (fun d => d.parameters.length) = some 1 := by decide +kernel
theorem hd_X11_makeRow : yX11_makeRow.cls = RX11 ∧ yX11_makeRow.cls ≠ "java/lang/invoke/MethodHandle" ∧ yX11_makeRow.cls ≠ "java/lang/invoke/VarHandle" ∧ (parseMethodDescriptor yX11_makeRow.desc).map (fun d => d.parameters.length) = some 3 := by decide +kernel
theorem hd_X11_makeJoin : yX11_makeJoin.cls = RX11 ∧ yX11_makeJoin.cls ≠ "java/lang/invoke/MethodHandle" ∧ yX11_makeJoin.cls ≠ "java/lang/invoke/VarHandle" ∧ (parseMethodDescriptor yX11_makeJoin.desc).map (fun d => d.parameters.length) = some 1 := by decide +kernel
theorem hd_X11_isSameGroup : yX11_isSameGroup.cls = RX11 ∧ yX11_isSameGroup.cls ≠ "java/lang/invoke/MethodHandle" ∧ yX11_isSameGroup.cls ≠ "java/lang/invoke/VarHandle" ∧ (parseMethodDescriptor yX11_isSameGroup.desc).map (fun d => d.parameters.length) = some 4 := by decide +kernel
theorem hd_X11_makeGroups : yX11_makeGroups.cls = RX11 ∧ yX11_makeGroups.cls ≠ "java/lang/invoke/MethodHandle" ∧ yX11_makeGroups.cls ≠ "java/lang/invoke/VarHandle" ∧ (parseMethodDescriptor yX11_makeGroups.desc).map (fun d => d.parameters.length) = some 1 := by decide +kernel
theorem hd_X11_begin : yX11_begin.cls = RX11 ∧ yX11_begin.cls ≠ "java/lang/invoke/MethodHandle" ∧ yX11_begin.cls ≠ "java/lang/invoke/VarHandle" ∧ (parseMethodDescriptor yX11_begin.desc).map (fun d => d.parameters.length) = some 0 := by decide +kernel
theorem hd_X11_become : yX11_become.cls = RX11 ∧ yX11_become.cls ≠ "java/lang/invoke/MethodHandle" ∧ yX11_become.cls ≠ "java/lang/invoke/VarHandle" ∧ (parseMethodDescriptor yX11_become.desc).map (fun d => d.parameters.length) = some 0 := by decide +kernel
theorem hd_X11_difference : yX11_difference.cls = RX11 ∧ yX11_difference.cls ≠ "java/lang/invoke/MethodHandle" ∧ yX11_difference.cls ≠ "java/lang/invoke/VarHandle" ∧ (parseMethodDescriptor yX11_difference.desc).map (fun d => d.parameters.length) = some 1 := by decide +kernel
theorem hd_X11_isPlace : yX11_isPlace.cls = RX11 ∧ yX11_isPlace.cls ≠ "java/lang/invoke/MethodHandle" ∧ yX11_isPlace.cls ≠ "java/lang/invoke/VarHandle" ∧ (parseMethodDescriptor yX11_isPlace.desc).map (fun d => d.parameters.length) = some 1 := by decide +kernel
theorem hd_X11_is : yX11_is.cls = RX11 ∧ yX11_is.cls ≠ "java/lang/invoke/MethodHandle" ∧ yX11_is.cls ≠ "java/lang/invoke/VarHandle" ∧ (parseMethodDescriptor yX11_is.desc).map (fun d => d.parameters.length) = some 1 := by decide +kernel
theorem hd_X11_isColumn : yX11_isColumn.cls = RX11 ∧ yX11_isColumn.cls ≠ "java/lang/invoke/MethodHandle" ∧ yX11_isColumn.cls ≠ "java/lang/invoke/VarHandle" ∧ (parseMethodDescriptor yX11_isColumn.desc).map (fun d => d.parameters.length) = some 2 := by decide +kernel
theorem hd_X11_enter : yX11_enter.cls = RX11 ∧ yX11_enter.cls ≠ "java/lang/invoke/MethodHandle" ∧ yX11_enter.cls ≠ "java/lang/invoke/VarHandle" ∧ (parseMethodDescriptor yX11_enter.desc).map (fun d => d.parameters.length) = some 5 := by decide +kernel
theorem hd_X11_leave : yX11_leave.cls = RX11 ∧ yX11_leave.cls ≠ "java/lang/invoke/MethodHandle" ∧ yX11_leave.cls ≠ "java/lang/invoke/VarHandle" ∧ (parseMethodDescriptor yX11_leave.desc).map (fun d => d.parameters.length) = some 1 := by decide +kernel
theorem hd_X11_view : yX11_view.cls = RX11 ∧ yX11_view.cls ≠ "java/lang/invoke/MethodHandle" ∧ yX11_view.cls ≠ "java/lang/invoke/VarHandle" ∧ (parseMethodDescriptor yX11_view.desc).map (fun d => d.parameters.length) = some 5 := by decide +kernel
theorem hd_X11_table : yX11_table.cls = RX11 ∧ yX11_table.cls ≠ "java/lang/invoke/MethodHandle" ∧ yX11_table.cls ≠ "java/lang/invoke/VarHandle" ∧ (parseMethodDescriptor yX11_table.desc).map (fun d => d.parameters.length) = some 2 := by decide +kernel
theorem hd_X11_select : yX11_select.cls = RX11 ∧ yX11_select.cls ≠ "java/lang/invoke/MethodHandle" ∧ yX11_select.cls ≠ "java/lang/invoke/VarHandle" ∧ (parseMethodDescriptor yX11_select.desc).map (fun d => d.parameters.length) = some 6 := by decide +kernel
theorem hd_X11_columns : yX11_columns.cls = RX11 ∧ yX11_columns.cls ≠ "java/lang/invoke/MethodHandle" ∧ yX11_columns.cls ≠ "java/lang/invoke/VarHandle" ∧ (parseMethodDescriptor yX11_columns.desc).map (fun d => d.parameters.length) = some 6 := by decide +kernel
theorem hd_X11_join : yX11_join.cls = RX11 ∧ yX11_join.cls ≠ "java/lang/invoke/MethodHandle" ∧ yX11_join.cls ≠ "java/lang/invoke/VarHandle" ∧ (parseMethodDescriptor yX11_join.desc).map (fun d => d.parameters.length) = some 5 := by decide +kernel
theorem hd_X11_both : yX11_both.cls = RX11 ∧ yX11_both.cls ≠ "java/lang/invoke/MethodHandle" ∧ yX11_both.cls ≠ "java/lang/invoke/VarHandle" ∧ (parseMethodDescriptor yX11_both.desc).map (fun d => d.parameters.length) = some 4 := by decide +kernel
theorem hd_X11_once : yX11_once.cls = RX11 ∧ yX11_once.cls ≠ "java/lang/invoke/MethodHandle" ∧ yX11_once.cls ≠ "java/lang/invoke/VarHandle" ∧ (parseMethodDescriptor yX11_once.desc).map (fun d => d.parameters.length) = some 2 := by decide +kernel
theorem hd_X11_group : yX11_group.cls = RX11 ∧ yX11_group.cls ≠ "java/lang/invoke/MethodHandle" ∧ yX11_group.cls ≠ "java/lang/invoke/VarHandle" ∧ (parseMethodDescriptor yX11_group.desc).map (fun d => d.parameters.length) = some 5 := by decide +kernel
theorem hd_X11_drop : yX11_drop.cls = RX11 ∧ yX11_drop.cls ≠ "java/lang/invoke/MethodHandle" ∧ yX11_drop.cls ≠ "java/lang/invoke/VarHandle" ∧ (parseMethodDescriptor yX11_drop.desc).map (fun d => d.parameters.length) = some 1 := by decide +kernel
theorem hd_X11_change : yX11_change.cls = RX11 ∧ yX11_change.cls ≠ "java/lang/invoke/MethodHandle" ∧ yX11_change.cls ≠ "java/lang/invoke/VarHandle" ∧ (parseMethodDescriptor yX11_change.desc).map (fun d => d.parameters.length) = some 2 := by decide +kernel
theorem hd_X11_settle : yX11_settle.cls = RX11 ∧ yX11_settle.cls ≠ "java/lang/invoke/MethodHandle" ∧ yX11_settle.cls ≠ "java/lang/invoke/VarHandle" ∧ (parseMethodDescriptor yX11_settle.desc).map (fun d => d.parameters.length) = some 0 := by decide +kernel
theorem hd_X11_setRow : yX11_setRow.cls = RX11 ∧ yX11_setRow.cls ≠ "java/lang/invoke/MethodHandle" ∧ yX11_setRow.cls ≠ "java/lang/invoke/VarHandle" ∧ (parseMethodDescriptor yX11_setRow.desc).map (fun d => d.parameters.length) = some 4 := by decide +kernel
theorem hd_X11_timesHere : yX11_timesHere.cls = RX11 ∧ yX11_timesHere.cls ≠ "java/lang/invoke/MethodHandle" ∧ yX11_timesHere.cls ≠ "java/lang/invoke/VarHandle" ∧ (parseMethodDescriptor yX11_timesHere.desc).map (fun d => d.parameters.length) = some 1 := by decide +kernel
theorem hd_X11_put : yX11_put.cls = RX11 ∧ yX11_put.cls ≠ "java/lang/invoke/MethodHandle" ∧ yX11_put.cls ≠ "java/lang/invoke/VarHandle" ∧ (parseMethodDescriptor yX11_put.desc).map (fun d => d.parameters.length) = some 6 := by decide +kernel
theorem hd_X11_fill : yX11_fill.cls = RX11 ∧ yX11_fill.cls ≠ "java/lang/invoke/MethodHandle" ∧ yX11_fill.cls ≠ "java/lang/invoke/VarHandle" ∧ (parseMethodDescriptor yX11_fill.desc).map (fun d => d.parameters.length) = some 6 := by decide +kernel
theorem hd_X11_width : yX11_width.cls = RX11 ∧ yX11_width.cls ≠ "java/lang/invoke/MethodHandle" ∧ yX11_width.cls ≠ "java/lang/invoke/VarHandle" ∧ (parseMethodDescriptor yX11_width.desc).map (fun d => d.parameters.length) = some 1 := by decide +kernel
theorem hd_X11_rows : yX11_rows.cls = RX11 ∧ yX11_rows.cls ≠ "java/lang/invoke/MethodHandle" ∧ yX11_rows.cls ≠ "java/lang/invoke/VarHandle" ∧ (parseMethodDescriptor yX11_rows.desc).map (fun d => d.parameters.length) = some 1 := by decide +kernel
theorem hd_X11_size : yX11_size.cls = RX11 ∧ yX11_size.cls ≠ "java/lang/invoke/MethodHandle" ∧ yX11_size.cls ≠ "java/lang/invoke/VarHandle" ∧ (parseMethodDescriptor yX11_size.desc).map (fun d => d.parameters.length) = some 1 := by decide +kernel
theorem hd_X11_times : yX11_times.cls = RX11 ∧ yX11_times.cls ≠ "java/lang/invoke/MethodHandle" ∧ yX11_times.cls ≠ "java/lang/invoke/VarHandle" ∧ (parseMethodDescriptor yX11_times.desc).map (fun d => d.parameters.length) = some 5 := by decide +kernel
theorem hd_X11_cell : yX11_cell.cls = RX11 ∧ yX11_cell.cls ≠ "java/lang/invoke/MethodHandle" ∧ yX11_cell.cls ≠ "java/lang/invoke/VarHandle" ∧ (parseMethodDescriptor yX11_cell.desc).map (fun d => d.parameters.length) = some 3 := by decide +kernel
theorem hd_X11_changed : yX11_changed.cls = RX11 ∧ yX11_changed.cls ≠ "java/lang/invoke/MethodHandle" ∧ yX11_changed.cls ≠ "java/lang/invoke/VarHandle" ∧ (parseMethodDescriptor yX11_changed.desc).map (fun d => d.parameters.length) = some 1 := by decide +kernel
theorem hd_X11_count : yX11_count.cls = RX11 ∧ yX11_count.cls ≠ "java/lang/invoke/MethodHandle" ∧ yX11_count.cls ≠ "java/lang/invoke/VarHandle" ∧ (parseMethodDescriptor yX11_count.desc).map (fun d => d.parameters.length) = some 1 := by decide +kernel
theorem hd_L_table : yL_table.cls = RL ∧ yL_table.cls ≠ "java/lang/invoke/MethodHandle" ∧ yL_table.cls ≠ "java/lang/invoke/VarHandle" ∧ (parseMethodDescriptor yL_table.desc).map (fun d => d.parameters.length) = some 3 := by decide +kernel
theorem hd_L_select : yL_select.cls = RL ∧ yL_select.cls ≠ "java/lang/invoke/MethodHandle" ∧ yL_select.cls ≠ "java/lang/invoke/VarHandle" ∧ (parseMethodDescriptor yL_select.desc).map (fun d => d.parameters.length) = some 7 := by decide +kernel
theorem hd_L_columns : yL_columns.cls = RL ∧ yL_columns.cls ≠ "java/lang/invoke/MethodHandle" ∧ yL_columns.cls ≠ "java/lang/invoke/VarHandle" ∧ (parseMethodDescriptor yL_columns.desc).map (fun d => d.parameters.length) = some 7 := by decide +kernel
theorem hd_L_join : yL_join.cls = RL ∧ yL_join.cls ≠ "java/lang/invoke/MethodHandle" ∧ yL_join.cls ≠ "java/lang/invoke/VarHandle" ∧ (parseMethodDescriptor yL_join.desc).map (fun d => d.parameters.length) = some 6 := by decide +kernel
theorem hd_L_both : yL_both.cls = RL ∧ yL_both.cls ≠ "java/lang/invoke/MethodHandle" ∧ yL_both.cls ≠ "java/lang/invoke/VarHandle" ∧ (parseMethodDescriptor yL_both.desc).map (fun d => d.parameters.length) = some 5 := by decide +kernel
theorem hd_L_once : yL_once.cls = RL ∧ yL_once.cls ≠ "java/lang/invoke/MethodHandle" ∧ yL_once.cls ≠ "java/lang/invoke/VarHandle" ∧ (parseMethodDescriptor yL_once.desc).map (fun d => d.parameters.length) = some 3 := by decide +kernel
theorem hd_L_group : yL_group.cls = RL ∧ yL_group.cls ≠ "java/lang/invoke/MethodHandle" ∧ yL_group.cls ≠ "java/lang/invoke/VarHandle" ∧ (parseMethodDescriptor yL_group.desc).map (fun d => d.parameters.length) = some 6 := by decide +kernel
theorem hd_L_drop : yL_drop.cls = RL ∧ yL_drop.cls ≠ "java/lang/invoke/MethodHandle" ∧ yL_drop.cls ≠ "java/lang/invoke/VarHandle" ∧ (parseMethodDescriptor yL_drop.desc).map (fun d => d.parameters.length) = some 2 := by decide +kernel
theorem hd_L_put : yL_put.cls = RL ∧ yL_put.cls ≠ "java/lang/invoke/MethodHandle" ∧ yL_put.cls ≠ "java/lang/invoke/VarHandle" ∧ (parseMethodDescriptor yL_put.desc).map (fun d => d.parameters.length) = some 8 := by decide +kernel
theorem hd_L_fill : yL_fill.cls = RL ∧ yL_fill.cls ≠ "java/lang/invoke/MethodHandle" ∧ yL_fill.cls ≠ "java/lang/invoke/VarHandle" ∧ (parseMethodDescriptor yL_fill.desc).map (fun d => d.parameters.length) = some 8 := by decide +kernel
theorem hd_L_width : yL_width.cls = RL ∧ yL_width.cls ≠ "java/lang/invoke/MethodHandle" ∧ yL_width.cls ≠ "java/lang/invoke/VarHandle" ∧ (parseMethodDescriptor yL_width.desc).map (fun d => d.parameters.length) = some 3 := by decide +kernel
theorem hd_L_rows : yL_rows.cls = RL ∧ yL_rows.cls ≠ "java/lang/invoke/MethodHandle" ∧ yL_rows.cls ≠ "java/lang/invoke/VarHandle" ∧ (parseMethodDescriptor yL_rows.desc).map (fun d => d.parameters.length) = some 3 := by decide +kernel
theorem hd_L_size : yL_size.cls = RL ∧ yL_size.cls ≠ "java/lang/invoke/MethodHandle" ∧ yL_size.cls ≠ "java/lang/invoke/VarHandle" ∧ (parseMethodDescriptor yL_size.desc).map (fun d => d.parameters.length) = some 3 := by decide +kernel
theorem hd_L_times : yL_times.cls = RL ∧ yL_times.cls ≠ "java/lang/invoke/MethodHandle" ∧ yL_times.cls ≠ "java/lang/invoke/VarHandle" ∧ (parseMethodDescriptor yL_times.desc).map (fun d => d.parameters.length) = some 7 := by decide +kernel
theorem hd_L_cell : yL_cell.cls = RL ∧ yL_cell.cls ≠ "java/lang/invoke/MethodHandle" ∧ yL_cell.cls ≠ "java/lang/invoke/VarHandle" ∧ (parseMethodDescriptor yL_cell.desc).map (fun d => d.parameters.length) = some 5 := by decide +kernel
theorem hd_L_changed : yL_changed.cls = RL ∧ yL_changed.cls ≠ "java/lang/invoke/MethodHandle" ∧ yL_changed.cls ≠ "java/lang/invoke/VarHandle" ∧ (parseMethodDescriptor yL_changed.desc).map (fun d => d.parameters.length) = some 3 := by decide +kernel
theorem hd_L_count : yL_count.cls = RL ∧ yL_count.cls ≠ "java/lang/invoke/MethodHandle" ∧ yL_count.cls ≠ "java/lang/invoke/VarHandle" ∧ (parseMethodDescriptor yL_count.desc).map (fun d => d.parameters.length) = some 3 := by decide +kernel
theorem hd_L_law : yL_law.cls = RL ∧ yL_law.cls ≠ "java/lang/invoke/MethodHandle" ∧ yL_law.cls ≠ "java/lang/invoke/VarHandle" ∧ (parseMethodDescriptor yL_law.desc).map (fun d => d.parameters.length) = some 1 := by decide +kernel
end
section
/-! ROWS, THE SECOND: what is made; constructors; inherited and abstract methods; switches; Math; thrown exceptions -/
section Rows2
variable {X : Cx} {cc : ByteArray} {own : String} {kc ks : Nat} {g : Wd} {pc : Nat} {lv lv' : List (Nat × Value)} {st rest : List Value}
theorem hs_new {X : Cx} {g : Wd} {H H1 : Heap} {locs : List Loc} {e : va_E} (hb0 : kb (xK X) ≤ (xs X).heap.size) (h : Hs X g H locs) (he : va_at (kD (xK X)) vwCl (H.size, e) H1) (z : H1.size = H.size + 1) (oq : ∀ q : Nat, q < H.size → H1[q]? = H[q]?) : Hs X (up g H.size e) H1 locs := by
  obtain ⟨hP, hA, hS⟩ := h
  refine ⟨fun b x hb => ?_, hA.put (Nat.le_trans hb0 hS.1), ⟨Nat.le_trans hS.1 (by omega), fun q h1 h2 => (oq q (Nat.lt_of_lt_of_le h1 hS.1)).trans (hS.2.1 q h1 h2), hS.2.2⟩⟩
  by_cases hq : b = H.size
  · subst hq; rw [up_s] at hb; cases hb; exact he
  · rw [up_n hq] at hb; exact (hP b x hb).kept (oq b (hP.lt hb))
theorem hs_free {X : Cx} {g : Wd} {H : Heap} {locs : List Loc} (h : Hs X g H locs) : g H.size = none := by
  rcases hq : g H.size with _ | e
  · rfl
  · exact absurd (h.1.lt hq) (Nat.lt_irrefl _)
theorem j_new (hX : OK X cc own) {C : String} {T : u_T} {N ci idx : Nat} {ty : Nat → FieldType} {fs : List Value} (hc : vwCl[ci]? = some (C, T, N)) (wf : ∀ w ∈ u_ws C T N, w ∈ wsL_law) (hty : ∀ k, k < N → parseFieldDescriptor (T k).2.2.1 = some (ty k)) (wk : Cond.classLink own idx C ∈ wsL_law) (wa : Cond.instantiable C N ∈ wsL_law) (wn : Cond.initialized C ∈ wsL_law) (hfs : ∀ j, j < N → defaultValue (ty j) = vp_V fs j)
    (d : decode cc pc = .ok (.new idx, 3)) (hcell : kc + 1 ≤ (xR X).cells) (hslot : ks + N ≤ (xR X).slots) (k : ∀ q, g q = none → J X (kc + 1) (ks + N) (up g q (ob ci fs)) (pc + 3) lv (.ref q :: st)) : J X kc ks g pc lv st := by
  intro H locs cells slots ls h1 h2 h3 h4
  have hKn := hX.K.1 ci _ hc
  refine W.newcK hX.x hX.b hX.ow (hX.ts _ wk) (hX.ts _ wa) (hX.ts _ wn) rfl d (by omega) (by omega) hKn.2.1 rfl fun H1 kC hkC e1 z1 o1 => ?_
  exact k H.size (hs_free h3) H1 locs (cells + 1) (slots + N) ls (by omega) (by omega) (hs_new hX.b0 h3 ⟨_, hc, (u_born ty hX.ts wf hKn hkC e1 hty).to hfs⟩ z1 o1) h4
theorem j_newI (hX : OK X cc own) {n : Nat} {i : Int32} (hi : i = nI n) (hn : n < 2 ^ 20) (d : decode cc pc = .ok (.newarray .int, 2)) (hcell : kc + 1 ≤ (xR X).cells) (hslot : ks + n ≤ (xR X).slots) (k : ∀ q, g q = none → J X (kc + 1) (ks + n) (up g q (aI (xK X) n (fun _ => 0))) (pc + 2) lv (.ref q :: rest)) : J X kc ks g pc lv (.int i :: rest) := by
  intro H locs cells slots ls h1 h2 h3 h4
  subst hi
  refine va_newaK hX.x hX.b (atype := .int) (hX.ts _ wR_int) rfl d rfl (nI_pos (by omega)) (nI_clamp (by omega)) (by show n * 4 ≤ _; omega) (by omega) (by omega) rfl fun H1 cA e1 z1 o1 hAr hNm => ?_
  have hc : cA = kI (xK X) := Option.some.inj (hNm.symm.trans (hX.K.2 0 _ rfl).2)
  subst hc
  exact k H.size (hs_free h3) H1 locs (cells + 1) (slots + n) ls (by omega) (by omega) (hs_new hX.b0 h3 (show H1[H.size]? = some (vp_cell _ _) from e1) z1 o1) h4
theorem j_newZ (hX : OK X cc own) {n : Nat} {i : Int32} (hi : i = nI n) (hn : n < 2 ^ 20) (d : decode cc pc = .ok (.newarray .boolean, 2)) (hcell : kc + 1 ≤ (xR X).cells) (hslot : ks + n ≤ (xR X).slots) (k : ∀ q, g q = none → J X (kc + 1) (ks + n) (up g q (aZ (xK X) n (fun _ => 0))) (pc + 2) lv (.ref q :: rest)) : J X kc ks g pc lv (.int i :: rest) := by
  intro H locs cells slots ls h1 h2 h3 h4
  subst hi
  refine va_newaK hX.x hX.b (atype := .boolean) (hX.ts _ wR_boolean) rfl d rfl (nI_pos (by omega)) (nI_clamp (by omega)) (by show n * 1 ≤ _; omega) (by omega) (by omega) rfl fun H1 cA e1 z1 o1 hAr hNm => ?_
  have hc : cA = kZ (xK X) := Option.some.inj (hNm.symm.trans (hX.K.2 1 _ rfl).2)
  subst hc
  exact k H.size (hs_free h3) H1 locs (cells + 1) (slots + n) ls (by omega) (by omega) (hs_new hX.b0 h3 (show H1[H.size]? = some (vp_cell _ _) from e1) z1 o1) h4
theorem j_newJ (hX : OK X cc own) {n : Nat} {i : Int32} (hi : i = nI n) (hn : n < 2 ^ 20) (d : decode cc pc = .ok (.newarray .long, 2)) (hcell : kc + 1 ≤ (xR X).cells) (hslot : ks + n ≤ (xR X).slots) (k : ∀ q, g q = none → J X (kc + 1) (ks + n) (up g q (aJ (xK X) n (fun _ => 0))) (pc + 2) lv (.ref q :: rest)) : J X kc ks g pc lv (.int i :: rest) := by
  intro H locs cells slots ls h1 h2 h3 h4
  subst hi
  refine va_newaK hX.x hX.b (atype := .long) (hX.ts _ wR_long) rfl d rfl (nI_pos (by omega)) (nI_clamp (by omega)) (by show n * 8 ≤ _; omega) (by omega) (by omega) rfl fun H1 cA e1 z1 o1 hAr hNm => ?_
  have hc : cA = kJ (xK X) := Option.some.inj (hNm.symm.trans (hX.K.2 3 _ rfl).2)
  subst hc
  exact k H.size (hs_free h3) H1 locs (cells + 1) (slots + n) ls (by omega) (by omega) (hs_new hX.b0 h3 (show H1[H.size]? = some (vp_cell _ _) from e1) z1 o1) h4
theorem j_newQ (hX : OK X cc own) {n idx : Nat} {i : Int32} (hi : i = nI n) (hn : n < 2 ^ 20) (wk : Cond.classLink own idx "BagViews$Relation" ∈ wsL_law) (d : decode cc pc = .ok (.anewarray idx, 3)) (hcell : kc + 1 ≤ (xR X).cells) (hslot : ks + n ≤ (xR X).slots) (k : ∀ q, g q = none → J X (kc + 1) (ks + n) (up g q (aQ (xK X) n (fun _ => none))) (pc + 3) lv (.ref q :: rest)) : J X kc ks g pc lv (.int i :: rest) := by
  intro H locs cells slots ls h1 h2 h3 h4
  subst hi
  have hcl : (nI n).toNatClampNeg = n := nI_clamp (by omega)
  refine W.anew hX.x hX.b hX.ow (hX.ts _ wk) (va_AO.use hX.F.2.2.2.2.1) rfl d rfl (nI_pos (by omega)) (by rw [hcl]; omega) (by omega) (by rw [hcl]; omega) fun cA kA comp f1 f2 f3 f4 => ?_
  obtain ⟨kA2, comp2, r1, r2, r3, r4⟩ := (hX.K.2 2 _ rfl).2
  have hc : cA = kR (xK X) := Option.some.inj (f1.symm.trans r4)
  subst hc
  generalize hH1 : H.push ({ cls := kR (xK X), slots := Array.replicate (nI n).toNatClampNeg .null, vm := .none } : Cell) = H1
  have z1 : H1.size = H.size + 1 := by rw [← hH1, Array.size_push]
  have e1 : H1[H.size]? = some (arrV (kR (xK X)) (nI n).toNatClampNeg (fun _ => .null)) := by rw [← hH1, Array.getElem?_push_size, ← arrV_new]
  have o1 : ∀ q : Nat, q < H.size → H1[q]? = H[q]? := fun q hq => by rw [← hH1, Array.getElem?_push, if_neg (Nat.ne_of_lt hq)]
  rw [hcl] at e1 ⊢
  exact k H.size (hs_free h3) H1 locs (cells + 1) (slots + n) ls (by omega) (by omega) (hs_new hX.b0 h3 (show H1[H.size]? = some (vp_cell _ _) from e1) z1 o1) h4
theorem j_aast (hX : OK X cc own) {a n v ci : Nat} {vs : List Value} {f : Nat → Option Nat} {T : u_T} {N : Nat} (hg : g a = some (aQ (xK X) n f)) (hv : g v = some (ob ci vs)) (hc : vwCl[ci]? = some ("BagViews$Relation", T, N)) {i : Int32} (m : Nat) (hi : i = nI m) (hm : m < n) (hn : n < 2 ^ 31) (d : decode cc pc = .ok (.aastore, 1)) (k : J X kc ks (up g a (aQ (xK X) n (va_up f m (some v)))) (pc + 1) lv rest) : J X kc ks g pc lv (.ref v :: .int i :: .ref a :: rest) := by
  intro H locs cells slots ls h1 h2 h3 h4
  subst hi
  have hcl : (nI m).toNatClampNeg = m := nI_clamp (by omega)
  obtain ⟨r', hr', cellV, g1, g2, g3, -⟩ := h3.1 v _ hv
  have hcls := (hX.K.1 ci _ hc).2
  obtain ⟨kA, comp, k1, k2, k3, -⟩ := (hX.K.2 2 _ rfl).2
  have hcomp : comp = (kD (xK X)).1 ci := Option.some.inj (k3.symm.trans hcls.1)
  subst hcomp
  obtain ⟨kC, hkC, -⟩ := hcls.2
  refine W.aast hX.x hX.b (h3.1 a _ hg) (fun q h => by cases h) (fun h => by cases h) k1 k2 rfl hkC ⟨nI_pos (by omega), by show _ < (arrV _ _ _).slots.size; rw [arrV_size, hcl]; exact hm⟩ g1 (fun q h => by rw [g3] at h; cases h) (by rw [g2]; exact hkC) (by rw [g2]; exact va_assign hcls) rfl rfl d fun H1 e z oq => ?_
  refine k H1 _ cells slots ls h1 h2 (hs_put h3 hg ?_ z oq) h4
  show H1[a]? = some (vp_cell _ _)
  rw [e, hcl]
  rw [vp_cell_q, vp_cell_q, arrV_store]
  congr 2
  funext q
  by_cases hq : q = m
  · subst hq; simp [updV, va_up, va_rf]
  · simp [updV, va_up, hq]
theorem j_objI (hX : OK X cc own) {idx a : Nat} (wk : Cond.methodLink own idx objectInit ∈ wsL_law) (hlev : 1 ≤ xlev X) (hrest : (rest.map fun v => v.category).sum ≤ 8) (d : decode cc pc = .ok (.invokespecial idx, 3)) (k : J X kc ks g (pc + 3) lv rest) : J X kc ks g pc lv (.ref a :: rest) := by
  intro H locs cells slots ls h1 h2 h3 h4
  have hro := hX.room
  exact W.objInit hX.x hX.b hX.ow (hX.ts _ wk) (hX.ts _ wz_1) (hX.ts _ wz_2) rfl (by rw [hX.ml]; exact h4.1) rfl d (by omega) (by show 2 * 0 + _ + 12 ≤ _; omega) (k H locs cells slots ls h1 h2 h3 h4)
/-- a contract without exceptions, in the kit's words -/
theorem Ct.met {l : Launch} {K : Cst} {y : MethodName} {c9 : ByteArray} {n : Nat} {r : Option FieldType} {L : Nat} {av : List Value} {Post : Option Value → Wd → Prop} {mc ms : Nat} (h : Ct l K y c9 n r L av g Post (fun _ _ => False) mc ms) : Met l y (Cond.code y c9 n r :: wsL_law) (rmL L mc ms) (va_Pc av (PreW K g)) (QcW K Post) mc ms (kA K) := by
  intro p e ha hc hk s m args below hf happ hP hK
  obtain ⟨n, o, h1, h2, h3, h4⟩ := h p e ha hc hk s m args below hf happ hP hK
  refine ⟨n, o, h1, h2, h3, ?_⟩
  rcases h4 with h | ⟨q, -, E, ce, L, ⟨⟨g', hx, -⟩, -⟩, -⟩
  · exact h
  · exact hx.elim
theorem vx_ofrun {p : Program} {l : Launch} {e : Env} {R : Room} {s : State} {m : MethodId} {args : Array Value} {below : List Frame} {meth : Method} {c : Code} {H : Heap} {locs : List Loc} {cells slots mc ms : Nat} {g : JFrame} {rest : List Value} {Qa : State → Outcome → State → Prop} {XC : String → State → State → Prop} {free : Addr → Prop} (h : va_Run p l e R s m args below meth c H locs cells slots mc ms g rest Qa free) : vx_Run p l e R s m args below meth c H locs cells slots mc ms g rest Qa XC free := fun T hT Y => Or.inl (h T hT Y)
theorem j_callI (hX : OK X cc own) {y : MethodName} {bytes : ByteArray} {n : Nat} {L a : Nat} {As : List Value} {Post : Option Value → Wd → Prop} {mc ms : Nat} (hC : Ct (xl X) (xK X) y bytes n none L (.ref a :: As) g Post (fun _ _ => False) mc ms)
    {idx na : Nat} {C : String} (wk : Cond.methodLink own idx y ∈ wsL_law) (wi : Cond.instanceMethod y ∈ wsL_law) (wn : Cond.initialized C ∈ wsL_law) (wc : Cond.code y bytes n none ∈ wsL_law) (hy : y.name = "<init>")
    (hd : y.cls = C ∧ y.cls ≠ "java/lang/invoke/MethodHandle" ∧ y.cls ≠ "java/lang/invoke/VarHandle" ∧ (parseMethodDescriptor y.desc).map (fun d => d.parameters.length) = some na) (hna : As.length = na) (hlev : L + 1 ≤ xlev X) (hn : n ≤ 13) (hst : st = As.reverse ++ .ref a :: rest) (hrest : (rest.map fun v => v.category).sum ≤ 8)
    (d : decode cc pc = .ok (.invokespecial idx, 3)) (hcell : kc + mc ≤ (xR X).cells) (hslot : ks + ms ≤ (xR X).slots) (kk : ∀ v g', Post v g' → J X (kc + mc) (ks + ms) g' (pc + 3) lv (v.toList ++ rest)) : J X kc ks g pc lv st := by
  refine j_run (XP := fun _ _ => False) (av := (Value.ref a :: As).toArray) (fun H locs cells slots ls h1 h2 h3 h4 => vx_ofrun ?_) (fun _ _ h => h.elim) kk
  have hro := hX.room
  exact va_runI ⟨hX.x, hX.b, hX.ml, hX.ow, hX.ts⟩ hC.met (cwI na hX.ts (wg_in (wg_c wc wg_s)) rfl rfl rfl (by rw [hd.1]; exact hX.ts _ wn) (hX.ts _ wk) (hX.ts _ wi) hy hd.2 ⟨by show L + 1 ≤ _; omega, by show 8 + (n + 11) + 32 * L ≤ _; omega⟩) ⟨PreW.blind, fun U hU hW => pre_w hX h3 U hU hW⟩ rfl hna h4.1 hst (lv_room hrest) d ⟨by omega, by omega⟩
theorem j_callIN (hX : OK X cc own) {y : MethodName} {bytes : ByteArray} {n : Nat} {L a : Nat} {As : List Value} {Post : Option Value → Wd → Prop} {mc ms : Nat} (hC : Ct (xl X) (xK X) y bytes n none L (.ref a :: As) g Post (fun _ _ => False) mc ms)
    {idx na : Nat} {C host : String} (wk : Cond.methodLinkNest own idx y host ∈ nestW) (wi : Cond.instanceMethod y ∈ wsL_law) (wn : Cond.initialized C ∈ wsL_law) (wc : Cond.code y bytes n none ∈ wsL_law) (hy : y.name = "<init>")
    (hd : y.cls = C ∧ y.cls ≠ "java/lang/invoke/MethodHandle" ∧ y.cls ≠ "java/lang/invoke/VarHandle" ∧ (parseMethodDescriptor y.desc).map (fun d => d.parameters.length) = some na) (hna : As.length = na) (hlev : L + 1 ≤ xlev X) (hn : n ≤ 13) (hst : st = As.reverse ++ .ref a :: rest) (hrest : (rest.map fun v => v.category).sum ≤ 8)
    (d : decode cc pc = .ok (.invokespecial idx, 3)) (hcell : kc + mc ≤ (xR X).cells) (hslot : ks + ms ≤ (xR X).slots) (kk : ∀ v g', Post v g' → J X (kc + mc) (ks + ms) g' (pc + 3) lv (v.toList ++ rest)) : J X kc ks g pc lv st := by
  refine j_run (XP := fun _ _ => False) (av := (Value.ref a :: As).toArray) (fun H locs cells slots ls h1 h2 h3 h4 => vx_ofrun ?_) (fun _ _ h => h.elim) kk
  have hro := hX.room
  exact va_runIN ⟨hX.x, hX.b, hX.ml, hX.ow, hX.ts⟩ hC.met ⟨va_cnB na hX.ts (wg_in (wg_c wc wg_s)) rfl rfl rfl (hX.N _ wk) (by rw [hd.1]; exact hX.ts _ wn) hd.2 ⟨by show L + 1 ≤ _; omega, by show 8 + (n + 11) + 32 * L ≤ _; omega⟩, hy, hX.ts _ wi⟩ ⟨PreW.blind, fun U hU hW => pre_w hX h3 U hU hW⟩ rfl hna h4.1 hst (lv_room hrest) d ⟨by omega, by omega⟩
/-- a call of View's abstract method: the receiver's class C has y -/
theorem j_callA (hX : OK X cc own) {x y : MethodName} {bytes : ByteArray} {n : Nat} {r : Option FieldType} {L a : Nat} {As : List Value} {Post : Option Value → Wd → Prop} {mc ms : Nat} (hC : Ct (xl X) (xK X) y bytes n r L (.ref a :: As) g Post (fun _ _ => False) mc ms)
    {ci idx N na : Nat} {fs : List Value} {C C2 : String} {T : u_T} (hg : g a = some (ob ci fs)) (hc : vwCl[ci]? = some (C, T, N)) (wk : Cond.methodLink own idx x ∈ wsL_law) (wsm : Cond.sameMethod x.cls "BagViews$View" x.name x.desc ∈ wsL_law) (wdc : Cond.declares ⟨"BagViews$View", x.name, x.desc⟩ ∈ nestW) (wi : Cond.instanceMethod y ∈ wsL_law) (wv : Cond.selects C x y ∈ wsL_law) (wn : Cond.initialized C2 ∈ wsL_law) (wc : Cond.code y bytes n r ∈ wsL_law) (hy2 : y.cls = C2)
    (hd : (parseMethodDescriptor x.desc).map (fun d => d.parameters.length) = some na) (hna : As.length = na) (hlev : L + 1 ≤ xlev X) (hn : n ≤ 13) (hst : st = As.reverse ++ .ref a :: rest) (hrest : (rest.map fun v => v.category).sum ≤ 8)
    (d : decode cc pc = .ok (.invokevirtual idx, 3)) (hcell : kc + mc ≤ (xR X).cells) (hslot : ks + ms ≤ (xR X).slots) (kk : ∀ v g', Post v g' → J X (kc + mc) (ks + ms) g' (pc + 3) lv (v.toList ++ rest)) : J X kc ks g pc lv st := by
  refine j_run (XP := fun _ _ => False) (av := (Value.ref a :: As).toArray) (fun H locs cells slots ls h1 h2 h3 h4 => vx_ofrun ?_) (fun _ _ h => h.elim) kk
  have hG : GoodIn wsL_law (va_wsU own idx C "BagViews$View" x y (Cond.code y bytes n r :: wsL_law)) := wg_in (by unfold va_wsU; exact wg_c wk (wg_c wsm (wg_c wv (wg_c wi (wg_c (by rw [hy2]; exact wn) (wg_c wc wg_s))))))
  have hro := hX.room
  exact va_runU ⟨hX.x, hX.b, hX.ml, hX.ow, hX.ts⟩ hC.met (va_cwA na hX.ts hG rfl rfl rfl (hX.N _ wdc) ⟨by decide, by decide, hd⟩ ⟨by show L + 1 ≤ _; omega, by show 8 + (n + 11) + 32 * L ≤ _; omega⟩) ⟨PreW.blind, va_recv hX.K (h3.1.one hg) (ci := ci) (q0 := 0) hc rfl, fun U hU hW => pre_w hX h3 U hU hW⟩ rfl hna h4.1 hst (lv_room hrest) d ⟨by omega, by omega⟩
/-- a call of a method that View itself has -/
theorem j_callU (hX : OK X cc own) {x y : MethodName} {bytes : ByteArray} {n : Nat} {r : Option FieldType} {L a : Nat} {As : List Value} {Post : Option Value → Wd → Prop} {mc ms : Nat} (hC : Ct (xl X) (xK X) y bytes n r L (.ref a :: As) g Post (fun _ _ => False) mc ms)
    {ci idx N na : Nat} {fs : List Value} {C : String} {T : u_T} (hg : g a = some (ob ci fs)) (hc : vwCl[ci]? = some (C, T, N)) (wk : Cond.methodLink own idx x ∈ wsL_law) (wsm : Cond.sameMethod x.cls "BagViews$View" x.name x.desc ∈ wsL_law) (hyx : y = ⟨"BagViews$View", x.name, x.desc⟩) (wi : Cond.instanceMethod y ∈ wsL_law) (wv : Cond.selects C x y ∈ wsL_law) (wn : Cond.initialized y.cls ∈ wsL_law) (wc : Cond.code y bytes n r ∈ wsL_law)
    (hd : (parseMethodDescriptor x.desc).map (fun d => d.parameters.length) = some na) (hna : As.length = na) (hlev : L + 1 ≤ xlev X) (hn : n ≤ 13) (hst : st = As.reverse ++ .ref a :: rest) (hrest : (rest.map fun v => v.category).sum ≤ 8)
    (d : decode cc pc = .ok (.invokevirtual idx, 3)) (hcell : kc + mc ≤ (xR X).cells) (hslot : ks + ms ≤ (xR X).slots) (kk : ∀ v g', Post v g' → J X (kc + mc) (ks + ms) g' (pc + 3) lv (v.toList ++ rest)) : J X kc ks g pc lv st := by
  refine j_run (XP := fun _ _ => False) (av := (Value.ref a :: As).toArray) (fun H locs cells slots ls h1 h2 h3 h4 => vx_ofrun ?_) (fun _ _ h => h.elim) kk
  have hG : GoodIn wsL_law (va_wsU own idx C "BagViews$View" x y (Cond.code y bytes n r :: wsL_law)) := wg_in (by unfold va_wsU; exact wg_c wk (wg_c wsm (wg_c wv (wg_c wi (wg_c wn (wg_c wc wg_s))))))
  have hro := hX.room
  exact va_runU ⟨hX.x, hX.b, hX.ml, hX.ow, hX.ts⟩ hC.met (va_cwU na hX.ts hG rfl rfl rfl hyx ⟨by decide, by decide, hd⟩ ⟨by show L + 1 ≤ _; omega, by show 8 + (n + 11) + 32 * L ≤ _; omega⟩) ⟨PreW.blind, va_recv hX.K (h3.1.one hg) (ci := ci) (q0 := 0) hc rfl, fun U hU hW => pre_w hX h3 U hU hW⟩ rfl hna h4.1 hst (lv_room hrest) d ⟨by omega, by omega⟩
theorem j_tabIn (hX : OK X cc own) {dflt lo hi : Int} {offs : Array Int} {len : Nat} {x : Int32} {off : Int} (tgt : Nat) (d : decode cc pc = .ok (.tableswitch dflt lo hi offs, len)) (h1 : ¬ x.toInt < lo) (h2 : ¬ hi < x.toInt) (ho : offs[(x.toInt - lo).toNat]? = some off) (ht : (pc : Int) + off = (tgt : Int)) (k : J X kc ks g tgt lv rest) : J X kc ks g pc lv (.int x :: rest) := j_lift (fun _ _ _ _ _ _ k => lv_tableIn hX.x hX.b d h1 h2 ho ht k) k
theorem j_tabOut (hX : OK X cc own) {dflt lo hi : Int} {offs : Array Int} {len : Nat} {x : Int32} (tgt : Nat) (d : decode cc pc = .ok (.tableswitch dflt lo hi offs, len)) (h : x.toInt < lo ∨ hi < x.toInt) (ht : (pc : Int) + dflt = (tgt : Int)) (k : J X kc ks g tgt lv rest) : J X kc ks g pc lv (.int x :: rest) := j_lift (fun _ _ _ _ _ _ k => lv_tableOut hX.x hX.b d h ht k) k
theorem j_max (hX : OK X cc own) {idx : Nat} {x y : Int32} (wk : Cond.methodLink own idx Lib.Math.max.name ∈ wsL_law) (hlev : 1 ≤ xlev X) (hrest : (rest.map fun v => v.category).sum ≤ 8) (hcell : kc ≤ (xR X).cells) (hslot : ks ≤ (xR X).slots) (d : decode cc pc = .ok (.invokestatic idx, 3)) (k : J X kc ks g (pc + 3) lv (.int (if x < y then y else x) :: rest)) : J X kc ks g pc lv (.int y :: .int x :: rest) := by
  intro H locs cells slots ls h1 h2 h3 h4
  have hro := hX.room
  exact va_mmax hX.x hX.b (by rw [hX.ml]; exact h4.1.symm) hX.ow (hX.ts _ wk) (hX.ts _ wz_3) (hX.ts _ wN_Math) (hX.ts _ wz_4) (by omega) (by omega) (by omega) (by omega) d (k H locs cells slots ls h1 h2 h3 h4)
theorem j_min (hX : OK X cc own) {idx : Nat} {x y : Int32} (wk : Cond.methodLink own idx Lib.Math.min.name ∈ wsL_law) (hlev : 1 ≤ xlev X) (hrest : (rest.map fun v => v.category).sum ≤ 8) (hcell : kc ≤ (xR X).cells) (hslot : ks ≤ (xR X).slots) (d : decode cc pc = .ok (.invokestatic idx, 3)) (k : J X kc ks g (pc + 3) lv (.int (if y < x then y else x) :: rest)) : J X kc ks g pc lv (.int y :: .int x :: rest) := by
  intro H locs cells slots ls h1 h2 h3 h4
  have hro := hX.room
  exact va_mmin hX.x hX.b (by rw [hX.ml]; exact h4.1.symm) hX.ow (hX.ts _ wk) (hX.ts _ wz_15) (hX.ts _ wN_Math) (hX.ts _ wz_16) (by omega) (by omega) (by omega) (by omega) d (k H locs cells slots ls h1 h2 h3 h4)
end Rows2
end
section
/-! THROWN EXCEPTIONS of BagViews: 'throw new E("text")' -/
theorem nest_on : nestW.all (fun w => w.onTables) = true := by decide +kernel
section Throw
variable {X : Cx} {cc : ByteArray} {own : String} {kc ks : Nat} {g : Wd} {pc : Nat} {lv : List (Nat × Value)} {rest : List Value}
theorem j_throw (hX : OK X cc own) {ret : Option FieldType} {Post : Option Value → Wd → Prop} {XP : String → Wd → Prop} {mc ms : Nat} (hE : EndX X ret Post XP mc ms) (hl : (xl X).stackTraces = false) {cls text : String} {names : List String} {ik is ic : Nat} (hcls : Bundle.fit cls = true) (hnames : ∀ n ∈ names, Bundle.fit n = true) (hlen : names.length = 2) (wk : Cond.classLink own ik cls ∈ wsL_law) (wn : Cond.initialized cls ∈ wsL_law) (hat : ∀ w ∈ vx_atS own ic cls names, w.before (xargs X) (xs X) = true) (hgood : ∀ w ∈ Cond.classLink own ik cls :: Cond.initialized cls :: vx_atS own ic cls names, vx_ot w = true)
    (ws : (own, is, text) ∈ strW) (hlev : 6 ≤ xlev X) (hrest : (rest.map fun v => v.category).sum ≤ 8) (d0 : decode cc pc = .ok (.new ik, 3)) (d3 : decode cc (pc + 3) = .ok (.dup, 1)) (d4 : decode cc (pc + 4) = .ok (.ldc is, 2)) (d6 : decode cc (pc + 6) = .ok (.invokespecial ic, 3)) (d9 : decode cc (pc + 9) = .ok (.athrow, 1))
    (hp : XP cls g) (hc : kc + 1 ≤ mc) (hs : ks + 6 ≤ ms) (hRc : mc ≤ (xR X).cells) (hRs : ms ≤ (xR X).slots) : J X kc ks g pc lv rest := by
  intro H locs cells slots ls h1 h2 h3 h4
  have hro := hX.room
  obtain ⟨sa, hsa⟩ := hX.F.2.2.2.1 _ ws
  show W _ _ _ _ _ _ _ _ _ _ _ _ _ _ (xQ X) _
  rw [hE.1]
  refine vx_throwS hX.x hX.b hl (A := kA (xK X)) hX.ow hcls hnames (hX.ts _ wk) (hX.ts _ wn) hsa hat hgood hX.F.2.2.1.1 hX.F.2.2.1.2 h3.2.2 (by rw [hX.ml]; exact h4.1) d0 d3 d4 d6 d9 (fun x hx => absurd hx (fun h => hE.2.2 x h)) (by omega) (by rw [hlen]; omega) (by omega) (by omega) hX.locks (fun t hA9 hz hk => ?_) h3.2.2.2.2 (by omega) (by omega)
  refine ⟨⟨g, hp, fun a e ha => (h3.1 a e ha).kept (hk a (h3.1.lt ha)), h3.2.1⟩, ⟨Nat.le_trans h3.2.2.1 hz, fun q hq1 hq2 => (hk q (Nat.lt_of_lt_of_le hq1 h3.2.2.1)).trans (h3.2.2.2.1 q hq1 hq2)⟩⟩
theorem throw_at {args : Array Value} {s : State} {L : List Cond} (h1 : ∀ w ∈ L.filter goodWord, w ∈ wsL_law) (h2 : ∀ w ∈ L.filter (fun w => !goodWord w), w ∈ nestW) (hts : ∀ w ∈ wsL_law, w.before args s = true) (hN : ∀ w ∈ nestW, va_Nw w s) : ∀ w ∈ L, w.before args s = true :=
  vx_hat (fun w hw => hts w (h1 w hw)) h2 (fun w hw => va_Nw.use (List.all_eq_true.mp nest_on w hw) (hN w hw))
theorem wx_IAE : ∀ w ∈ (vx_atS RX10 32 "java/lang/IllegalArgumentException" ["java/lang/RuntimeException", "java/lang/Exception"]).filter goodWord, w ∈ wsL_law := fun w h => List.mem_append_left _ (List.mem_append_left _ (List.mem_append_left _ (List.mem_append_right _ h)))
theorem wy_IAE : ∀ w ∈ (vx_atS RX10 32 "java/lang/IllegalArgumentException" ["java/lang/RuntimeException", "java/lang/Exception"]).filter (fun w => !goodWord w), w ∈ nestW := by decide +kernel
theorem wo_IAE : ∀ w ∈ Cond.classLink RX10 28 "java/lang/IllegalArgumentException" :: Cond.initialized "java/lang/IllegalArgumentException" :: vx_atS RX10 32 "java/lang/IllegalArgumentException" ["java/lang/RuntimeException", "java/lang/Exception"], vx_ot w = true := by decide +kernel
theorem j_IAE (hX : OK X cc RX10) {ret : Option FieldType} {Post : Option Value → Wd → Prop} {XP : String → Wd → Prop} {mc ms : Nat} (hE : EndX X ret Post XP mc ms) (hl : (xl X).stackTraces = false) {text : String} {is : Nat} (ws : (RX10, is, text) ∈ strW) (hlev : 6 ≤ xlev X) (hrest : (rest.map fun v => v.category).sum ≤ 8) (d0 : decode cc pc = .ok (.new 28, 3)) (d3 : decode cc (pc + 3) = .ok (.dup, 1)) (d4 : decode cc (pc + 4) = .ok (.ldc is, 2)) (d6 : decode cc (pc + 6) = .ok (.invokespecial 32, 3)) (d9 : decode cc (pc + 9) = .ok (.athrow, 1))
    (hp : XP "java/lang/IllegalArgumentException" g) (hc : kc + 1 ≤ mc) (hs : ks + 6 ≤ ms) (hRc : mc ≤ (xR X).cells) (hRs : ms ≤ (xR X).slots) : J X kc ks g pc lv rest :=
  j_throw hX hE hl (by decide +kernel) (by decide +kernel) rfl lk_X10_28 wN_IllegalArgumentException (throw_at wx_IAE wy_IAE hX.ts hX.N) wo_IAE ws hlev hrest d0 d3 d4 d6 d9 hp hc hs hRc hRs
theorem wx_IOO : ∀ w ∈ (vx_atS RX10 169 "java/lang/IndexOutOfBoundsException" ["java/lang/RuntimeException", "java/lang/Exception"]).filter goodWord, w ∈ wsL_law := fun w h => List.mem_append_left _ (List.mem_append_left _ (List.mem_append_right _ h))
theorem wy_IOO : ∀ w ∈ (vx_atS RX10 169 "java/lang/IndexOutOfBoundsException" ["java/lang/RuntimeException", "java/lang/Exception"]).filter (fun w => !goodWord w), w ∈ nestW := by decide +kernel
theorem wo_IOO : ∀ w ∈ Cond.classLink RX10 165 "java/lang/IndexOutOfBoundsException" :: Cond.initialized "java/lang/IndexOutOfBoundsException" :: vx_atS RX10 169 "java/lang/IndexOutOfBoundsException" ["java/lang/RuntimeException", "java/lang/Exception"], vx_ot w = true := by decide +kernel
theorem j_IOO (hX : OK X cc RX10) {ret : Option FieldType} {Post : Option Value → Wd → Prop} {XP : String → Wd → Prop} {mc ms : Nat} (hE : EndX X ret Post XP mc ms) (hl : (xl X).stackTraces = false) {text : String} {is : Nat} (ws : (RX10, is, text) ∈ strW) (hlev : 6 ≤ xlev X) (hrest : (rest.map fun v => v.category).sum ≤ 8) (d0 : decode cc pc = .ok (.new 165, 3)) (d3 : decode cc (pc + 3) = .ok (.dup, 1)) (d4 : decode cc (pc + 4) = .ok (.ldc is, 2)) (d6 : decode cc (pc + 6) = .ok (.invokespecial 169, 3)) (d9 : decode cc (pc + 9) = .ok (.athrow, 1))
    (hp : XP "java/lang/IndexOutOfBoundsException" g) (hc : kc + 1 ≤ mc) (hs : ks + 6 ≤ ms) (hRc : mc ≤ (xR X).cells) (hRs : ms ≤ (xR X).slots) : J X kc ks g pc lv rest :=
  j_throw hX hE hl (by decide +kernel) (by decide +kernel) rfl lk_X10_165 wN_IndexOutOfBoundsException (throw_at wx_IOO wy_IOO hX.ts hX.N) wo_IOO ws hlev hrest d0 d3 d4 d6 d9 hp hc hs hRc hRs
theorem wx_ISE : ∀ w ∈ (vx_atS RX10 118 "java/lang/IllegalStateException" ["java/lang/RuntimeException", "java/lang/Exception"]).filter goodWord, w ∈ wsL_law := fun w h => List.mem_append_left _ (List.mem_append_right _ h)
theorem wy_ISE : ∀ w ∈ (vx_atS RX10 118 "java/lang/IllegalStateException" ["java/lang/RuntimeException", "java/lang/Exception"]).filter (fun w => !goodWord w), w ∈ nestW := by decide +kernel
theorem wo_ISE : ∀ w ∈ Cond.classLink RX10 114 "java/lang/IllegalStateException" :: Cond.initialized "java/lang/IllegalStateException" :: vx_atS RX10 118 "java/lang/IllegalStateException" ["java/lang/RuntimeException", "java/lang/Exception"], vx_ot w = true := by decide +kernel
theorem j_ISE (hX : OK X cc RX10) {ret : Option FieldType} {Post : Option Value → Wd → Prop} {XP : String → Wd → Prop} {mc ms : Nat} (hE : EndX X ret Post XP mc ms) (hl : (xl X).stackTraces = false) {text : String} {is : Nat} (ws : (RX10, is, text) ∈ strW) (hlev : 6 ≤ xlev X) (hrest : (rest.map fun v => v.category).sum ≤ 8) (d0 : decode cc pc = .ok (.new 114, 3)) (d3 : decode cc (pc + 3) = .ok (.dup, 1)) (d4 : decode cc (pc + 4) = .ok (.ldc is, 2)) (d6 : decode cc (pc + 6) = .ok (.invokespecial 118, 3)) (d9 : decode cc (pc + 9) = .ok (.athrow, 1))
    (hp : XP "java/lang/IllegalStateException" g) (hc : kc + 1 ≤ mc) (hs : ks + 6 ≤ ms) (hRc : mc ≤ (xR X).cells) (hRs : ms ≤ (xR X).slots) : J X kc ks g pc lv rest :=
  j_throw hX hE hl (by decide +kernel) (by decide +kernel) rfl lk_X10_114 wN_IllegalStateException (throw_at wx_ISE wy_ISE hX.ts hX.N) wo_ISE ws hlev hrest d0 d3 d4 d6 d9 hp hc hs hRc hRs
theorem wx_UOE : ∀ w ∈ (vx_atS RX10 218 "java/lang/UnsupportedOperationException" ["java/lang/RuntimeException", "java/lang/Exception"]).filter goodWord, w ∈ wsL_law := fun w h => List.mem_append_right _ h
theorem wy_UOE : ∀ w ∈ (vx_atS RX10 218 "java/lang/UnsupportedOperationException" ["java/lang/RuntimeException", "java/lang/Exception"]).filter (fun w => !goodWord w), w ∈ nestW := by decide +kernel
theorem wo_UOE : ∀ w ∈ Cond.classLink RX10 214 "java/lang/UnsupportedOperationException" :: Cond.initialized "java/lang/UnsupportedOperationException" :: vx_atS RX10 218 "java/lang/UnsupportedOperationException" ["java/lang/RuntimeException", "java/lang/Exception"], vx_ot w = true := by decide +kernel
theorem j_UOE (hX : OK X cc RX10) {ret : Option FieldType} {Post : Option Value → Wd → Prop} {XP : String → Wd → Prop} {mc ms : Nat} (hE : EndX X ret Post XP mc ms) (hl : (xl X).stackTraces = false) {text : String} {is : Nat} (ws : (RX10, is, text) ∈ strW) (hlev : 6 ≤ xlev X) (hrest : (rest.map fun v => v.category).sum ≤ 8) (d0 : decode cc pc = .ok (.new 214, 3)) (d3 : decode cc (pc + 3) = .ok (.dup, 1)) (d4 : decode cc (pc + 4) = .ok (.ldc is, 2)) (d6 : decode cc (pc + 6) = .ok (.invokespecial 218, 3)) (d9 : decode cc (pc + 9) = .ok (.athrow, 1))
    (hp : XP "java/lang/UnsupportedOperationException" g) (hc : kc + 1 ≤ mc) (hs : ks + 6 ≤ ms) (hRc : mc ≤ (xR X).cells) (hRs : ms ≤ (xR X).slots) : J X kc ks g pc lv rest :=
  j_throw hX hE hl (by decide +kernel) (by decide +kernel) rfl lk_X10_214 wN_UnsupportedOperationException (throw_at wx_UOE wy_UOE hX.ts hX.N) wo_UOE ws hlev hrest d0 d3 d4 d6 d9 hp hc hs hRc hRs
end Throw
end
section
section Rows3
variable {X : Cx} {cc : ByteArray} {own : String} {kc ks : Nat} {g : Wd} {pc : Nat} {lv lv' : List (Nat × Value)} {st rest : List Value}
theorem j_aload_nN (hX : OK X cc own) {i : Fin 4} (d : decode cc pc = .ok (.aload_n i, 1)) (j : Nat) (hj : lv[j]? = some ((i : Nat), .null)) (k : J X kc ks g (pc + 1) lv (.null :: st)) : J X kc ks g pc lv st := j_lift (fun _ _ _ _ _ hl k => lv_aload_nN hX.x hX.b d rfl (lv_at hl j hj) k) k
theorem j_aloadN (hX : OK X cc own) {i : Nat} (d : decode cc pc = .ok (.aload i, 2)) (j : Nat) (hj : lv[j]? = some (i, .null)) (k : J X kc ks g (pc + 2) lv (.null :: st)) : J X kc ks g pc lv st := j_lift (fun _ _ _ _ _ hl k => lv_aloadN hX.x hX.b d (lv_at hl j hj) k) k
theorem ne_fr {g : Wd} {a q : Nat} {e : va_E} (h : g a = some e) (hq : g q = none) : a ≠ q := fun z => by rw [z, hq] at h; cases h
end Rows3
end
section
/-! A BAG: its object b, its cells ca (80 ints, 4 a row), its times oa (20 ints), n rows -/
def isBag (K : Cst) (g : Wd) (b ca oa n : Nat) (cf tf : Nat → Int32) : Prop := g b = some (ob 0 [.ref ca, .ref oa, .int (nI n)]) ∧ g ca = some (aI K 80 cf) ∧ g oa = some (aI K 20 tf)
/-- rows by their cells, from f's place i and h's place j on, m columns -/
def cmpN (f h : Nat → Int32) : Nat → Nat → Nat → Int32
  | 0, _, _ => 0
  | m + 1, i, j => if f i = h j then cmpN f h m (i + 1) (j + 1) else if f i < h j then -1 else 1
abbrev cmp4 (f : Nat → Int32) (i : Nat) (h : Nat → Int32) (j : Nat) : Int32 := cmpN f h 4 i j
theorem cmpN_s (f h : Nat → Int32) (m i j : Nat) : cmpN f h (m + 1) i j = if f i = h j then cmpN f h m (i + 1) (j + 1) else if f i < h j then -1 else 1 := rfl
/-- the place behind the last of p rows that is not above the row rf -/
def pbN (f rf : Nat → Int32) : Nat → Nat
  | 0 => 0
  | p + 1 => if 0 < cmp4 f (4 * p) rf 0 then pbN f rf p else p + 1
theorem pbN_le (f rf : Nat → Int32) : ∀ p, pbN f rf p ≤ p
  | 0 => Nat.le_refl 0
  | p + 1 => by
    unfold pbN
    split
    · exact Nat.le_succ_of_le (pbN_le f rf p)
    · exact Nat.le_refl _
/-- is the row rf at the place ahead of p? -/
def atP (f rf : Nat → Int32) (p : Nat) : Bool := decide (0 < p) && decide (cmp4 f (4 * (p - 1)) rf 0 = 0)
def timesAt (f tf rf : Nat → Int32) (n : Nat) : Int32 := if atP f rf (pbN f rf n) = true then tf (pbN f rf n - 1) else 0
abbrev b01 (x : Bool) : Int32 := if x = true then 1 else 0
theorem b01_z (x : Bool) : narrow .boolean (.int (b01 x)) = .int (b01 x) := by cases x <;> rfl
theorem nI_m1 {p : Nat} (h : 0 < p) : nI p - 1 = nI (p - 1) := by
  obtain ⟨q, rfl⟩ : ∃ q, p = q + 1 := ⟨p - 1, by omega⟩
  exact nI_pred q
theorem nI_0m : nI 0 - 1 < 0 := by decide
set_option maxRecDepth 20000 in
set_option maxHeartbeats 600000 in
/-- cellAt(k, c) -/
theorem c_X0_cellAt (l : Launch) (K : Cst) (g : Wd) (b ca oa n : Nat) (cf tf : Nat → Int32) (hB : isBag K g b ca oa n cf tf) (k c : Nat) (hk : k < 20) (hc : c < 4) : Ct l K yX0_cellAt cX0_cellAt 3 (some .int) 0 [.ref b, .int (nI k), .int (nI c)] g (fun v g' => v = some (.int (cf (4 * k + c))) ∧ g = g') (fun _ _ => False) 0 0 := by
  refine ct_of (by decide) (Nat.le_of_ble_eq_true rfl) ?_
  intro X hl hK hX hE hn hL hR hm
  subst hl; subst hK
  show J X 0 0 g 0 [(0, .ref b), (1, .int (nI k)), (2, .int (nI c))] []
  refine j_aload_n hX dX0_cellAt_0 0 rfl ?_
  refine j_get (v := .ref ca) hX hB.1 rfl wf_X0 0 (by decide) lk_X0_9 (fun _ h => h) rfl dX0_cellAt_1 ?_
  refine j_iload_n hX dX0_cellAt_4 1 rfl ?_
  refine j_iconst (v := 4) hX dX0_cellAt_5 (by decide) ?_
  refine j_imul hX dX0_cellAt_6 ?_
  refine j_iload_n hX dX0_cellAt_7 2 rfl ?_
  refine j_iadd hX dX0_cellAt_8 ?_
  refine j_ialdN hX hB.2.1 (4 * k + c) (ix4 k c) (by omega) (by decide) dX0_cellAt_9 ?_
  exact j_iret hX hE dX0_cellAt_10 (⟨rfl, rfl⟩) (by decide) (by decide)

set_option maxRecDepth 20000 in
set_option maxHeartbeats 600000 in
/-- compareRow(k, others, from) -/
theorem c_X0_compareRow (l : Launch) (K : Cst) (g : Wd) (b ca oa n : Nat) (cf tf : Nat → Int32) (hB : isBag K g b ca oa n cf tf) (k o no fr : Nat) (hf : Nat → Int32) (hk : k < 20) (ho : g o = some (aI K no hf)) (hno : fr + 4 ≤ no) (hn31 : no < 2 ^ 31) : Ct l K yX0_compareRow cX0_compareRow 7 (some .int) 0 [.ref b, .int (nI k), .ref o, .int (nI fr)] g (fun v g' => v = some (.int (cmp4 cf (4 * k) hf fr)) ∧ g = g') (fun _ _ => False) 0 0 := by
  refine ct_of (by decide) (Nat.le_of_ble_eq_true rfl) ?_
  intro X hl hK hX hE hn hL hR hm
  subst hl; subst hK
  show J X 0 0 g 0 [(0, .ref b), (1, .int (nI k)), (2, .ref o), (3, .int (nI fr))] []
  have loop : ∀ (m c : Nat), c + m = 4 → cmpN cf hf m (4 * k + c) (fr + c) = cmp4 cf (4 * k) hf fr → J X 0 0 g 3 [(4, .int (nI c)), (0, .ref b), (1, .int (nI k)), (2, .ref o), (3, .int (nI fr))] [] := by
    intro m
    induction m with
    | zero =>
      intro c hc hr
      refine j_iload hX dX0_compareRow_3 0 rfl ?_
      refine j_iconst (v := nI 4) hX dX0_compareRow_5 (by decide) ?_
      refine j_icmp_ge hX 56 dX0_compareRow_6 (by decide) (fun _ => ?_) (fun c_6 => absurd (show nI 4 ≤ nI c from nI_le (by omega) (by omega)) c_6)
      refine j_iconst (v := 0) hX dX0_compareRow_56 (by decide) ?_
      exact j_iret hX hE dX0_compareRow_57 (⟨by rw [← hr]; rfl, rfl⟩) (by decide) (by decide)
    | succ m ih =>
      intro c hc hr
      refine j_iload hX dX0_compareRow_3 0 rfl ?_
      refine j_iconst (v := nI 4) hX dX0_compareRow_5 (by decide) ?_
      refine j_icmp_ge hX 56 dX0_compareRow_6 (by decide) (fun c_6 => absurd c_6 (show ¬ nI 4 ≤ nI c from nI_ge (by omega) (by decide))) (fun _ => ?_)
      refine j_aload_n hX dX0_compareRow_9 1 rfl ?_
      refine j_get (v := .ref ca) hX hB.1 rfl wf_X0 0 (by decide) lk_X0_9 (fun _ h => h) rfl dX0_compareRow_10 ?_
      refine j_iload_n hX dX0_compareRow_13 2 rfl ?_
      refine j_iconst (v := 4) hX dX0_compareRow_14 (by decide) ?_
      refine j_imul hX dX0_compareRow_15 ?_
      refine j_iload hX dX0_compareRow_16 0 rfl ?_
      refine j_iadd hX dX0_compareRow_18 ?_
      refine j_ialdN hX hB.2.1 (4 * k + c) (ix4 k c) (by omega) (by decide) dX0_compareRow_19 ?_
      refine j_istore (lv' := [(5, .int (cf (4 * k + c))), (4, .int (nI c)), (0, .ref b), (1, .int (nI k)), (2, .ref o), (3, .int (nI fr))]) hX dX0_compareRow_20 (by rw [hn]; decide) rfl ?_
      refine j_aload_n hX dX0_compareRow_22 4 rfl ?_
      refine j_iload_n hX dX0_compareRow_23 5 rfl ?_
      refine j_iload hX dX0_compareRow_24 1 rfl ?_
      refine j_iadd hX dX0_compareRow_26 ?_
      refine j_ialdN hX ho (fr + c) (nI_add fr c) (by omega) hn31 dX0_compareRow_27 ?_
      refine j_istore (lv' := [(6, .int (hf (fr + c))), (5, .int (cf (4 * k + c))), (4, .int (nI c)), (0, .ref b), (1, .int (nI k)), (2, .ref o), (3, .int (nI fr))]) hX dX0_compareRow_28 (by rw [hn]; decide) rfl ?_
      refine j_iload hX dX0_compareRow_30 1 rfl ?_
      refine j_iload hX dX0_compareRow_32 0 rfl ?_
      refine j_icmp_eq hX 50 dX0_compareRow_34 (by decide) (fun c_34 => ?_) (fun c_34 => ?_)
      · refine j_iinc (v := nI (c + 1)) (lv' := [(4, .int (nI (c + 1))), (6, .int (hf (fr + c))), (5, .int (cf (4 * k + c))), (0, .ref b), (1, .int (nI k)), (2, .ref o), (3, .int (nI fr))]) hX dX0_compareRow_50 2 rfl (nI_1 c) (by rw [hn]; decide) rfl ?_
        refine j_goto hX 3 dX0_compareRow_53 (by decide) ?_
        refine j_sub [0, 3, 4, 5, 6] rfl ?_
        exact ih (c + 1) (by omega) (by rw [cmpN_s, if_pos c_34] at hr; exact hr)
      · refine j_iload hX dX0_compareRow_37 1 rfl ?_
        refine j_iload hX dX0_compareRow_39 0 rfl ?_
        refine j_icmp_ge hX 48 dX0_compareRow_41 (by decide) (fun c_41 => ?_) (fun c_41 => ?_)
        · refine j_iconst (v := 1) hX dX0_compareRow_48 (by decide) ?_
          exact j_iret hX hE dX0_compareRow_49 (⟨by rw [← hr, cmpN_s, if_neg c_34, if_neg (Int32.not_lt.mpr c_41)], rfl⟩) (by decide) (by decide)
        · refine j_iconst (v := (-1)) hX dX0_compareRow_44 (by decide) ?_
          refine j_goto hX 49 dX0_compareRow_45 (by decide) ?_
          exact j_iret hX hE dX0_compareRow_49 (⟨by rw [← hr, cmpN_s, if_neg c_34, if_pos (Int32.not_le.mp c_41)], rfl⟩) (by decide) (by decide)
  refine j_iconst (v := nI 0) hX dX0_compareRow_0 (by decide) ?_
  refine j_istore (lv' := [(4, .int (nI 0)), (0, .ref b), (1, .int (nI k)), (2, .ref o), (3, .int (nI fr))]) hX dX0_compareRow_1 (by rw [hn]; decide) rfl ?_
  refine j_sub [0, 1, 2, 3, 4] rfl ?_
  exact loop 4 0 rfl rfl

set_option maxRecDepth 20000 in
set_option maxHeartbeats 600000 in
/-- isAt(p - 1, row) -/
theorem c_X0_isAt (l : Launch) (K : Cst) (g : Wd) (b ca oa n : Nat) (cf tf : Nat → Int32) (hB : isBag K g b ca oa n cf tf) (ra : Nat) (rf : Nat → Int32) (hr : g ra = some (aI K 4 rf)) (p : Nat) (hp20 : p ≤ 20) : Ct l K yX0_isAt cX0_isAt 3 (some .boolean) 1 [.ref b, .int (nI p - 1), .ref ra] g (fun v g' => v = some (.int (b01 (atP cf rf p))) ∧ g = g') (fun _ _ => False) 0 0 := by
  refine ct_of (by decide) (Nat.le_of_ble_eq_true rfl) ?_
  intro X hl hK hX hE hn hL hR hm
  subst hl; subst hK
  show J X 0 0 g 0 [(0, .ref b), (1, .int (nI p - 1)), (2, .ref ra)] []
  rcases Nat.eq_zero_or_pos p with hp | hp
  · subst hp
    refine j_iload_n hX dX0_isAt_0 1 rfl ?_
    refine j_if_lt hX 18 dX0_isAt_1 (by decide) (fun _ => ?_) (fun c_1 => absurd nI_0m c_1)
    refine j_iconst (v := 0) hX dX0_isAt_18 (by decide) ?_
    exact j_zret hX hE dX0_isAt_19 (by first | rfl | decide | assumption) (⟨rfl, rfl⟩) (by decide) (by decide)
  · rw [nI_m1 hp]
    refine j_iload_n hX dX0_isAt_0 1 rfl ?_
    refine j_if_lt hX 18 dX0_isAt_1 (by decide) (fun c_1 => absurd c_1 (nI_pos (n := p - 1) (by omega))) (fun _ => ?_)
    refine j_aload_n hX dX0_isAt_4 0 rfl ?_
    refine j_iload_n hX dX0_isAt_5 1 rfl ?_
    refine j_aload_n hX dX0_isAt_6 2 rfl ?_
    refine j_iconst (v := nI 0) hX dX0_isAt_7 (by decide) ?_
    refine j_callV (As := [.int (nI (p - 1)), .ref ra, .int (nI 0)]) (rest := []) hX (c_X0_compareRow (xl X) (xK X) g b ca oa n cf tf hB (p - 1) ra 4 0 rf (by omega) hr (by omega) (by decide)) hB.1 rfl lk_X0_44 wI_X0_compareRow wV_X0_X0_compareRow wN_X0 wC_X0_compareRow hd_X0_compareRow rfl (by rw [hL]; decide) (by decide) rfl (Nat.le_of_ble_eq_true rfl) dX0_isAt_8 (by rw [hR]; decide) (by rw [hR]; decide) jx_no ?_
    rintro _ _ ⟨rfl, rfl⟩
    show J X 0 0 g 11 [(0, .ref b), (1, .int (nI (p - 1))), (2, .ref ra)] [.int (cmp4 cf (4 * (p - 1)) rf 0)]
    refine j_if_ne hX 18 dX0_isAt_11 (by decide) (fun c_11 => ?_) (fun c_11 => ?_)
    · refine j_iconst (v := 0) hX dX0_isAt_18 (by decide) ?_
      exact j_zret hX hE dX0_isAt_19 (by first | rfl | decide | assumption) (⟨by rw [show b01 (atP cf rf p) = 0 from if_neg (by simp [atP, c_11])], rfl⟩) (by decide) (by decide)
    · refine j_iconst (v := 1) hX dX0_isAt_14 (by decide) ?_
      refine j_goto hX 19 dX0_isAt_15 (by decide) ?_
      exact j_zret hX hE dX0_isAt_19 (by first | rfl | decide | assumption) (⟨by rw [show b01 (atP cf rf p) = 1 from if_pos (by simp [atP, hp, c_11])], rfl⟩) (by decide) (by decide)

set_option maxRecDepth 20000 in
set_option maxHeartbeats 600000 in
/-- placeBehind(row) -/
theorem c_X0_placeBehind (l : Launch) (K : Cst) (g : Wd) (b ca oa n : Nat) (cf tf : Nat → Int32) (hB : isBag K g b ca oa n cf tf) (ra : Nat) (rf : Nat → Int32) (hr : g ra = some (aI K 4 rf)) (hn20 : n ≤ 20) : Ct l K yX0_placeBehind cX0_placeBehind 3 (some .int) 1 [.ref b, .ref ra] g (fun v g' => v = some (.int (nI (pbN cf rf n))) ∧ g = g') (fun _ _ => False) 0 0 := by
  refine ct_of (by decide) (Nat.le_of_ble_eq_true rfl) ?_
  intro X hl hK hX hE hn hL hR hm
  subst hl; subst hK
  show J X 0 0 g 0 [(0, .ref b), (1, .ref ra)] []
  have loop : ∀ (p : Nat), p ≤ 20 → pbN cf rf p = pbN cf rf n → J X 0 0 g 5 [(2, .int (nI p)), (0, .ref b), (1, .ref ra)] [] := by
    intro p
    induction p with
    | zero =>
      intro hp hq
      refine j_iload_n hX dX0_placeBehind_5 0 rfl ?_
      refine j_if_le hX 27 dX0_placeBehind_6 (by decide) (fun _ => ?_) (fun c_6 => absurd (show nI 0 ≤ 0 by decide) c_6)
      refine j_iload_n hX dX0_placeBehind_27 0 rfl ?_
      exact j_iret hX hE dX0_placeBehind_28 (⟨by rw [← hq]; rfl, rfl⟩) (by decide) (by decide)
    | succ p ih =>
      intro hp hq
      refine j_iload_n hX dX0_placeBehind_5 0 rfl ?_
      refine j_if_le hX 27 dX0_placeBehind_6 (by decide) (fun c_6 => absurd c_6 (nI_nle (n := p + 1) (by omega) (by omega))) (fun _ => ?_)
      refine j_aload_n hX dX0_placeBehind_9 1 rfl ?_
      refine j_iload_n hX dX0_placeBehind_10 0 rfl ?_
      refine j_iconst (v := 1) hX dX0_placeBehind_11 (by decide) ?_
      refine j_isub hX dX0_placeBehind_12 ?_
      refine j_eqi (y := nI p) (nI_pred p) ?_
      refine j_aload_n hX dX0_placeBehind_13 2 rfl ?_
      refine j_iconst (v := nI 0) hX dX0_placeBehind_14 (by decide) ?_
      refine j_callV (As := [.int (nI p), .ref ra, .int (nI 0)]) (rest := []) hX (c_X0_compareRow (xl X) (xK X) g b ca oa n cf tf hB (p) ra 4 0 rf (by omega) hr (by omega) (by decide)) hB.1 rfl lk_X0_44 wI_X0_compareRow wV_X0_X0_compareRow wN_X0 wC_X0_compareRow hd_X0_compareRow rfl (by rw [hL]; decide) (by decide) rfl (Nat.le_of_ble_eq_true rfl) dX0_placeBehind_15 (by rw [hR]; decide) (by rw [hR]; decide) jx_no ?_
      rintro _ _ ⟨rfl, rfl⟩
      show J X 0 0 g 18 [(2, .int (nI (p + 1))), (0, .ref b), (1, .ref ra)] [.int (cmp4 cf (4 * (p)) rf 0)]
      refine j_if_le hX 27 dX0_placeBehind_18 (by decide) (fun c_18 => ?_) (fun c_18 => ?_)
      · refine j_iload_n hX dX0_placeBehind_27 0 rfl ?_
        exact j_iret hX hE dX0_placeBehind_28 (⟨by rw [← hq, pbN, if_neg (Int32.not_lt.mpr c_18)], rfl⟩) (by decide) (by decide)
      · refine j_iinc (v := nI p) (lv' := [(2, .int (nI p)), (0, .ref b), (1, .ref ra)]) hX dX0_placeBehind_21 0 rfl (pk_m1 p) (by rw [hn]; decide) rfl ?_
        refine j_goto hX 5 dX0_placeBehind_24 (by decide) ?_
        refine j_sub [0, 1, 2] rfl ?_
        exact ih (by omega) (by rw [pbN, if_pos (Int32.not_le.mp c_18)] at hq; exact hq)
  refine j_aload_n hX dX0_placeBehind_0 0 rfl ?_
  refine j_get (v := .int (nI n)) hX hB.1 rfl wf_X0 2 (by decide) lk_X0_18 (fun _ h => h) rfl dX0_placeBehind_1 ?_
  refine j_istore_n (lv' := [(2, .int (nI n)), (0, .ref b), (1, .ref ra)]) hX dX0_placeBehind_4 (by rw [hn]; decide) rfl ?_
  exact loop n hn20 rfl

set_option maxRecDepth 20000 in
set_option maxHeartbeats 600000 in
/-- timesOf(row) -/
theorem c_X0_timesOf (l : Launch) (K : Cst) (g : Wd) (b ca oa n : Nat) (cf tf : Nat → Int32) (hB : isBag K g b ca oa n cf tf) (ra : Nat) (rf : Nat → Int32) (hr : g ra = some (aI K 4 rf)) (hn20 : n ≤ 20) : Ct l K yX0_timesOf cX0_timesOf 3 (some .int) 2 [.ref b, .ref ra] g (fun v g' => v = some (.int (timesAt cf tf rf n)) ∧ g = g') (fun _ _ => False) 0 0 := by
  refine ct_of (by decide) (Nat.le_of_ble_eq_true rfl) ?_
  intro X hl hK hX hE hn hL hR hm
  subst hl; subst hK
  show J X 0 0 g 0 [(0, .ref b), (1, .ref ra)] []
  refine j_aload_n hX dX0_timesOf_0 0 rfl ?_
  refine j_aload_n hX dX0_timesOf_1 1 rfl ?_
  refine j_callV (As := [.ref ra]) (rest := []) hX (c_X0_placeBehind (xl X) (xK X) g b ca oa n cf tf hB ra rf hr hn20) hB.1 rfl lk_X0_28 wI_X0_placeBehind wV_X0_X0_placeBehind wN_X0 wC_X0_placeBehind hd_X0_placeBehind rfl (by rw [hL]; decide) (by decide) rfl (Nat.le_of_ble_eq_true rfl) dX0_timesOf_2 (by rw [hR]; decide) (by rw [hR]; decide) jx_no ?_
  rintro _ _ ⟨rfl, rfl⟩
  show J X 0 0 g 5 [(0, .ref b), (1, .ref ra)] [.int (nI (pbN cf rf n))]
  refine j_istore_n (lv' := [(2, .int (nI (pbN cf rf n))), (0, .ref b), (1, .ref ra)]) hX dX0_timesOf_5 (by rw [hn]; decide) rfl ?_
  refine j_aload_n hX dX0_timesOf_6 1 rfl ?_
  refine j_iload_n hX dX0_timesOf_7 0 rfl ?_
  refine j_iconst (v := 1) hX dX0_timesOf_8 (by decide) ?_
  refine j_isub hX dX0_timesOf_9 ?_
  refine j_aload_n hX dX0_timesOf_10 2 rfl ?_
  refine j_callV (As := [.int ((nI (pbN cf rf n)) - 1), .ref ra]) (rest := []) hX (c_X0_isAt (xl X) (xK X) g b ca oa n cf tf hB ra rf hr (pbN cf rf n) (Nat.le_trans (pbN_le cf rf n) hn20)) hB.1 rfl lk_X0_32 wI_X0_isAt wV_X0_X0_isAt wN_X0 wC_X0_isAt hd_X0_isAt rfl (by rw [hL]; decide) (by decide) rfl (Nat.le_of_ble_eq_true rfl) dX0_timesOf_11 (by rw [hR]; decide) (by rw [hR]; decide) jx_no ?_
  rintro _ _ ⟨rfl, rfl⟩
  show J X 0 0 g 14 [(2, .int (nI (pbN cf rf n))), (0, .ref b), (1, .ref ra)] [.int (b01 (atP cf rf (pbN cf rf n)))]
  refine j_if_eq hX 28 dX0_timesOf_14 (by decide) (fun c_14 => ?_) (fun c_14 => ?_)
  · have ha : ¬ atP cf rf (pbN cf rf n) = true := fun h9 => by rw [h9] at c_14; exact absurd c_14 (by decide)
    refine j_iconst (v := 0) hX dX0_timesOf_28 (by decide) ?_
    exact j_iret hX hE dX0_timesOf_29 (⟨by rw [timesAt, if_neg ha], rfl⟩) (by decide) (by decide)
  · have ha : atP cf rf (pbN cf rf n) = true := by
      rcases h9 : atP cf rf (pbN cf rf n) with _ | _
      · exact absurd (by rw [h9]; rfl) c_14
      · rfl
    have hp : 0 < pbN cf rf n := by
      simp [atP] at ha; exact ha.1
    refine j_aload_n hX dX0_timesOf_17 1 rfl ?_
    refine j_get (v := .ref oa) hX hB.1 rfl wf_X0 1 (by decide) lk_X0_15 (fun _ h => h) rfl dX0_timesOf_18 ?_
    refine j_iload_n hX dX0_timesOf_21 0 rfl ?_
    refine j_iconst (v := 1) hX dX0_timesOf_22 (by decide) ?_
    refine j_isub hX dX0_timesOf_23 ?_
    refine j_eqi (y := nI (pbN cf rf n - 1)) (nI_m1 hp) ?_
    refine j_ialdN hX hB.2.2 (pbN cf rf n - 1) (rfl) (by have := pbN_le cf rf n; omega) (by decide) dX0_timesOf_24 ?_
    refine j_goto hX 29 dX0_timesOf_25 (by decide) ?_
    exact j_iret hX hE dX0_timesOf_29 (⟨by rw [timesAt, if_pos ha], rfl⟩) (by decide) (by decide)
end
section
/-! ROWS AND BAGS AS MATHEMATICAL VALUES: a row is four ints; its key orders rows by their first column, then the second one, and so on -/
abbrev Row : Type := Int32 × Int32 × Int32 × Int32
def key (r : Row) : Int := ((r.1.toInt * 4294967296 + r.2.1.toInt) * 4294967296 + r.2.2.1.toInt) * 4294967296 + r.2.2.2.toInt
theorem i32_bd (x : Int32) : -2147483648 ≤ x.toInt ∧ x.toInt < 2147483648 := ⟨x.le_toInt, x.toInt_lt⟩
theorem key_inj {a b : Row} (h : key a = key b) : a = b := by
  obtain ⟨a1, a2, a3, a4⟩ := a
  obtain ⟨b1, b2, b3, b4⟩ := b
  simp only [key] at h
  have p1 := i32_bd a1; have p2 := i32_bd a2; have p3 := i32_bd a3; have p4 := i32_bd a4
  have q1 := i32_bd b1; have q2 := i32_bd b2; have q3 := i32_bd b3; have q4 := i32_bd b4
  have e1 : a1 = b1 := Int32.toInt_inj.mp (by omega)
  have e2 : a2 = b2 := Int32.toInt_inj.mp (by omega)
  have e3 : a3 = b3 := Int32.toInt_inj.mp (by omega)
  have e4 : a4 = b4 := Int32.toInt_inj.mp (by omega)
  rw [e1, e2, e3, e4]
def rowAt (f : Nat → Int32) (i : Nat) : Row := (f i, f (i + 1), f (i + 2), f (i + 3))
theorem i32_tri (x y : Int32) : x.toInt < y.toInt ∨ x = y ∨ y.toInt < x.toInt := by
  rcases Int.lt_trichotomy x.toInt y.toInt with h | h | h
  · exact Or.inl h
  · exact Or.inr (Or.inl (Int32.toInt_inj.mp h))
  · exact Or.inr (Or.inr h)
theorem cmpN_lt {f h : Nat → Int32} {m i j : Nat} (c : (f i).toInt < (h j).toInt) : cmpN f h (m + 1) i j = -1 := by
  rw [cmpN_s, if_neg (fun e => by rw [e] at c; omega), if_pos (Int32.lt_iff_toInt_lt.mpr c)]
theorem cmpN_gt {f h : Nat → Int32} {m i j : Nat} (c : (h j).toInt < (f i).toInt) : cmpN f h (m + 1) i j = 1 := by
  rw [cmpN_s, if_neg (fun e => by rw [e] at c; omega), if_neg (fun e => by have := Int32.lt_iff_toInt_lt.mp e; omega)]
theorem cmpN_eq {f h : Nat → Int32} {m i j : Nat} (c : f i = h j) : cmpN f h (m + 1) i j = cmpN f h m (i + 1) (j + 1) := by
  rw [cmpN_s, if_pos c]
/-- what the comparison of two rows answers, by their keys -/
theorem cmp4_tri (f h : Nat → Int32) (i j : Nat) : (cmp4 f i h j = -1 ∧ key (rowAt f i) < key (rowAt h j)) ∨ (cmp4 f i h j = 0 ∧ rowAt f i = rowAt h j) ∨ (cmp4 f i h j = 1 ∧ key (rowAt h j) < key (rowAt f i)) := by
  have p1 := i32_bd (f i); have p2 := i32_bd (f (i + 1)); have p3 := i32_bd (f (i + 2)); have p4 := i32_bd (f (i + 3))
  have q1 := i32_bd (h j); have q2 := i32_bd (h (j + 1)); have q3 := i32_bd (h (j + 2)); have q4 := i32_bd (h (j + 3))
  rcases i32_tri (f i) (h j) with c | c | c
  · exact Or.inl ⟨cmpN_lt c, by simp only [key, rowAt]; omega⟩
  · rcases i32_tri (f (i + 1)) (h (j + 1)) with c2 | c2 | c2
    · exact Or.inl ⟨(cmpN_eq c).trans (cmpN_lt c2), by simp only [key, rowAt, c]; omega⟩
    · rcases i32_tri (f (i + 2)) (h (j + 2)) with c3 | c3 | c3
      · exact Or.inl ⟨(cmpN_eq c).trans ((cmpN_eq c2).trans (cmpN_lt c3)), by simp only [key, rowAt, c, c2]; omega⟩
      · rcases i32_tri (f (i + 3)) (h (j + 3)) with c4 | c4 | c4
        · exact Or.inl ⟨(cmpN_eq c).trans ((cmpN_eq c2).trans ((cmpN_eq c3).trans (cmpN_lt c4))), by simp only [key, rowAt, c, c2, c3]; omega⟩
        · exact Or.inr (Or.inl ⟨(cmpN_eq c).trans ((cmpN_eq c2).trans ((cmpN_eq c3).trans (cmpN_eq c4))), by simp only [rowAt, c, c2, c3, c4]⟩)
        · exact Or.inr (Or.inr ⟨(cmpN_eq c).trans ((cmpN_eq c2).trans ((cmpN_eq c3).trans (cmpN_gt c4))), by simp only [key, rowAt, c, c2, c3]; omega⟩)
      · exact Or.inr (Or.inr ⟨(cmpN_eq c).trans ((cmpN_eq c2).trans (cmpN_gt c3)), by simp only [key, rowAt, c, c2]; omega⟩)
    · exact Or.inr (Or.inr ⟨(cmpN_eq c).trans (cmpN_gt c2), by simp only [key, rowAt, c]; omega⟩)
  · exact Or.inr (Or.inr ⟨cmpN_gt c, by simp only [key, rowAt]; omega⟩)
theorem cmp4_0 (f h : Nat → Int32) (i j : Nat) : cmp4 f i h j = 0 ↔ rowAt f i = rowAt h j := by
  rcases cmp4_tri f h i j with ⟨a, b⟩ | ⟨a, b⟩ | ⟨a, b⟩
  · rw [a]; exact ⟨fun q => absurd q (by decide), fun q => by rw [q] at b; omega⟩
  · exact ⟨fun _ => b, fun _ => a⟩
  · rw [a]; exact ⟨fun q => absurd q (by decide), fun q => by rw [q] at b; omega⟩
theorem cmp4_p (f h : Nat → Int32) (i j : Nat) : 0 < cmp4 f i h j ↔ key (rowAt h j) < key (rowAt f i) := by
  rcases cmp4_tri f h i j with ⟨a, b⟩ | ⟨a, b⟩ | ⟨a, b⟩
  · rw [a]; exact ⟨fun q => absurd q (by decide), fun q => by omega⟩
  · rw [a]; exact ⟨fun q => absurd q (by decide), fun q => by rw [b] at q; omega⟩
  · rw [a]; exact ⟨fun _ => b, fun _ => by decide⟩
/-! a bag: rows in their order, each with its times -/
abbrev Bg : Type := List (Row × Nat)
def srt (B : Bg) : Prop := ∀ i j : Nat, i < j → ∀ x y : Row × Nat, B[i]? = some x → B[j]? = some y → key x.1 < key y.1
/-- the cells f and the times t hold the bag B -/
def rep (f t : Nat → Int32) (B : Bg) : Prop := ∀ (k : Nat) (x : Row × Nat), B[k]? = some x → rowAt f (4 * k) = x.1 ∧ t k = nI x.2
def fine (B : Bg) : Prop := B.length ≤ 20 ∧ ∀ x ∈ B, 0 < x.2 ∧ x.2 ≤ 1000000000
/-- how many rows stand ahead of the row r -/
def plc (B : Bg) (r : Row) : Nat := (B.filter (fun x => decide (key x.1 < key r))).length
def tms (B : Bg) (r : Row) : Nat := match B[plc B r]? with
  | some x => if x.1 = r then x.2 else 0
  | none => 0
theorem plc_le (B : Bg) (r : Row) : plc B r ≤ B.length := List.length_filter_le _ _
theorem srt_tail {x : Row × Nat} {B : Bg} (h : srt (x :: B)) : srt B := fun i j hij a b ha hb => h (i + 1) (j + 1) (by omega) a b (by simpa using ha) (by simpa using hb)
theorem srt_head {x y : Row × Nat} {B : Bg} (h : srt (x :: B)) (hy : y ∈ B) : key x.1 < key y.1 := by
  obtain ⟨i, hi⟩ := List.getElem?_of_mem hy
  exact h 0 (i + 1) (by omega) x y (by simp) (by simpa using hi)
/-- a place with the lesser rows ahead and the others behind it is plc -/
theorem plc_of {B : Bg} {r : Row} : ∀ {q : Nat}, q ≤ B.length → (∀ (i : Nat) (x : Row × Nat), i < q → B[i]? = some x → key x.1 < key r) → (∀ (i : Nat) (x : Row × Nat), q ≤ i → B[i]? = some x → key r ≤ key x.1) → plc B r = q := by
  induction B with
  | nil => intro q hq _ _; simp at hq; subst hq; rfl
  | cons y B ih =>
    intro q hq h1 h2
    match q with
    | 0 =>
      have hy : ¬ key y.1 < key r := by have := h2 0 y (Nat.le_refl 0) (by simp); omega
      have := ih (q := 0) (Nat.zero_le _) (fun i x hi => absurd hi (by omega)) (fun i x _ hx => h2 (i + 1) x (by omega) (by simpa using hx))
      simp only [plc] at this ⊢
      rw [List.filter_cons_of_neg (by simpa using hy)]
      exact this
    | q + 1 =>
      have hy : key y.1 < key r := h1 0 y (by omega) (by simp)
      have := ih (q := q) (by simpa using hq) (fun i x hi hx => h1 (i + 1) x (by omega) (by simpa using hx)) (fun i x hi hx => h2 (i + 1) x (by omega) (by simpa using hx))
      simp only [plc] at this ⊢
      rw [List.filter_cons_of_pos (by simpa using hy)]
      simp [this]
theorem plc_split {B : Bg} (hs : srt B) (r : Row) : (∀ (i : Nat) (x : Row × Nat), i < plc B r → B[i]? = some x → key x.1 < key r) ∧ (∀ (i : Nat) (x : Row × Nat), plc B r ≤ i → B[i]? = some x → key r ≤ key x.1) := by
  induction B with
  | nil => exact ⟨fun i x _ h => by simp at h, fun i x _ h => by simp at h⟩
  | cons y B ih =>
    have h2 := ih (srt_tail hs)
    by_cases hy : key y.1 < key r
    · have e : plc (y :: B) r = plc B r + 1 := by simp only [plc]; rw [List.filter_cons_of_pos (by simpa using hy)]; rfl
      rw [e]
      refine ⟨fun i x hi hx => ?_, fun i x hi hx => ?_⟩
      · match i with
        | 0 => simp at hx; rw [← hx]; exact hy
        | i + 1 => exact h2.1 i x (by omega) (by simpa using hx)
      · match i with
        | 0 => omega
        | i + 1 => exact h2.2 i x (by omega) (by simpa using hx)
    · have hz : ∀ x ∈ B, ¬ key x.1 < key r := fun x hx => by have := srt_head hs hx; omega
      have e : plc (y :: B) r = 0 := by
        simp only [plc]; rw [List.filter_cons_of_neg (by simpa using hy), List.filter_eq_nil_iff.mpr (fun x hx => by simpa using hz x hx)]; rfl
      rw [e]
      refine ⟨fun i x hi => absurd hi (by omega), fun i x _ hx => ?_⟩
      match i with
      | 0 => simp at hx; rw [← hx]; omega
      | i + 1 => have := hz x (List.mem_of_getElem? (by simpa using hx)); omega
/-- the row's times, added to by m: none where the bounds are passed -/
def addB (r : Row) (m : Int) (B : Bg) : Option Bg :=
  match B[plc B r]? with
  | some x => if x.1 = r then (if 1000000000 < (x.2 : Int) + m then none else if (x.2 : Int) + m ≤ 0 then some (B.eraseIdx (plc B r)) else some (B.set (plc B r) (r, ((x.2 : Int) + m).toNat)))
    else if m ≤ 0 then some B else if 20 ≤ B.length ∨ 1000000000 < m then none else some (B.insertIdx (plc B r) (r, m.toNat))
  | none => if m ≤ 0 then some B else if 20 ≤ B.length ∨ 1000000000 < m then none else some (B.insertIdx (plc B r) (r, m.toNat))
end
section
/-- nothing but the cells at ad has changed -/
def Fr (g g' : Wd) (ad : List Nat) : Prop := ∀ q, q ∉ ad → g' q = g q
theorem Fr.rf (g : Wd) (ad : List Nat) : Fr g g ad := fun _ _ => rfl
theorem Fr.tr {g g' g'' : Wd} {ad : List Nat} (h : Fr g g' ad) (h2 : Fr g' g'' ad) : Fr g g'' ad := fun q hq => (h2 q hq).trans (h q hq)
theorem Fr.mono {g g' : Wd} {ad ad' : List Nat} (h : Fr g g' ad) (hs : ∀ q ∈ ad, q ∈ ad') : Fr g g' ad' := fun q hq => h q (fun x => hq (hs q x))
theorem Fr.at {g g' : Wd} {ad : List Nat} {q : Nat} {e : Option va_E} (h : Fr g g' ad) (hg : g q = e) (hq : q ∉ ad) : g' q = e := (h q hq).trans hg
def sumL (t : Nat → Int32) : Nat → Int64
  | 0 => 0
  | n + 1 => sumL t n + (t n).toInt64
theorem nI_p1 (a : Nat) : nI a + nI 1 = nI (a + 1) := nI_add a 1
set_option maxRecDepth 20000 in
set_option maxHeartbeats 600000 in
/-- clear() -/
theorem c_X0_clear (l : Launch) (K : Cst) (g : Wd) (b ca oa n : Nat) (cf tf : Nat → Int32) (hB : isBag K g b ca oa n cf tf) : Ct l K yX0_clear cX0_clear 1 none 0 [.ref b] g (fun v g' => v = none ∧ isBag K g' b ca oa 0 cf tf ∧ Fr g g' [b]) (fun _ _ => False) 0 0 := by
  refine ct_of (by decide) (Nat.le_of_ble_eq_true rfl) ?_
  intro X hl hK hX hE hn hL hR hm
  subst hl; subst hK
  show J X 0 0 g 0 [(0, .ref b)] []
  refine j_aload_n hX dX0_clear_0 0 rfl ?_
  refine j_iconst (v := nI 0) hX dX0_clear_1 (by decide) ?_
  refine j_put hX hB.1 rfl wf_X0 tyX0_ok nmX0 2 (by decide) lk_X0_18 (fun _ h => h) rfl (tyX0_ok 2 (by decide)) rfl rfl (Nat.le_of_ble_eq_true rfl) dX0_clear_2 ?_
  obtain ⟨g1, eg1⟩ : ∃ z : Wd, z = up g b (ob 0 [.ref ca, .ref oa, .int (nI 0)]) := ⟨_, rfl⟩
  refine j_w eg1.symm ?_
  have k1_b : g1 b = some (ob 0 [.ref ca, .ref oa, .int (nI 0)]) := by rw [eg1]; exact up_s _ _ _
  have k1_ca := (congrFun eg1 ca).trans ((up_n (by first | exact ne_ob (hB.2.1) (hB.1) (by first | simp | decide | (intro h9; cases h9) | (simp only [ne_eq]; intro h9; injection h9 with h8; simp at h8)) | assumption | (apply Ne.symm; assumption))).trans (hB.2.1))
  have k1_oa := (congrFun eg1 oa).trans ((up_n (by first | exact ne_ob (hB.2.2) (hB.1) (by first | simp | decide | (intro h9; cases h9) | (simp only [ne_eq]; intro h9; injection h9 with h8; simp at h8)) | assumption | (apply Ne.symm; assumption))).trans (hB.2.2))
  exact j_vret hX hE dX0_clear_5 (⟨rfl, ⟨k1_b, k1_ca, k1_oa⟩, fun q hq => by rw [eg1, up_n (by simpa using hq)]⟩) (by decide) (by decide)

set_option maxRecDepth 20000 in
set_option maxHeartbeats 600000 in
/-- readRow(k, row) -/
theorem c_X0_readRow (l : Launch) (K : Cst) (g : Wd) (b ca oa n : Nat) (cf tf : Nat → Int32) (hB : isBag K g b ca oa n cf tf) (ra : Nat) (rf : Nat → Int32) (hr : g ra = some (aI K 4 rf)) (k : Nat) (hk : k < 20) : Ct l K yX0_readRow cX0_readRow 3 none 1 [.ref b, .int (nI k), .ref ra] g (fun v g' => v = none ∧ g' ra = some (aI K 4 (va_cpy cf rf (4 * k) 0 4)) ∧ Fr g g' [ra]) (fun _ _ => False) 0 0 := by
  refine ct_of (by decide) (Nat.le_of_ble_eq_true rfl) ?_
  intro X hl hK hX hE hn hL hR hm
  subst hl; subst hK
  show J X 0 0 g 0 [(0, .ref b), (1, .int (nI k)), (2, .ref ra)] []
  refine j_aload_n hX dX0_readRow_0 0 rfl ?_
  refine j_get (v := .ref ca) hX hB.1 rfl wf_X0 0 (by decide) lk_X0_9 (fun _ h => h) rfl dX0_readRow_1 ?_
  refine j_iload_n hX dX0_readRow_4 1 rfl ?_
  refine j_iconst (v := 4) hX dX0_readRow_5 (by decide) ?_
  refine j_imul hX dX0_readRow_6 ?_
  refine j_eqi (y := nI (4 * k)) (ix4' k) ?_
  refine j_aload_n hX dX0_readRow_7 2 rfl ?_
  refine j_iconst (v := nI 0) hX dX0_readRow_8 (by decide) ?_
  refine j_iconst (v := nI 4) hX dX0_readRow_9 (by decide) ?_
  refine j_copyN hX lk_X0_22 hB.2.1 hr (4 * k) (0) (4) (rfl) (rfl) (rfl) (by omega) (by omega) (by decide) (by decide) (by rw [hL]; decide) (by decide) dX0_readRow_10 ?_
  obtain ⟨g1, eg1⟩ : ∃ z : Wd, z = up g ra (aI (xK X) 4 (va_cpy cf rf (4 * k) (0) (4))) := ⟨_, rfl⟩
  refine j_w eg1.symm ?_
  have k1_b := (congrFun eg1 b).trans ((up_n (by first | exact ne_ob (hB.1) (hr) (by first | simp | decide | (intro h9; cases h9) | (simp only [ne_eq]; intro h9; injection h9 with h8; simp at h8)) | assumption | (apply Ne.symm; assumption))).trans (hB.1))
  have k1_ca := (congrFun eg1 ca).trans ((up_n (by first | exact ne_ob (hB.2.1) (hr) (by first | simp | decide | (intro h9; cases h9) | (simp only [ne_eq]; intro h9; injection h9 with h8; simp at h8)) | assumption | (apply Ne.symm; assumption))).trans (hB.2.1))
  have k1_oa := (congrFun eg1 oa).trans ((up_n (by first | exact ne_ob (hB.2.2) (hr) (by first | simp | decide | (intro h9; cases h9) | (simp only [ne_eq]; intro h9; injection h9 with h8; simp at h8)) | assumption | (apply Ne.symm; assumption))).trans (hB.2.2))
  have k1_ra : g1 ra = some (aI (xK X) 4 (va_cpy cf rf (4 * k) (0) (4))) := by rw [eg1]; exact up_s _ _ _
  exact j_vret hX hE dX0_readRow_13 (⟨rfl, k1_ra, fun q hq => by rw [eg1, up_n (by simpa using hq)]⟩) (by decide) (by decide)

set_option maxRecDepth 20000 in
set_option maxHeartbeats 600000 in
/-- copyFrom(other) -/
theorem c_X0_copyFrom (l : Launch) (K : Cst) (g : Wd) (b ca oa n : Nat) (cf tf : Nat → Int32) (hB : isBag K g b ca oa n cf tf) (b2 ca2 oa2 n2 : Nat) (cf2 tf2 : Nat → Int32) (hB2 : isBag K g b2 ca2 oa2 n2 cf2 tf2) (nb : b2 ≠ b) (nca : ca2 ≠ ca) (noa : oa2 ≠ oa) : Ct l K yX0_copyFrom cX0_copyFrom 2 none 1 [.ref b, .ref b2] g (fun v g' => v = none ∧ isBag K g' b ca oa n2 (va_cpy cf2 cf 0 0 80) (va_cpy tf2 tf 0 0 20) ∧ Fr g g' [b, ca, oa]) (fun _ _ => False) 0 0 := by
  refine ct_of (by decide) (Nat.le_of_ble_eq_true rfl) ?_
  intro X hl hK hX hE hn hL hR hm
  subst hl; subst hK
  show J X 0 0 g 0 [(0, .ref b), (1, .ref b2)] []
  refine j_aload_n hX dX0_copyFrom_0 1 rfl ?_
  refine j_get (v := .ref ca2) hX hB2.1 rfl wf_X0 0 (by decide) lk_X0_9 (fun _ h => h) rfl dX0_copyFrom_1 ?_
  refine j_iconst (v := nI 0) hX dX0_copyFrom_4 (by decide) ?_
  refine j_aload_n hX dX0_copyFrom_5 0 rfl ?_
  refine j_get (v := .ref ca) hX hB.1 rfl wf_X0 0 (by decide) lk_X0_9 (fun _ h => h) rfl dX0_copyFrom_6 ?_
  refine j_iconst (v := nI 0) hX dX0_copyFrom_9 (by decide) ?_
  refine j_aload_n hX dX0_copyFrom_10 0 rfl ?_
  refine j_get (v := .ref ca) hX hB.1 rfl wf_X0 0 (by decide) lk_X0_9 (fun _ h => h) rfl dX0_copyFrom_11 ?_
  refine j_alenI hX hB.2.1 dX0_copyFrom_14 ?_
  refine j_copyN hX lk_X0_22 hB2.2.1 hB.2.1 (0) (0) (80) (rfl) (rfl) (rfl) (by omega) (by omega) (by decide) (by decide) (by rw [hL]; decide) (by decide) dX0_copyFrom_15 ?_
  obtain ⟨g1, eg1⟩ : ∃ z : Wd, z = up g ca (aI (xK X) 80 (va_cpy cf2 cf (0) (0) (80))) := ⟨_, rfl⟩
  refine j_w eg1.symm ?_
  have k1_b := (congrFun eg1 b).trans ((up_n (by first | exact ne_ob (hB.1) (hB.2.1) (by first | simp | decide | (intro h9; cases h9) | (simp only [ne_eq]; intro h9; injection h9 with h8; simp at h8)) | assumption | (apply Ne.symm; assumption))).trans (hB.1))
  have k1_ca : g1 ca = some (aI (xK X) 80 (va_cpy cf2 cf (0) (0) (80))) := by rw [eg1]; exact up_s _ _ _
  have k1_oa := (congrFun eg1 oa).trans ((up_n (by first | exact ne_ob (hB.2.2) (hB.2.1) (by first | simp | decide | (intro h9; cases h9) | (simp only [ne_eq]; intro h9; injection h9 with h8; simp at h8)) | assumption | (apply Ne.symm; assumption))).trans (hB.2.2))
  have k1_b2 := (congrFun eg1 b2).trans ((up_n (by first | exact ne_ob (hB2.1) (hB.2.1) (by first | simp | decide | (intro h9; cases h9) | (simp only [ne_eq]; intro h9; injection h9 with h8; simp at h8)) | assumption | (apply Ne.symm; assumption))).trans (hB2.1))
  have k1_ca2 := (congrFun eg1 ca2).trans ((up_n (nca)).trans (hB2.2.1))
  have k1_oa2 := (congrFun eg1 oa2).trans ((up_n (by first | exact ne_ob (hB2.2.2) (hB.2.1) (by first | simp | decide | (intro h9; cases h9) | (simp only [ne_eq]; intro h9; injection h9 with h8; simp at h8)) | assumption | (apply Ne.symm; assumption))).trans (hB2.2.2))
  refine j_aload_n hX dX0_copyFrom_18 1 rfl ?_
  refine j_get (v := .ref oa2) hX k1_b2 rfl wf_X0 1 (by decide) lk_X0_15 (fun _ h => h) rfl dX0_copyFrom_19 ?_
  refine j_iconst (v := nI 0) hX dX0_copyFrom_22 (by decide) ?_
  refine j_aload_n hX dX0_copyFrom_23 0 rfl ?_
  refine j_get (v := .ref oa) hX k1_b rfl wf_X0 1 (by decide) lk_X0_15 (fun _ h => h) rfl dX0_copyFrom_24 ?_
  refine j_iconst (v := nI 0) hX dX0_copyFrom_27 (by decide) ?_
  refine j_aload_n hX dX0_copyFrom_28 0 rfl ?_
  refine j_get (v := .ref oa) hX k1_b rfl wf_X0 1 (by decide) lk_X0_15 (fun _ h => h) rfl dX0_copyFrom_29 ?_
  refine j_alenI hX k1_oa dX0_copyFrom_32 ?_
  refine j_copyN hX lk_X0_22 k1_oa2 k1_oa (0) (0) (20) (rfl) (rfl) (rfl) (by omega) (by omega) (by decide) (by decide) (by rw [hL]; decide) (by decide) dX0_copyFrom_33 ?_
  obtain ⟨g2, eg2⟩ : ∃ z : Wd, z = up g1 oa (aI (xK X) 20 (va_cpy tf2 tf (0) (0) (20))) := ⟨_, rfl⟩
  refine j_w eg2.symm ?_
  have k2_b := (congrFun eg2 b).trans ((up_n (by first | exact ne_ob (k1_b) (k1_oa) (by first | simp | decide | (intro h9; cases h9) | (simp only [ne_eq]; intro h9; injection h9 with h8; simp at h8)) | assumption | (apply Ne.symm; assumption))).trans (k1_b))
  have k2_ca := (congrFun eg2 ca).trans ((up_n (by first | exact ne_ob (k1_ca) (k1_oa) (by first | simp | decide | (intro h9; cases h9) | (simp only [ne_eq]; intro h9; injection h9 with h8; simp at h8)) | assumption | (apply Ne.symm; assumption))).trans (k1_ca))
  have k2_oa : g2 oa = some (aI (xK X) 20 (va_cpy tf2 tf (0) (0) (20))) := by rw [eg2]; exact up_s _ _ _
  have k2_b2 := (congrFun eg2 b2).trans ((up_n (by first | exact ne_ob (k1_b2) (k1_oa) (by first | simp | decide | (intro h9; cases h9) | (simp only [ne_eq]; intro h9; injection h9 with h8; simp at h8)) | assumption | (apply Ne.symm; assumption))).trans (k1_b2))
  have k2_ca2 := (congrFun eg2 ca2).trans ((up_n (by first | exact ne_ob (k1_ca2) (k1_oa) (by first | simp | decide | (intro h9; cases h9) | (simp only [ne_eq]; intro h9; injection h9 with h8; simp at h8)) | assumption | (apply Ne.symm; assumption))).trans (k1_ca2))
  have k2_oa2 := (congrFun eg2 oa2).trans ((up_n (noa)).trans (k1_oa2))
  refine j_aload_n hX dX0_copyFrom_36 0 rfl ?_
  refine j_aload_n hX dX0_copyFrom_37 1 rfl ?_
  refine j_get (v := .int (nI n2)) hX k2_b2 rfl wf_X0 2 (by decide) lk_X0_18 (fun _ h => h) rfl dX0_copyFrom_38 ?_
  refine j_put hX k2_b rfl wf_X0 tyX0_ok nmX0 2 (by decide) lk_X0_18 (fun _ h => h) rfl (tyX0_ok 2 (by decide)) rfl rfl (Nat.le_of_ble_eq_true rfl) dX0_copyFrom_41 ?_
  obtain ⟨g3, eg3⟩ : ∃ z : Wd, z = up g2 b (ob 0 [.ref ca, .ref oa, .int (nI n2)]) := ⟨_, rfl⟩
  refine j_w eg3.symm ?_
  have k3_b : g3 b = some (ob 0 [.ref ca, .ref oa, .int (nI n2)]) := by rw [eg3]; exact up_s _ _ _
  have k3_ca := (congrFun eg3 ca).trans ((up_n (by first | exact ne_ob (k2_ca) (k2_b) (by first | simp | decide | (intro h9; cases h9) | (simp only [ne_eq]; intro h9; injection h9 with h8; simp at h8)) | assumption | (apply Ne.symm; assumption))).trans (k2_ca))
  have k3_oa := (congrFun eg3 oa).trans ((up_n (by first | exact ne_ob (k2_oa) (k2_b) (by first | simp | decide | (intro h9; cases h9) | (simp only [ne_eq]; intro h9; injection h9 with h8; simp at h8)) | assumption | (apply Ne.symm; assumption))).trans (k2_oa))
  have k3_b2 := (congrFun eg3 b2).trans ((up_n (nb)).trans (k2_b2))
  have k3_ca2 := (congrFun eg3 ca2).trans ((up_n (by first | exact ne_ob (k2_ca2) (k2_b) (by first | simp | decide | (intro h9; cases h9) | (simp only [ne_eq]; intro h9; injection h9 with h8; simp at h8)) | assumption | (apply Ne.symm; assumption))).trans (k2_ca2))
  have k3_oa2 := (congrFun eg3 oa2).trans ((up_n (by first | exact ne_ob (k2_oa2) (k2_b) (by first | simp | decide | (intro h9; cases h9) | (simp only [ne_eq]; intro h9; injection h9 with h8; simp at h8)) | assumption | (apply Ne.symm; assumption))).trans (k2_oa2))
  exact j_vret hX hE dX0_copyFrom_44 (⟨rfl, ⟨k3_b, k3_ca, k3_oa⟩, fun q hq => by simp only [List.mem_cons, List.not_mem_nil, or_false, not_or] at hq; rw [eg3, up_n hq.1, eg2, up_n hq.2.2, eg1, up_n hq.2.1]⟩) (by decide) (by decide)

set_option maxRecDepth 20000 in
set_option maxHeartbeats 600000 in
/-- allTimes() -/
theorem c_X0_allTimes (l : Launch) (K : Cst) (g : Wd) (b ca oa n : Nat) (cf tf : Nat → Int32) (hB : isBag K g b ca oa n cf tf) (hn20 : n ≤ 20) : Ct l K yX0_allTimes cX0_allTimes 4 (some .long) 0 [.ref b] g (fun v g' => v = some (.long (sumL tf n)) ∧ g = g') (fun _ _ => False) 0 0 := by
  refine ct_of (by decide) (Nat.le_of_ble_eq_true rfl) ?_
  intro X hl hK hX hE hn hL hR hm
  subst hl; subst hK
  show J X 0 0 g 0 [(0, .ref b)] []
  have loop : ∀ (m k : Nat), k + m = n → J X 0 0 g 4 [(3, .int (nI k)), (1, .long (sumL tf k)), (0, .ref b)] [] := by
    intro m
    induction m with
    | zero =>
      intro k hk
      refine j_iload_n hX dX0_allTimes_4 0 rfl ?_
      refine j_aload_n hX dX0_allTimes_5 2 rfl ?_
      refine j_get (v := .int (nI n)) hX hB.1 rfl wf_X0 2 (by decide) lk_X0_18 (fun _ h => h) rfl dX0_allTimes_6 ?_
      refine j_icmp_ge hX 28 dX0_allTimes_9 (by decide) (fun _ => ?_) (fun c_9 => absurd (nI_le (a := n) (b := k) (by omega) (by omega)) c_9)
      refine j_lload_n hX dX0_allTimes_28 1 rfl ?_
      exact j_lret hX hE dX0_allTimes_29 (⟨by rw [show k = n by omega], rfl⟩) (by decide) (by decide)
    | succ m ih =>
      intro k hk
      refine j_iload_n hX dX0_allTimes_4 0 rfl ?_
      refine j_aload_n hX dX0_allTimes_5 2 rfl ?_
      refine j_get (v := .int (nI n)) hX hB.1 rfl wf_X0 2 (by decide) lk_X0_18 (fun _ h => h) rfl dX0_allTimes_6 ?_
      refine j_icmp_ge hX 28 dX0_allTimes_9 (by decide) (fun c_9 => absurd c_9 (nI_ge (a := k) (b := n) (by omega) (by omega))) (fun _ => ?_)
      refine j_lload_n hX dX0_allTimes_12 1 rfl ?_
      refine j_aload_n hX dX0_allTimes_13 2 rfl ?_
      refine j_get (v := .ref oa) hX hB.1 rfl wf_X0 1 (by decide) lk_X0_15 (fun _ h => h) rfl dX0_allTimes_14 ?_
      refine j_iload_n hX dX0_allTimes_17 0 rfl ?_
      refine j_ialdN hX hB.2.2 (k) (rfl) (by omega) (by decide) dX0_allTimes_18 ?_
      refine j_i2l hX dX0_allTimes_19 ?_
      refine j_ladd hX dX0_allTimes_20 ?_
      refine j_eql (y := sumL tf (k + 1)) (rfl) ?_
      refine j_lstore_n (lv' := [(1, .long (sumL tf (k + 1))), (3, .int (nI k)), (0, .ref b)]) hX dX0_allTimes_21 (by rw [hn]; decide) rfl ?_
      refine j_iinc (v := nI (k + 1)) (lv' := [(3, .int (nI (k + 1))), (1, .long (sumL tf (k + 1))), (0, .ref b)]) hX dX0_allTimes_22 1 rfl (nI_1 k) (by rw [hn]; decide) rfl ?_
      refine j_goto hX 4 dX0_allTimes_25 (by decide) ?_
      refine j_sub [0, 1, 2] rfl ?_
      exact ih (k + 1) (by omega)
  refine j_lconst (v := 0) hX dX0_allTimes_0 (by decide) ?_
  refine j_lstore_n (lv' := [(1, .long 0), (0, .ref b)]) hX dX0_allTimes_1 (by rw [hn]; decide) rfl ?_
  refine j_iconst (v := nI 0) hX dX0_allTimes_2 (by decide) ?_
  refine j_istore_n (lv' := [(3, .int (nI 0)), (1, .long 0), (0, .ref b)]) hX dX0_allTimes_3 (by rw [hn]; decide) rfl ?_
  exact loop n 0 (by omega)

set_option maxRecDepth 20000 in
set_option maxHeartbeats 600000 in
/-- remove(k) -/
theorem c_X0_remove (l : Launch) (K : Cst) (g : Wd) (b ca oa n : Nat) (cf tf : Nat → Int32) (hB : isBag K g b ca oa n cf tf) (k : Nat) (hk : k < n) (hn20 : n ≤ 20) : Ct l K yX0_remove cX0_remove 4 none 1 [.ref b, .int (nI k)] g (fun v g' => v = none ∧ isBag K g' b ca oa (n - 1) (va_cpy cf cf (4 * k + 4) (4 * k) (4 * (n - 1 - k))) (va_cpy tf tf (k + 1) k (n - 1 - k)) ∧ Fr g g' [b, ca, oa]) (fun _ _ => False) 0 0 := by
  refine ct_of (by decide) (Nat.le_of_ble_eq_true rfl) ?_
  intro X hl hK hX hE hn hL hR hm
  subst hl; subst hK
  show J X 0 0 g 0 [(0, .ref b), (1, .int (nI k))] []
  refine j_aload_n hX dX0_remove_0 0 rfl ?_
  refine j_get (v := .int (nI n)) hX hB.1 rfl wf_X0 2 (by decide) lk_X0_18 (fun _ h => h) rfl dX0_remove_1 ?_
  refine j_iload_n hX dX0_remove_4 1 rfl ?_
  refine j_isub hX dX0_remove_5 ?_
  refine j_iconst (v := 1) hX dX0_remove_6 (by decide) ?_
  refine j_isub hX dX0_remove_7 ?_
  refine j_eqi (y := nI (n - 1 - k)) (by rw [pk_sub (by omega), nI_m1 (by omega)]; exact congrArg nI (by omega)) ?_
  refine j_istore_n (lv' := [(2, .int (nI (n - 1 - k))), (0, .ref b), (1, .int (nI k))]) hX dX0_remove_8 (by rw [hn]; decide) rfl ?_
  refine j_iload_n hX dX0_remove_9 2 rfl ?_
  refine j_iconst (v := 4) hX dX0_remove_10 (by decide) ?_
  refine j_imul hX dX0_remove_11 ?_
  refine j_eqi (y := nI (4 * k)) (ix4' k) ?_
  refine j_istore_n (lv' := [(3, .int (nI (4 * k))), (2, .int (nI (n - 1 - k))), (0, .ref b), (1, .int (nI k))]) hX dX0_remove_12 (by rw [hn]; decide) rfl ?_
  refine j_aload_n hX dX0_remove_13 2 rfl ?_
  refine j_get (v := .ref ca) hX hB.1 rfl wf_X0 0 (by decide) lk_X0_9 (fun _ h => h) rfl dX0_remove_14 ?_
  refine j_iload_n hX dX0_remove_17 0 rfl ?_
  refine j_iconst (v := nI 4) hX dX0_remove_18 (by decide) ?_
  refine j_iadd hX dX0_remove_19 ?_
  refine j_eqi (y := nI (4 * k + 4)) (nI_add _ _) ?_
  refine j_aload_n hX dX0_remove_20 2 rfl ?_
  refine j_get (v := .ref ca) hX hB.1 rfl wf_X0 0 (by decide) lk_X0_9 (fun _ h => h) rfl dX0_remove_21 ?_
  refine j_iload_n hX dX0_remove_24 0 rfl ?_
  refine j_iload_n hX dX0_remove_25 1 rfl ?_
  refine j_iconst (v := 4) hX dX0_remove_26 (by decide) ?_
  refine j_imul hX dX0_remove_27 ?_
  refine j_eqi (y := nI (4 * (n - 1 - k))) (ix4' _) ?_
  refine j_copyN hX lk_X0_22 hB.2.1 hB.2.1 (4 * k + 4) (4 * k) (4 * (n - 1 - k)) (rfl) (rfl) (rfl) (by omega) (by omega) (by decide) (by decide) (by rw [hL]; decide) (by decide) dX0_remove_28 ?_
  obtain ⟨g1, eg1⟩ : ∃ z : Wd, z = up g ca (aI (xK X) 80 (va_cpy cf cf (4 * k + 4) (4 * k) (4 * (n - 1 - k)))) := ⟨_, rfl⟩
  refine j_w eg1.symm ?_
  have k1_b := (congrFun eg1 b).trans ((up_n (by first | exact ne_ob (hB.1) (hB.2.1) (by first | simp | decide | (intro h9; cases h9) | (simp only [ne_eq]; intro h9; injection h9 with h8; simp at h8)) | assumption | (apply Ne.symm; assumption))).trans (hB.1))
  have k1_ca : g1 ca = some (aI (xK X) 80 (va_cpy cf cf (4 * k + 4) (4 * k) (4 * (n - 1 - k)))) := by rw [eg1]; exact up_s _ _ _
  have k1_oa := (congrFun eg1 oa).trans ((up_n (by first | exact ne_ob (hB.2.2) (hB.2.1) (by first | simp | decide | (intro h9; cases h9) | (simp only [ne_eq]; intro h9; injection h9 with h8; simp at h8)) | assumption | (apply Ne.symm; assumption))).trans (hB.2.2))
  refine j_aload_n hX dX0_remove_31 2 rfl ?_
  refine j_get (v := .ref oa) hX k1_b rfl wf_X0 1 (by decide) lk_X0_15 (fun _ h => h) rfl dX0_remove_32 ?_
  refine j_iload_n hX dX0_remove_35 3 rfl ?_
  refine j_iconst (v := nI 1) hX dX0_remove_36 (by decide) ?_
  refine j_iadd hX dX0_remove_37 ?_
  refine j_eqi (y := nI (k + 1)) (nI_add _ _) ?_
  refine j_aload_n hX dX0_remove_38 2 rfl ?_
  refine j_get (v := .ref oa) hX k1_b rfl wf_X0 1 (by decide) lk_X0_15 (fun _ h => h) rfl dX0_remove_39 ?_
  refine j_iload_n hX dX0_remove_42 3 rfl ?_
  refine j_iload_n hX dX0_remove_43 1 rfl ?_
  refine j_copyN hX lk_X0_22 k1_oa k1_oa (k + 1) (k) (n - 1 - k) (rfl) (rfl) (rfl) (by omega) (by omega) (by decide) (by decide) (by rw [hL]; decide) (by decide) dX0_remove_44 ?_
  obtain ⟨g2, eg2⟩ : ∃ z : Wd, z = up g1 oa (aI (xK X) 20 (va_cpy tf tf (k + 1) (k) (n - 1 - k))) := ⟨_, rfl⟩
  refine j_w eg2.symm ?_
  have k2_b := (congrFun eg2 b).trans ((up_n (by first | exact ne_ob (k1_b) (k1_oa) (by first | simp | decide | (intro h9; cases h9) | (simp only [ne_eq]; intro h9; injection h9 with h8; simp at h8)) | assumption | (apply Ne.symm; assumption))).trans (k1_b))
  have k2_ca := (congrFun eg2 ca).trans ((up_n (by first | exact ne_ob (k1_ca) (k1_oa) (by first | simp | decide | (intro h9; cases h9) | (simp only [ne_eq]; intro h9; injection h9 with h8; simp at h8)) | assumption | (apply Ne.symm; assumption))).trans (k1_ca))
  have k2_oa : g2 oa = some (aI (xK X) 20 (va_cpy tf tf (k + 1) (k) (n - 1 - k))) := by rw [eg2]; exact up_s _ _ _
  refine j_aload_n hX dX0_remove_47 2 rfl ?_
  refine j_dup hX dX0_remove_48 rfl ?_
  refine j_get (v := .int (nI n)) hX k2_b rfl wf_X0 2 (by decide) lk_X0_18 (fun _ h => h) rfl dX0_remove_49 ?_
  refine j_iconst (v := 1) hX dX0_remove_52 (by decide) ?_
  refine j_isub hX dX0_remove_53 ?_
  refine j_eqi (y := nI (n - 1)) (nI_m1 (by omega)) ?_
  refine j_put hX k2_b rfl wf_X0 tyX0_ok nmX0 2 (by decide) lk_X0_18 (fun _ h => h) rfl (tyX0_ok 2 (by decide)) rfl rfl (Nat.le_of_ble_eq_true rfl) dX0_remove_54 ?_
  obtain ⟨g3, eg3⟩ : ∃ z : Wd, z = up g2 b (ob 0 [.ref ca, .ref oa, .int (nI (n - 1))]) := ⟨_, rfl⟩
  refine j_w eg3.symm ?_
  have k3_b : g3 b = some (ob 0 [.ref ca, .ref oa, .int (nI (n - 1))]) := by rw [eg3]; exact up_s _ _ _
  have k3_ca := (congrFun eg3 ca).trans ((up_n (by first | exact ne_ob (k2_ca) (k2_b) (by first | simp | decide | (intro h9; cases h9) | (simp only [ne_eq]; intro h9; injection h9 with h8; simp at h8)) | assumption | (apply Ne.symm; assumption))).trans (k2_ca))
  have k3_oa := (congrFun eg3 oa).trans ((up_n (by first | exact ne_ob (k2_oa) (k2_b) (by first | simp | decide | (intro h9; cases h9) | (simp only [ne_eq]; intro h9; injection h9 with h8; simp at h8)) | assumption | (apply Ne.symm; assumption))).trans (k2_oa))
  exact j_vret hX hE dX0_remove_57 (⟨rfl, ⟨k3_b, k3_ca, k3_oa⟩, fun q hq => by simp only [List.mem_cons, List.not_mem_nil, or_false, not_or] at hq; rw [eg3, up_n hq.1, eg2, up_n hq.2.2, eg1, up_n hq.2.1]⟩) (by decide) (by decide)

set_option maxRecDepth 20000 in
set_option maxHeartbeats 600000 in
/-- setTimes(k, m) -/
theorem c_X0_setTimes (l : Launch) (K : Cst) (g : Wd) (b ca oa n : Nat) (cf tf : Nat → Int32) (hB : isBag K g b ca oa n cf tf) (k : Nat) (m : Int64) (hk : k < n) (hn20 : n ≤ 20) : Ct l K yX0_setTimes cX0_setTimes 4 (some .boolean) 2 [.ref b, .int (nI k), .long m] g (fun v g' => (1000000000 < m ∧ v = some (.int 0) ∧ g = g') ∨ (m ≤ 0 ∧ v = some (.int 1) ∧ isBag K g' b ca oa (n - 1) (va_cpy cf cf (4 * k + 4) (4 * k) (4 * (n - 1 - k))) (va_cpy tf tf (k + 1) k (n - 1 - k)) ∧ Fr g g' [b, ca, oa]) ∨ (0 < m ∧ m ≤ 1000000000 ∧ v = some (.int 1) ∧ isBag K g' b ca oa n cf (upd tf k m.toInt32) ∧ Fr g g' [b, ca, oa])) (fun _ _ => False) 0 0 := by
  refine ct_of (by decide) (Nat.le_of_ble_eq_true rfl) ?_
  intro X hl hK hX hE hn hL hR hm
  subst hl; subst hK
  show J X 0 0 g 0 [(0, .ref b), (1, .int (nI k)), (2, .long m)] []
  refine j_lload_n hX dX0_setTimes_0 2 rfl ?_
  refine j_ldc2 (v := 1000000000) hX lk_X0_48 dX0_setTimes_1 ?_
  refine j_lcmp hX dX0_setTimes_4 ?_
  refine j_if_le hX 10 dX0_setTimes_5 (by decide) (fun c_5 => ?_) (fun c_5 => ?_)
  · have c5 := (lg_cmp_le _ _).mp c_5
    refine j_lload_n hX dX0_setTimes_10 2 rfl ?_
    refine j_lconst (v := 0) hX dX0_setTimes_11 (by decide) ?_
    refine j_lcmp hX dX0_setTimes_12 ?_
    refine j_if_gt hX 24 dX0_setTimes_13 (by decide) (fun c_13 => ?_) (fun c_13 => ?_)
    · have c13 := (lg_cmp_gt _ _).mp c_13
      refine j_aload_n hX dX0_setTimes_24 0 rfl ?_
      refine j_get (v := .ref oa) hX hB.1 rfl wf_X0 1 (by decide) lk_X0_15 (fun _ h => h) rfl dX0_setTimes_25 ?_
      refine j_iload_n hX dX0_setTimes_28 1 rfl ?_
      refine j_lload_n hX dX0_setTimes_29 2 rfl ?_
      refine j_l2i hX dX0_setTimes_30 ?_
      refine j_iastN hX hB.2.2 (k) (rfl) (by omega) (by decide) dX0_setTimes_31 ?_
      obtain ⟨g1, eg1⟩ : ∃ z : Wd, z = up g oa (aI (xK X) 20 (upd tf (k) m.toInt32)) := ⟨_, rfl⟩
      refine j_w eg1.symm ?_
      have k1_b := (congrFun eg1 b).trans ((up_n (by first | exact ne_ob (hB.1) (hB.2.2) (by first | simp | decide | (intro h9; cases h9) | (simp only [ne_eq]; intro h9; injection h9 with h8; simp at h8)) | assumption | (apply Ne.symm; assumption))).trans (hB.1))
      have k1_ca := (congrFun eg1 ca).trans ((up_n (by first | exact ne_ob (hB.2.1) (hB.2.2) (by first | simp | decide | (intro h9; cases h9) | (simp only [ne_eq]; intro h9; injection h9 with h8; simp at h8)) | assumption | (apply Ne.symm; assumption))).trans (hB.2.1))
      have k1_oa : g1 oa = some (aI (xK X) 20 (upd tf (k) m.toInt32)) := by rw [eg1]; exact up_s _ _ _
      refine j_iconst (v := 1) hX dX0_setTimes_32 (by decide) ?_
      exact j_zret hX hE dX0_setTimes_33 (by first | rfl | decide | assumption) (Or.inr (Or.inr ⟨c13, c5, rfl, ⟨k1_b, k1_ca, k1_oa⟩, fun q hq => by simp only [List.mem_cons, List.not_mem_nil, or_false, not_or] at hq; rw [eg1, up_n hq.2.2]⟩)) (by decide) (by decide)
    · have c13 : m ≤ 0 := Int64.not_lt.mp (fun q => c_13 ((lg_cmp_gt _ _).mpr q))
      refine j_aload_n hX dX0_setTimes_16 0 rfl ?_
      refine j_iload_n hX dX0_setTimes_17 1 rfl ?_
      refine j_callV (As := [.int (nI k)]) (rest := []) hX (c_X0_remove (xl X) (xK X) g b ca oa n cf tf hB k hk hn20) hB.1 rfl lk_X0_50 wI_X0_remove wV_X0_X0_remove wN_X0 wC_X0_remove hd_X0_remove rfl (by rw [hL]; decide) (by decide) rfl (Nat.le_of_ble_eq_true rfl) dX0_setTimes_18 (by rw [hR]; decide) (by rw [hR]; decide) jx_no ?_
      rintro _ g' ⟨rfl, hB', hF⟩
      show J X 0 0 g' 21 [(0, .ref b), (1, .int (nI k)), (2, .long m)] []
      refine j_goto hX 32 dX0_setTimes_21 (by decide) ?_
      refine j_iconst (v := 1) hX dX0_setTimes_32 (by decide) ?_
      exact j_zret hX hE dX0_setTimes_33 (by first | rfl | decide | assumption) (Or.inr (Or.inl ⟨c13, rfl, hB', hF⟩)) (by decide) (by decide)
  · have c5 : 1000000000 < m := Int64.not_le.mp (fun q => c_5 ((lg_cmp_le _ _).mpr q))
    refine j_iconst (v := 0) hX dX0_setTimes_8 (by decide) ?_
    exact j_zret hX hE dX0_setTimes_9 (by first | rfl | decide | assumption) (Or.inl ⟨c5, rfl, rfl⟩) (by decide) (by decide)

set_option maxRecDepth 20000 in
set_option maxHeartbeats 600000 in
/-- insert(p, row, m) -/
theorem c_X0_insert (l : Launch) (K : Cst) (g : Wd) (b ca oa n : Nat) (cf tf : Nat → Int32) (hB : isBag K g b ca oa n cf tf) (ra : Nat) (rf : Nat → Int32) (hr : g ra = some (aI K 4 rf)) (p : Nat) (m : Int64) (hp : p ≤ n) (hn20 : n ≤ 20) : Ct l K yX0_insert cX0_insert 7 (some .boolean) 1 [.ref b, .int (nI p), .ref ra, .long m] g (fun v g' => ((20 ≤ n ∨ 1000000000 < m) ∧ v = some (.int 0) ∧ g = g') ∨ (n < 20 ∧ m ≤ 1000000000 ∧ v = some (.int 1) ∧ isBag K g' b ca oa (n + 1) (va_cpy rf (va_cpy cf cf (4 * p) (4 * p + 4) (4 * (n - p))) 0 (4 * p) 4) (upd (va_cpy tf tf p (p + 1) (n - p)) p m.toInt32) ∧ Fr g g' [b, ca, oa])) (fun _ _ => False) 0 0 := by
  refine ct_of (by decide) (Nat.le_of_ble_eq_true rfl) ?_
  intro X hl hK hX hE hn hL hR hm
  subst hl; subst hK
  show J X 0 0 g 0 [(0, .ref b), (1, .int (nI p)), (2, .ref ra), (3, .long m)] []
  refine j_aload_n hX dX0_insert_0 0 rfl ?_
  refine j_get (v := .int (nI n)) hX hB.1 rfl wf_X0 2 (by decide) lk_X0_18 (fun _ h => h) rfl dX0_insert_1 ?_
  refine j_bipush (v := nI 20) hX dX0_insert_4 (by decide) ?_
  refine j_icmp_ge hX 17 dX0_insert_6 (by decide) (fun c_6 => ?_) (fun c_6 => ?_)
  · have c6 : 20 ≤ n := (nI_leI (by decide) (by omega)).mp c_6
    refine j_iconst (v := 0) hX dX0_insert_17 (by decide) ?_
    exact j_zret hX hE dX0_insert_18 (by first | rfl | decide | assumption) (Or.inl ⟨Or.inl c6, rfl, rfl⟩) (by decide) (by decide)
  · have c6 : n < 20 := Nat.not_le.mp (fun q => c_6 (nI_le q (by omega)))
    refine j_lload_n hX dX0_insert_9 3 rfl ?_
    refine j_ldc2 (v := 1000000000) hX lk_X0_48 dX0_insert_10 ?_
    refine j_lcmp hX dX0_insert_13 ?_
    refine j_if_le hX 19 dX0_insert_14 (by decide) (fun c_14 => ?_) (fun c_14 => ?_)
    · have c14 := (lg_cmp_le _ _).mp c_14
      refine j_aload_n hX dX0_insert_19 0 rfl ?_
      refine j_get (v := .int (nI n)) hX hB.1 rfl wf_X0 2 (by decide) lk_X0_18 (fun _ h => h) rfl dX0_insert_20 ?_
      refine j_iload_n hX dX0_insert_23 1 rfl ?_
      refine j_isub hX dX0_insert_24 ?_
      refine j_eqi (y := nI (n - p)) (pk_sub (by omega)) ?_
      refine j_istore (lv' := [(5, .int (nI (n - p))), (0, .ref b), (1, .int (nI p)), (2, .ref ra), (3, .long m)]) hX dX0_insert_25 (by rw [hn]; decide) rfl ?_
      refine j_iload_n hX dX0_insert_27 2 rfl ?_
      refine j_iconst (v := 4) hX dX0_insert_28 (by decide) ?_
      refine j_imul hX dX0_insert_29 ?_
      refine j_eqi (y := nI (4 * p)) (ix4' p) ?_
      refine j_istore (lv' := [(6, .int (nI (4 * p))), (5, .int (nI (n - p))), (0, .ref b), (1, .int (nI p)), (2, .ref ra), (3, .long m)]) hX dX0_insert_30 (by rw [hn]; decide) rfl ?_
      refine j_aload_n hX dX0_insert_32 2 rfl ?_
      refine j_get (v := .ref ca) hX hB.1 rfl wf_X0 0 (by decide) lk_X0_9 (fun _ h => h) rfl dX0_insert_33 ?_
      refine j_iload hX dX0_insert_36 0 rfl ?_
      refine j_aload_n hX dX0_insert_38 2 rfl ?_
      refine j_get (v := .ref ca) hX hB.1 rfl wf_X0 0 (by decide) lk_X0_9 (fun _ h => h) rfl dX0_insert_39 ?_
      refine j_iload hX dX0_insert_42 0 rfl ?_
      refine j_iconst (v := nI 4) hX dX0_insert_44 (by decide) ?_
      refine j_iadd hX dX0_insert_45 ?_
      refine j_eqi (y := nI (4 * p + 4)) (nI_add _ _) ?_
      refine j_iload hX dX0_insert_46 1 rfl ?_
      refine j_iconst (v := 4) hX dX0_insert_48 (by decide) ?_
      refine j_imul hX dX0_insert_49 ?_
      refine j_eqi (y := nI (4 * (n - p))) (ix4' _) ?_
      refine j_copyN hX lk_X0_22 hB.2.1 hB.2.1 (4 * p) (4 * p + 4) (4 * (n - p)) (rfl) (rfl) (rfl) (by omega) (by omega) (by decide) (by decide) (by rw [hL]; decide) (by decide) dX0_insert_50 ?_
      obtain ⟨g1, eg1⟩ : ∃ z : Wd, z = up g ca (aI (xK X) 80 (va_cpy cf cf (4 * p) (4 * p + 4) (4 * (n - p)))) := ⟨_, rfl⟩
      refine j_w eg1.symm ?_
      have k1_b := (congrFun eg1 b).trans ((up_n (by first | exact ne_ob (hB.1) (hB.2.1) (by first | simp | decide | (intro h9; cases h9) | (simp only [ne_eq]; intro h9; injection h9 with h8; simp at h8)) | assumption | (apply Ne.symm; assumption))).trans (hB.1))
      have k1_ca : g1 ca = some (aI (xK X) 80 (va_cpy cf cf (4 * p) (4 * p + 4) (4 * (n - p)))) := by rw [eg1]; exact up_s _ _ _
      have k1_oa := (congrFun eg1 oa).trans ((up_n (by first | exact ne_ob (hB.2.2) (hB.2.1) (by first | simp | decide | (intro h9; cases h9) | (simp only [ne_eq]; intro h9; injection h9 with h8; simp at h8)) | assumption | (apply Ne.symm; assumption))).trans (hB.2.2))
      have k1_ra := (congrFun eg1 ra).trans ((up_n (by first | exact ne_ob (hr) (hB.2.1) (by first | simp | decide | (intro h9; cases h9) | (simp only [ne_eq]; intro h9; injection h9 with h8; simp at h8)) | assumption | (apply Ne.symm; assumption))).trans (hr))
      refine j_aload_n hX dX0_insert_53 2 rfl ?_
      refine j_get (v := .ref oa) hX k1_b rfl wf_X0 1 (by decide) lk_X0_15 (fun _ h => h) rfl dX0_insert_54 ?_
      refine j_iload_n hX dX0_insert_57 3 rfl ?_
      refine j_aload_n hX dX0_insert_58 2 rfl ?_
      refine j_get (v := .ref oa) hX k1_b rfl wf_X0 1 (by decide) lk_X0_15 (fun _ h => h) rfl dX0_insert_59 ?_
      refine j_iload_n hX dX0_insert_62 3 rfl ?_
      refine j_iconst (v := nI 1) hX dX0_insert_63 (by decide) ?_
      refine j_iadd hX dX0_insert_64 ?_
      refine j_eqi (y := nI (p + 1)) (nI_add _ _) ?_
      refine j_iload hX dX0_insert_65 1 rfl ?_
      refine j_copyN hX lk_X0_22 k1_oa k1_oa (p) (p + 1) (n - p) (rfl) (rfl) (rfl) (by omega) (by omega) (by decide) (by decide) (by rw [hL]; decide) (by decide) dX0_insert_67 ?_
      obtain ⟨g2, eg2⟩ : ∃ z : Wd, z = up g1 oa (aI (xK X) 20 (va_cpy tf tf (p) (p + 1) (n - p))) := ⟨_, rfl⟩
      refine j_w eg2.symm ?_
      have k2_b := (congrFun eg2 b).trans ((up_n (by first | exact ne_ob (k1_b) (k1_oa) (by first | simp | decide | (intro h9; cases h9) | (simp only [ne_eq]; intro h9; injection h9 with h8; simp at h8)) | assumption | (apply Ne.symm; assumption))).trans (k1_b))
      have k2_ca := (congrFun eg2 ca).trans ((up_n (by first | exact ne_ob (k1_ca) (k1_oa) (by first | simp | decide | (intro h9; cases h9) | (simp only [ne_eq]; intro h9; injection h9 with h8; simp at h8)) | assumption | (apply Ne.symm; assumption))).trans (k1_ca))
      have k2_oa : g2 oa = some (aI (xK X) 20 (va_cpy tf tf (p) (p + 1) (n - p))) := by rw [eg2]; exact up_s _ _ _
      have k2_ra := (congrFun eg2 ra).trans ((up_n (by first | exact ne_ob (k1_ra) (k1_oa) (by first | simp | decide | (intro h9; cases h9) | (simp only [ne_eq]; intro h9; injection h9 with h8; simp at h8)) | assumption | (apply Ne.symm; assumption))).trans (k1_ra))
      refine j_aload_n hX dX0_insert_70 4 rfl ?_
      refine j_iconst (v := nI 0) hX dX0_insert_71 (by decide) ?_
      refine j_aload_n hX dX0_insert_72 2 rfl ?_
      refine j_get (v := .ref ca) hX k2_b rfl wf_X0 0 (by decide) lk_X0_9 (fun _ h => h) rfl dX0_insert_73 ?_
      refine j_iload hX dX0_insert_76 0 rfl ?_
      refine j_iconst (v := nI 4) hX dX0_insert_78 (by decide) ?_
      refine j_copyN hX lk_X0_22 k2_ra k2_ca (0) (4 * p) (4) (rfl) (rfl) (rfl) (by omega) (by omega) (by decide) (by decide) (by rw [hL]; decide) (by decide) dX0_insert_79 ?_
      obtain ⟨g3, eg3⟩ : ∃ z : Wd, z = up g2 ca (aI (xK X) 80 (va_cpy rf (va_cpy cf cf (4 * p) (4 * p + 4) (4 * (n - p))) (0) (4 * p) (4))) := ⟨_, rfl⟩
      refine j_w eg3.symm ?_
      have k3_b := (congrFun eg3 b).trans ((up_n (by first | exact ne_ob (k2_b) (k2_ca) (by first | simp | decide | (intro h9; cases h9) | (simp only [ne_eq]; intro h9; injection h9 with h8; simp at h8)) | assumption | (apply Ne.symm; assumption))).trans (k2_b))
      have k3_ca : g3 ca = some (aI (xK X) 80 (va_cpy rf (va_cpy cf cf (4 * p) (4 * p + 4) (4 * (n - p))) (0) (4 * p) (4))) := by rw [eg3]; exact up_s _ _ _
      have k3_oa := (congrFun eg3 oa).trans ((up_n (by first | exact ne_ob (k2_oa) (k2_ca) (by first | simp | decide | (intro h9; cases h9) | (simp only [ne_eq]; intro h9; injection h9 with h8; simp at h8)) | assumption | (apply Ne.symm; assumption))).trans (k2_oa))
      have k3_ra := (congrFun eg3 ra).trans ((up_n (by first | exact ne_ob (k2_ra) (k2_ca) (by first | simp | decide | (intro h9; cases h9) | (simp only [ne_eq]; intro h9; injection h9 with h8; simp at h8)) | assumption | (apply Ne.symm; assumption))).trans (k2_ra))
      refine j_aload_n hX dX0_insert_82 2 rfl ?_
      refine j_get (v := .ref oa) hX k3_b rfl wf_X0 1 (by decide) lk_X0_15 (fun _ h => h) rfl dX0_insert_83 ?_
      refine j_iload_n hX dX0_insert_86 3 rfl ?_
      refine j_lload_n hX dX0_insert_87 5 rfl ?_
      refine j_l2i hX dX0_insert_88 ?_
      refine j_iastN hX k3_oa (p) (rfl) (by omega) (by decide) dX0_insert_89 ?_
      obtain ⟨g4, eg4⟩ : ∃ z : Wd, z = up g3 oa (aI (xK X) 20 (upd (va_cpy tf tf (p) (p + 1) (n - p)) (p) m.toInt32)) := ⟨_, rfl⟩
      refine j_w eg4.symm ?_
      have k4_b := (congrFun eg4 b).trans ((up_n (by first | exact ne_ob (k3_b) (k3_oa) (by first | simp | decide | (intro h9; cases h9) | (simp only [ne_eq]; intro h9; injection h9 with h8; simp at h8)) | assumption | (apply Ne.symm; assumption))).trans (k3_b))
      have k4_ca := (congrFun eg4 ca).trans ((up_n (by first | exact ne_ob (k3_ca) (k3_oa) (by first | simp | decide | (intro h9; cases h9) | (simp only [ne_eq]; intro h9; injection h9 with h8; simp at h8)) | assumption | (apply Ne.symm; assumption))).trans (k3_ca))
      have k4_oa : g4 oa = some (aI (xK X) 20 (upd (va_cpy tf tf (p) (p + 1) (n - p)) (p) m.toInt32)) := by rw [eg4]; exact up_s _ _ _
      have k4_ra := (congrFun eg4 ra).trans ((up_n (by first | exact ne_ob (k3_ra) (k3_oa) (by first | simp | decide | (intro h9; cases h9) | (simp only [ne_eq]; intro h9; injection h9 with h8; simp at h8)) | assumption | (apply Ne.symm; assumption))).trans (k3_ra))
      refine j_aload_n hX dX0_insert_90 2 rfl ?_
      refine j_dup hX dX0_insert_91 rfl ?_
      refine j_get (v := .int (nI n)) hX k4_b rfl wf_X0 2 (by decide) lk_X0_18 (fun _ h => h) rfl dX0_insert_92 ?_
      refine j_iconst (v := nI 1) hX dX0_insert_95 (by decide) ?_
      refine j_iadd hX dX0_insert_96 ?_
      refine j_eqi (y := nI (n + 1)) (nI_add _ _) ?_
      refine j_put hX k4_b rfl wf_X0 tyX0_ok nmX0 2 (by decide) lk_X0_18 (fun _ h => h) rfl (tyX0_ok 2 (by decide)) rfl rfl (Nat.le_of_ble_eq_true rfl) dX0_insert_97 ?_
      obtain ⟨g5, eg5⟩ : ∃ z : Wd, z = up g4 b (ob 0 [.ref ca, .ref oa, .int (nI (n + 1))]) := ⟨_, rfl⟩
      refine j_w eg5.symm ?_
      have k5_b : g5 b = some (ob 0 [.ref ca, .ref oa, .int (nI (n + 1))]) := by rw [eg5]; exact up_s _ _ _
      have k5_ca := (congrFun eg5 ca).trans ((up_n (by first | exact ne_ob (k4_ca) (k4_b) (by first | simp | decide | (intro h9; cases h9) | (simp only [ne_eq]; intro h9; injection h9 with h8; simp at h8)) | assumption | (apply Ne.symm; assumption))).trans (k4_ca))
      have k5_oa := (congrFun eg5 oa).trans ((up_n (by first | exact ne_ob (k4_oa) (k4_b) (by first | simp | decide | (intro h9; cases h9) | (simp only [ne_eq]; intro h9; injection h9 with h8; simp at h8)) | assumption | (apply Ne.symm; assumption))).trans (k4_oa))
      have k5_ra := (congrFun eg5 ra).trans ((up_n (by first | exact ne_ob (k4_ra) (k4_b) (by first | simp | decide | (intro h9; cases h9) | (simp only [ne_eq]; intro h9; injection h9 with h8; simp at h8)) | assumption | (apply Ne.symm; assumption))).trans (k4_ra))
      refine j_iconst (v := 1) hX dX0_insert_100 (by decide) ?_
      exact j_zret hX hE dX0_insert_101 (by first | rfl | decide | assumption) (Or.inr ⟨c6, c14, rfl, ⟨k5_b, k5_ca, k5_oa⟩, fun q hq => by simp only [List.mem_cons, List.not_mem_nil, or_false, not_or] at hq; rw [eg5, up_n hq.1, eg4, up_n hq.2.2, eg3, up_n hq.2.1, eg2, up_n hq.2.2, eg1, up_n hq.2.1]⟩) (by decide) (by decide)
    · have c14 : 1000000000 < m := Int64.not_le.mp (fun q => c_14 ((lg_cmp_le _ _).mpr q))
      refine j_iconst (v := 0) hX dX0_insert_17 (by decide) ?_
      exact j_zret hX hE dX0_insert_18 (by first | rfl | decide | assumption) (Or.inl ⟨Or.inr c14, rfl, rfl⟩) (by decide) (by decide)
end
section
/-! arrays and bags -/
theorem rowAt_c {f h : Nat → Int32} {i j : Nat} (e : ∀ c, c < 4 → f (i + c) = h (j + c)) : rowAt f i = rowAt h j := by
  have e0 := e 0 (by omega); have e1 := e 1 (by omega); have e2 := e 2 (by omega); have e3 := e 3 (by omega)
  simp only [Nat.add_zero] at e0
  simp only [rowAt, e0, e1, e2, e3]
theorem rowAt_cpy_in {f h : Nat → Int32} {sp dp n i : Nat} (h1 : dp ≤ i) (h2 : i + 4 ≤ dp + n) : rowAt (va_cpy f h sp dp n) i = rowAt f (sp + (i - dp)) := rowAt_c (fun c hc => by
  rw [pk_cpy_in (by omega) (by omega)]; exact congrArg f (by omega))
theorem rowAt_cpy_out {f h : Nat → Int32} {sp dp n i : Nat} (h1 : i + 4 ≤ dp ∨ dp + n ≤ i) : rowAt (va_cpy f h sp dp n) i = rowAt h i := rowAt_c (fun c hc => by
  rw [pk_cpy_out (by omega)])
theorem rep_lt {B : Bg} {k : Nat} {x : Row × Nat} (h : B[k]? = some x) : k < B.length := (List.getElem?_eq_some_iff.mp h).1
theorem rep_erase {f t : Nat → Int32} {B : Bg} {k : Nat} (h : rep f t B) (hk : k < B.length) : rep (va_cpy f f (4 * k + 4) (4 * k) (4 * (B.length - 1 - k))) (va_cpy t t (k + 1) k (B.length - 1 - k)) (B.eraseIdx k) := by
  intro j x hx
  rw [List.getElem?_eraseIdx] at hx
  split at hx
  · rename_i hj
    rw [rowAt_cpy_out (by omega), pk_cpy_out (by omega)]
    exact h j x hx
  · rename_i hj
    have hl := rep_lt hx
    rw [rowAt_cpy_in (by omega) (by omega), pk_cpy_in (by omega) (by omega)]
    have := h (j + 1) x hx
    rw [show 4 * k + 4 + (4 * j - 4 * k) = 4 * (j + 1) by omega, show k + 1 + (j - k) = j + 1 by omega]
    exact this
theorem rep_set {f t : Nat → Int32} {B : Bg} {k m : Nat} {x : Row × Nat} (h : rep f t B) (hk : B[k]? = some x) : rep f (upd t k (nI m)) (B.set k (x.1, m)) := by
  intro j y hy
  rw [List.getElem?_set] at hy
  split at hy
  · rename_i hj
    split at hy
    · cases hy
      subst hj
      exact ⟨(h k x hk).1, pk_us⟩
    · cases hy
  · rename_i hj
    rw [pk_un (Ne.symm hj)]
    exact h j y hy
theorem rep_insert {f t rf : Nat → Int32} {B : Bg} {p m : Nat} (h : rep f t B) (hp : p ≤ B.length) : rep (va_cpy rf (va_cpy f f (4 * p) (4 * p + 4) (4 * (B.length - p))) 0 (4 * p) 4) (upd (va_cpy t t p (p + 1) (B.length - p)) p (nI m)) (B.insertIdx p (rowAt rf 0, m)) := by
  intro j x hx
  rw [List.getElem?_insertIdx] at hx
  split at hx
  · rename_i hj
    rw [rowAt_cpy_out (by omega), rowAt_cpy_out (by omega), pk_un (by omega), pk_cpy_out (by omega)]
    exact h j x hx
  · rename_i hj
    split at hx
    · rename_i hj2
      subst hj2
      split at hx
      · cases hx
        exact ⟨by rw [rowAt_cpy_in (by omega) (by omega)]; simp, pk_us⟩
      · first | (exfalso; omega) | cases hx
    · rename_i hj2
      have hl := rep_lt hx
      rw [rowAt_cpy_out (by omega), rowAt_cpy_in (by omega) (by omega), pk_un (by omega), pk_cpy_in (by omega) (by omega)]
      have := h (j - 1) x hx
      rw [show 4 * p + (4 * j - (4 * p + 4)) = 4 * (j - 1) by omega, show p + (j - (p + 1)) = j - 1 by omega]
      exact this
theorem rep_copy {f t f0 t0 : Nat → Int32} {B : Bg} (h : rep f t B) (hl : B.length ≤ 20) : rep (va_cpy f f0 0 0 80) (va_cpy t t0 0 0 20) B := by
  intro j x hx
  have hj := rep_lt hx
  rw [rowAt_cpy_in (by omega) (by omega), pk_cpy_in (by omega) (by omega)]
  simpa using h j x hx
/-! where the search from behind ends -/
theorem pbN_spec {f rf : Nat → Int32} {n : Nat} (hs : ∀ i j : Nat, i < j → j < n → key (rowAt f (4 * i)) < key (rowAt f (4 * j))) : ∀ p, p ≤ n → (∀ i, i < pbN f rf p → key (rowAt f (4 * i)) ≤ key (rowAt rf 0)) ∧ (∀ i, pbN f rf p ≤ i → i < p → key (rowAt rf 0) < key (rowAt f (4 * i))) := by
  intro p
  induction p with
  | zero => intro _; exact ⟨fun i hi => absurd hi (by simp [pbN]), fun i _ hi => absurd hi (by omega)⟩
  | succ p ih =>
    intro hp
    obtain ⟨h1, h2⟩ := ih (by omega)
    by_cases c : 0 < cmp4 f (4 * p) rf 0
    · rw [show pbN f rf (p + 1) = pbN f rf p from if_pos c]
      refine ⟨h1, fun i hi hlt => ?_⟩
      rcases Nat.lt_or_ge i p with q | q
      · exact h2 i hi q
      · rw [show i = p by omega]; exact (cmp4_p _ _ _ _).mp c
    · rw [show pbN f rf (p + 1) = p + 1 from if_neg c]
      have c2 : key (rowAt f (4 * p)) ≤ key (rowAt rf 0) := Int.not_lt.mp (fun q => c ((cmp4_p _ _ _ _).mpr q))
      refine ⟨fun i hi => ?_, fun i hi hlt => absurd hlt (by omega)⟩
      rcases Nat.lt_or_ge i p with q | q
      · have := hs i p q (by omega); omega
      · rw [show i = p by omega]; exact c2
theorem rep_srt {f t : Nat → Int32} {B : Bg} (h : rep f t B) (hs : srt B) : ∀ i j : Nat, i < j → j < B.length → key (rowAt f (4 * i)) < key (rowAt f (4 * j)) := fun i j hij hj => by
  have ei : B[i]? = some B[i] := List.getElem?_eq_getElem (by omega)
  have ej : B[j]? = some B[j] := List.getElem?_eq_getElem hj
  rw [(h i _ ei).1, (h j _ ej).1]
  exact hs i j hij _ _ ei ej
/-- the row stands in the bag: then the search ends behind it -/
theorem pb_in {f t rf : Nat → Int32} {B : Bg} (h : rep f t B) (hs : srt B) {x : Row × Nat} (hx : B[plc B (rowAt rf 0)]? = some x) (he : x.1 = rowAt rf 0) : pbN f rf B.length = plc B (rowAt rf 0) + 1 := by
  obtain ⟨h1, h2⟩ := pbN_spec (rf := rf) (rep_srt h hs) B.length (Nat.le_refl _)
  have hl := rep_lt hx
  have hle := pbN_le f rf B.length
  have hq := (h _ x hx).1
  rcases Nat.lt_or_ge (plc B (rowAt rf 0)) (pbN f rf B.length) with q | q
  · rcases Nat.lt_or_ge (plc B (rowAt rf 0) + 1) (pbN f rf B.length) with q2 | q2
    · have a := h1 (plc B (rowAt rf 0) + 1) q2
      have b := rep_srt h hs (plc B (rowAt rf 0)) (plc B (rowAt rf 0) + 1) (by omega) (by omega)
      rw [hq, he] at b; omega
    · omega
  · have a := h2 (plc B (rowAt rf 0)) q hl
    rw [hq, he] at a; omega
theorem pb_out {f t rf : Nat → Int32} {B : Bg} (h : rep f t B) (hs : srt B) (hx : ∀ x, B[plc B (rowAt rf 0)]? = some x → x.1 ≠ rowAt rf 0) : pbN f rf B.length = plc B (rowAt rf 0) := by
  obtain ⟨h1, h2⟩ := pbN_spec (rf := rf) (rep_srt h hs) B.length (Nat.le_refl _)
  obtain ⟨s1, s2⟩ := plc_split hs (rowAt rf 0)
  have hle := pbN_le f rf B.length
  have hpl := plc_le B (rowAt rf 0)
  rcases Nat.lt_trichotomy (pbN f rf B.length) (plc B (rowAt rf 0)) with q | q | q
  · have e : B[pbN f rf B.length]? = some B[pbN f rf B.length] := List.getElem?_eq_getElem (by omega)
    have a := h2 (pbN f rf B.length) (Nat.le_refl _) (by omega)
    have b := s1 _ _ q e
    rw [(h _ _ e).1] at a; omega
  · exact q
  · have e : B[plc B (rowAt rf 0)]? = some B[plc B (rowAt rf 0)] := List.getElem?_eq_getElem (by omega)
    have a := h1 _ q
    have b := s2 _ _ (Nat.le_refl _) e
    rw [(h _ _ e).1] at a
    exact absurd (key_inj (by omega)) (hx _ e)
theorem atP_in {f t rf : Nat → Int32} {B : Bg} (h : rep f t B) (hs : srt B) {x : Row × Nat} (hx : B[plc B (rowAt rf 0)]? = some x) (he : x.1 = rowAt rf 0) : atP f rf (pbN f rf B.length) = true := by
  rw [pb_in h hs hx he]
  have := (h _ x hx).1.trans he
  simp [atP, (cmp4_0 f rf (4 * plc B (rowAt rf 0)) 0).mpr this]
theorem atP_out {f t rf : Nat → Int32} {B : Bg} (h : rep f t B) (hs : srt B) (hx : ∀ x, B[plc B (rowAt rf 0)]? = some x → x.1 ≠ rowAt rf 0) : atP f rf (pbN f rf B.length) = false := by
  rw [pb_out h hs hx]
  rcases Nat.eq_zero_or_pos (plc B (rowAt rf 0)) with q | q
  · simp [atP, q]
  · have hpl := plc_le B (rowAt rf 0)
    have e : B[plc B (rowAt rf 0) - 1]? = some B[plc B (rowAt rf 0) - 1] := List.getElem?_eq_getElem (by omega)
    have a := (plc_split hs (rowAt rf 0)).1 _ _ (by omega) e
    have b : ¬ cmp4 f (4 * (plc B (rowAt rf 0) - 1)) rf 0 = 0 := fun z => by
      have := (cmp4_0 _ _ _ _).mp z
      rw [(h _ _ e).1] at this
      rw [this] at a; omega
    simp [atP, b]
theorem timesAt_eq {f t rf : Nat → Int32} {B : Bg} (h : rep f t B) (hs : srt B) : timesAt f t rf B.length = nI (tms B (rowAt rf 0)) := by
  rcases hq : B[plc B (rowAt rf 0)]? with _ | x
  · rw [timesAt, if_neg (by rw [atP_out h hs (fun x hx => by rw [hq] at hx; cases hx)]; decide), tms, hq]; rfl
  · by_cases he : x.1 = rowAt rf 0
    · rw [timesAt, if_pos (atP_in h hs hq he), pb_in h hs hq he, tms, hq]
      simp only [he, if_true]
      exact (h _ x hq).2
    · rw [timesAt, if_neg (by rw [atP_out h hs (fun y hy => by rw [hq] at hy; cases hy; exact he)]; decide), tms, hq]
      simp only [he, if_false]
      rfl
/-- the bag B stands at b, with its cells at ca and its times at oa -/
def bagR (K : Cst) (g : Wd) (b ca oa : Nat) (B : Bg) : Prop := ∃ cf tf, isBag K g b ca oa B.length cf tf ∧ rep cf tf B
def good (B : Bg) : Prop := srt B ∧ fine B
end
section
theorem addB_in {r : Row} {M : Int} {B : Bg} {x : Row × Nat} (hx : B[plc B r]? = some x) (he : x.1 = r) : addB r M B = if 1000000000 < (x.2 : Int) + M then none else if (x.2 : Int) + M ≤ 0 then some (B.eraseIdx (plc B r)) else some (B.set (plc B r) (r, ((x.2 : Int) + M).toNat)) := by
  unfold addB; rw [hx]; simp only [he, if_true]
theorem addB_out {r : Row} {M : Int} {B : Bg} (hx : ∀ x, B[plc B r]? = some x → x.1 ≠ r) : addB r M B = if M ≤ 0 then some B else if 20 ≤ B.length ∨ 1000000000 < M then none else some (B.insertIdx (plc B r) (r, M.toNat)) := by
  unfold addB
  split
  · rename_i x he
    rw [if_neg (hx x he)]
  · rfl
theorem has_or (B : Bg) (r : Row) : (∃ x, B[plc B r]? = some x ∧ x.1 = r) ∨ ∀ x, B[plc B r]? = some x → x.1 ≠ r := by
  rcases h : B[plc B r]? with _ | x
  · exact Or.inr (fun x hx => by cases hx)
  · by_cases he : x.1 = r
    · exact Or.inl ⟨x, rfl, he⟩
    · exact Or.inr (fun y hy => by cases hy; exact he)
theorem srt_erase {B : Bg} (h : srt B) (k : Nat) : srt (B.eraseIdx k) := by
  intro i j hij x y hx hy
  rw [List.getElem?_eraseIdx] at hx hy
  split at hx <;> split at hy
  · exact h i j hij x y hx hy
  · exact h i (j + 1) (by omega) x y hx hy
  · omega
  · exact h (i + 1) (j + 1) (by omega) x y hx hy
theorem srt_set {B : Bg} (h : srt B) {k m : Nat} {x : Row × Nat} (hk : B[k]? = some x) : srt (B.set k (x.1, m)) := by
  have e : ∀ (i : Nat) (y : Row × Nat), (B.set k (x.1, m))[i]? = some y → ∃ z : Row × Nat, B[i]? = some z ∧ z.1 = y.1 := by
    intro i y hy
    rw [List.getElem?_set] at hy
    split at hy
    · rename_i hi
      split at hy
      · cases hy; subst hi; exact ⟨x, hk, rfl⟩
      · cases hy
    · exact ⟨y, hy, rfl⟩
  intro i j hij a b ha hb
  obtain ⟨a', h1, h2⟩ := e i a ha
  obtain ⟨b', h3, h4⟩ := e j b hb
  rw [← h2, ← h4]
  exact h i j hij a' b' h1 h3
theorem srt_insert {B : Bg} (h : srt B) {r : Row} {m : Nat} (hx : ∀ x, B[plc B r]? = some x → x.1 ≠ r) : srt (B.insertIdx (plc B r) (r, m)) := by
  obtain ⟨s1, s2⟩ := plc_split h r
  have s3 : ∀ (i : Nat) (x : Row × Nat), plc B r ≤ i → B[i]? = some x → key r < key x.1 := by
    intro i x hi hxi
    rcases Nat.eq_or_lt_of_le hi with q | q
    · have a := s2 i x hi hxi
      have b : x.1 ≠ r := hx x (by rw [q]; exact hxi)
      rcases Int.lt_or_eq_of_le a with c | c
      · exact c
      · exact absurd (key_inj c.symm) b
    · have hlt : plc B r < B.length := by have := rep_lt hxi; omega
      have e : B[plc B r]? = some B[plc B r] := List.getElem?_eq_getElem hlt
      have a := s2 _ _ (Nat.le_refl _) e
      have b := h _ _ q _ _ e hxi
      omega
  have hpl := plc_le B r
  intro i j hij x y hx1 hy1
  rw [List.getElem?_insertIdx] at hx1 hy1
  split at hx1
  · rename_i hi
    split at hy1
    · exact h i j hij x y hx1 hy1
    · split at hy1
      · split at hy1
        · cases hy1; exact s1 i x hi hx1
        · first | (exfalso; omega) | cases hy1
      · rename_i h7 h8
        exact h i (j - 1) (by omega) x y hx1 hy1
  · rename_i hi
    split at hx1
    · rename_i hi2
      split at hx1
      · cases hx1
        rw [if_neg (by omega), if_neg (by omega)] at hy1
        exact s3 (j - 1) y (by omega) hy1
      · first | (exfalso; omega) | cases hx1
    · rename_i hi2
      rw [if_neg (by omega), if_neg (by omega)] at hy1
      exact h (i - 1) (j - 1) (by omega) x y hx1 hy1
theorem good_nil : good [] := ⟨fun i j _ x y h => by simp at h, by simp, fun x h => by simp at h⟩
theorem addB_good {r : Row} {M : Int} {B B' : Bg} (h : good B) (ha : addB r M B = some B') : good B' := by
  obtain ⟨hs, hl, hf⟩ := h
  rcases has_or B r with ⟨x, hx, he⟩ | hx
  · rw [addB_in hx he] at ha
    split at ha
    · cases ha
    · split at ha
      · cases ha
        exact ⟨srt_erase hs _, by rw [List.length_eraseIdx]; split <;> omega, fun y hy => hf y (List.mem_of_mem_eraseIdx hy)⟩
      · rename_i h1 h2
        cases ha
        refine ⟨by rw [← he]; rw [he]; rw [← he]; exact srt_set hs (by rw [he]; exact hx), by simpa using hl, fun y hy => ?_⟩
        rcases List.mem_or_eq_of_mem_set hy with q | q
        · exact hf y q
        · rw [q]; exact ⟨by show 0 < ((x.2 : Int) + M).toNat; omega, by show ((x.2 : Int) + M).toNat ≤ _; omega⟩
  · rw [addB_out hx] at ha
    split at ha
    · cases ha; exact ⟨hs, hl, hf⟩
    · split at ha
      · cases ha
      · rename_i h1 h2
        cases ha
        refine ⟨srt_insert hs hx, ?_, fun y hy => ?_⟩
        · rw [List.length_insertIdx]; split <;> omega
        · rcases (List.mem_insertIdx (plc_le B r)).mp hy with q | q
          · rw [q]; exact ⟨by show 0 < M.toNat; omega, by show M.toNat ≤ _; omega⟩
          · exact hf y q
/-! longs -/
theorem l_add {a b : Int64} (h1 : -9000000000000000000 ≤ a.toInt + b.toInt) (h2 : a.toInt + b.toInt ≤ 9000000000000000000) : (a + b).toInt = a.toInt + b.toInt := by
  rw [Int64.toInt_add, Int.bmod_def]
  split <;> omega
theorem l_nI {t : Nat} (h : t < 2 ^ 31) : (nI t).toInt64.toInt = (t : Int) := by rw [nI_l h, lN_toInt h]
theorem l_bil : (1000000000 : Int64).toInt = 1000000000 := by decide
theorem l_0 : (0 : Int64).toInt = 0 := by decide
theorem l_i32 {y : Int64} (h1 : 0 ≤ y.toInt) : y.toInt32 = nI y.toInt.toNat := by
  obtain ⟨k, hk, rfl⟩ := pk_lOf (x := y) (fun q => by have := Int64.lt_iff_toInt_lt.mp q; rw [l_0] at this; omega)
  rw [lN_i, pk_lT hk]; rfl
theorem l_lt {a b : Int64} : a < b ↔ a.toInt < b.toInt := Int64.lt_iff_toInt_lt
theorem l_le {a b : Int64} : a ≤ b ↔ a.toInt ≤ b.toInt := Int64.le_iff_toInt_le
/-- what add leaves -/
def addP (K : Cst) (g : Wd) (b ca oa : Nat) (o : Option Bg) (v : Option Value) (g' : Wd) : Prop := match o with
  | none => v = some (.int 0) ∧ g = g'
  | some B' => v = some (.int 1) ∧ bagR K g' b ca oa B' ∧ Fr g g' [b, ca, oa]
end
section
set_option maxRecDepth 20000 in
set_option maxHeartbeats 600000 in
/-- add(row, m) -/
theorem c_X0_add (l : Launch) (K : Cst) (g : Wd) (b ca oa : Nat) (B : Bg) (hR0 : bagR K g b ca oa B) (hG : good B) (ra : Nat) (rf : Nat → Int32) (hr : g ra = some (aI K 4 rf)) (m : Int64) (M : Int) (hm9 : m.toInt = M) (hM1 : -2000000000000000000 ≤ M) (hM2 : M ≤ 2000000000000000000) : Ct l K yX0_add cX0_add 5 (some .boolean) 3 [.ref b, .ref ra, .long m] g (addP K g b ca oa (addB (rowAt rf 0) M B)) (fun _ _ => False) 0 0 := by
  refine ct_of (by decide) (Nat.le_of_ble_eq_true rfl) ?_
  intro X hl hK hX hE hn hL hR hm
  subst hl; subst hK
  show J X 0 0 g 0 [(0, .ref b), (1, .ref ra), (2, .long m)] []
  obtain ⟨cf, tf, hB, hrep⟩ := hR0
  have hn20 : B.length ≤ 20 := hG.2.1
  rcases has_or B (rowAt rf 0) with ⟨x, hx, he⟩ | hx
  · have hpb := pb_in hrep hG.1 hx he
    have hat := atP_in hrep hG.1 hx he
    rw [hpb] at hat
    have hlt := rep_lt hx
    have hx2 := hG.2.2 x (List.mem_of_getElem? hx)
    obtain ⟨q, hq⟩ : ∃ q, q = plc B (rowAt rf 0) := ⟨_, rfl⟩
    rw [← hq] at hpb hat hlt hx
    refine j_aload_n hX dX0_add_0 0 rfl ?_
    refine j_aload_n hX dX0_add_1 1 rfl ?_
    refine j_callV (As := [.ref ra]) (rest := []) hX (c_X0_placeBehind (xl X) (xK X) g b ca oa B.length cf tf hB ra rf hr hn20) hB.1 rfl lk_X0_28 wI_X0_placeBehind wV_X0_X0_placeBehind wN_X0 wC_X0_placeBehind hd_X0_placeBehind rfl (by rw [hL]; decide) (by decide) rfl (Nat.le_of_ble_eq_true rfl) dX0_add_2 (by rw [hR]; decide) (by rw [hR]; decide) jx_no ?_
    rintro _ _ ⟨rfl, rfl⟩
    show J X 0 0 g 5 [(0, .ref b), (1, .ref ra), (2, .long m)] [.int (nI (pbN cf rf B.length))]
    refine j_eqi (y := nI (q + 1)) (congrArg nI hpb) ?_
    refine j_istore (lv' := [(4, .int (nI (q + 1))), (0, .ref b), (1, .ref ra), (2, .long m)]) hX dX0_add_5 (by rw [hn]; decide) rfl ?_
    refine j_aload_n hX dX0_add_7 1 rfl ?_
    refine j_iload hX dX0_add_8 0 rfl ?_
    refine j_iconst (v := 1) hX dX0_add_10 (by decide) ?_
    refine j_isub hX dX0_add_11 ?_
    refine j_aload_n hX dX0_add_12 2 rfl ?_
    refine j_callV (As := [.int ((nI (q + 1)) - 1), .ref ra]) (rest := []) hX (c_X0_isAt (xl X) (xK X) g b ca oa B.length cf tf hB ra rf hr (q + 1) (by omega)) hB.1 rfl lk_X0_32 wI_X0_isAt wV_X0_X0_isAt wN_X0 wC_X0_isAt hd_X0_isAt rfl (by rw [hL]; decide) (by decide) rfl (Nat.le_of_ble_eq_true rfl) dX0_add_13 (by rw [hR]; decide) (by rw [hR]; decide) jx_no ?_
    rintro _ _ ⟨rfl, rfl⟩
    show J X 0 0 g 16 [(4, .int (nI (q + 1))), (0, .ref b), (1, .ref ra), (2, .long m)] [.int (b01 (atP cf rf (q + 1)))]
    refine j_eqi (y := 1) (by rw [hat]; rfl) ?_
    refine j_if_eq hX 40 dX0_add_16 (by decide) (fun c_16 => absurd c_16 (show ¬ (1 : Int32) = 0 by decide)) (fun _ => ?_)
    refine j_aload_n hX dX0_add_19 1 rfl ?_
    refine j_iload hX dX0_add_20 0 rfl ?_
    refine j_iconst (v := 1) hX dX0_add_22 (by decide) ?_
    refine j_isub hX dX0_add_23 ?_
    refine j_eqi (y := nI q) (nI_pred q) ?_
    refine j_aload_n hX dX0_add_24 1 rfl ?_
    refine j_get (v := .ref oa) hX hB.1 rfl wf_X0 1 (by decide) lk_X0_15 (fun _ h => h) rfl dX0_add_25 ?_
    refine j_iload hX dX0_add_28 0 rfl ?_
    refine j_iconst (v := 1) hX dX0_add_30 (by decide) ?_
    refine j_isub hX dX0_add_31 ?_
    refine j_eqi (y := nI q) (nI_pred q) ?_
    refine j_ialdN hX hB.2.2 (q) (rfl) (by omega) (by decide) dX0_add_32 ?_
    refine j_eqi (y := nI x.2) ((hrep q x hx).2) ?_
    refine j_i2l hX dX0_add_33 ?_
    refine j_lload_n hX dX0_add_34 3 rfl ?_
    refine j_ladd hX dX0_add_35 ?_
    refine j_topl (fun y ey => ?_)
    have hy : y.toInt = (x.2 : Int) + M := by rw [ey, l_add (by rw [l_nI (by omega)]; omega) (by rw [l_nI (by omega)]; omega), l_nI (by omega), hm9]
    have hAd := addB_in (M := M) (by rw [← hq]; exact hx) he
    rw [← hq] at hAd
    refine j_callV (As := [.int (nI q), .long y]) (rest := []) hX (c_X0_setTimes (xl X) (xK X) g b ca oa B.length cf tf hB q y hlt hn20) hB.1 rfl lk_X0_36 wI_X0_setTimes wV_X0_X0_setTimes wN_X0 wC_X0_setTimes hd_X0_setTimes rfl (by rw [hL]; decide) (by decide) rfl (Nat.le_of_ble_eq_true rfl) dX0_add_36 (by rw [hR]; decide) (by rw [hR]; decide) jx_no ?_
    rintro _ g' (⟨c1, rfl, rfl⟩ | ⟨c1, rfl, hB', hF⟩ | ⟨c1, c2, rfl, hB', hF⟩)
    · show J X 0 0 g 39 [(4, .int (nI (q + 1))), (0, .ref b), (1, .ref ra), (2, .long m)] [.int 0]
      exact j_zret hX hE dX0_add_39 (by first | rfl | decide | assumption) (by rw [hAd, if_pos (by have := l_lt.mp c1; rw [l_bil, hy] at this; exact this)]; exact ⟨rfl, rfl⟩) (by decide) (by decide)
    · show J X 0 0 g' 39 [(4, .int (nI (q + 1))), (0, .ref b), (1, .ref ra), (2, .long m)] [.int 1]
      exact j_zret hX hE dX0_add_39 (by first | rfl | decide | assumption) (by rw [hAd, if_neg (by have := l_le.mp c1; rw [l_0, hy] at this; omega), if_pos (by have := l_le.mp c1; rw [l_0, hy] at this; exact this)]; exact ⟨rfl, ⟨_, _, by rw [List.length_eraseIdx, if_pos hlt]; exact hB', rep_erase hrep hlt⟩, hF⟩) (by decide) (by decide)
    · show J X 0 0 g' 39 [(4, .int (nI (q + 1))), (0, .ref b), (1, .ref ra), (2, .long m)] [.int 1]
      exact j_zret hX hE dX0_add_39 (by first | rfl | decide | assumption) (by rw [hAd, if_neg (by have := l_le.mp c2; rw [l_bil, hy] at this; omega), if_neg (by have := l_lt.mp c1; rw [l_0, hy] at this; omega)]; exact ⟨rfl, ⟨cf, _, by rw [List.length_set]; exact hB', by rw [← hy, ← he, l_i32 (by have := l_lt.mp c1; rw [l_0] at this; omega)]; exact rep_set hrep hx⟩, hF⟩) (by decide) (by decide)
  · have hpb := pb_out hrep hG.1 hx
    have hat := atP_out hrep hG.1 hx
    rw [hpb] at hat
    have hle := plc_le B (rowAt rf 0)
    have hAd := addB_out (M := M) hx
    obtain ⟨q, hq⟩ : ∃ q, q = plc B (rowAt rf 0) := ⟨_, rfl⟩
    rw [← hq] at hpb hat hle hAd
    refine j_aload_n hX dX0_add_0 0 rfl ?_
    refine j_aload_n hX dX0_add_1 1 rfl ?_
    refine j_callV (As := [.ref ra]) (rest := []) hX (c_X0_placeBehind (xl X) (xK X) g b ca oa B.length cf tf hB ra rf hr hn20) hB.1 rfl lk_X0_28 wI_X0_placeBehind wV_X0_X0_placeBehind wN_X0 wC_X0_placeBehind hd_X0_placeBehind rfl (by rw [hL]; decide) (by decide) rfl (Nat.le_of_ble_eq_true rfl) dX0_add_2 (by rw [hR]; decide) (by rw [hR]; decide) jx_no ?_
    rintro _ _ ⟨rfl, rfl⟩
    show J X 0 0 g 5 [(0, .ref b), (1, .ref ra), (2, .long m)] [.int (nI (pbN cf rf B.length))]
    refine j_eqi (y := nI q) (congrArg nI hpb) ?_
    refine j_istore (lv' := [(4, .int (nI q)), (0, .ref b), (1, .ref ra), (2, .long m)]) hX dX0_add_5 (by rw [hn]; decide) rfl ?_
    refine j_aload_n hX dX0_add_7 1 rfl ?_
    refine j_iload hX dX0_add_8 0 rfl ?_
    refine j_iconst (v := 1) hX dX0_add_10 (by decide) ?_
    refine j_isub hX dX0_add_11 ?_
    refine j_aload_n hX dX0_add_12 2 rfl ?_
    refine j_callV (As := [.int ((nI q) - 1), .ref ra]) (rest := []) hX (c_X0_isAt (xl X) (xK X) g b ca oa B.length cf tf hB ra rf hr q (by omega)) hB.1 rfl lk_X0_32 wI_X0_isAt wV_X0_X0_isAt wN_X0 wC_X0_isAt hd_X0_isAt rfl (by rw [hL]; decide) (by decide) rfl (Nat.le_of_ble_eq_true rfl) dX0_add_13 (by rw [hR]; decide) (by rw [hR]; decide) jx_no ?_
    rintro _ _ ⟨rfl, rfl⟩
    show J X 0 0 g 16 [(4, .int (nI q)), (0, .ref b), (1, .ref ra), (2, .long m)] [.int (b01 (atP cf rf q))]
    refine j_eqi (y := 0) (by rw [hat]; rfl) ?_
    refine j_if_eq hX 40 dX0_add_16 (by decide) (fun _ => ?_) (fun c_16 => absurd (show (0 : Int32) = 0 from rfl) c_16)
    refine j_lload_n hX dX0_add_40 3 rfl ?_
    refine j_lconst (v := 0) hX dX0_add_41 (by decide) ?_
    refine j_lcmp hX dX0_add_42 ?_
    refine j_if_le hX 57 dX0_add_43 (by decide) (fun c_43 => ?_) (fun c_43 => ?_)
    · have c43 := (lg_cmp_le _ _).mp c_43
      refine j_iconst (v := 1) hX dX0_add_57 (by decide) ?_
      refine j_goto hX 62 dX0_add_58 (by decide) ?_
      exact j_zret hX hE dX0_add_62 (by first | rfl | decide | assumption) (by rw [hAd, if_pos (by have := l_le.mp c43; rw [l_0, hm9] at this; exact this)]; exact ⟨rfl, ⟨cf, tf, hB, hrep⟩, Fr.rf _ _⟩) (by decide) (by decide)
    · have c43 : 0 < m := Int64.not_le.mp (fun q => c_43 ((lg_cmp_le _ _).mpr q))
      refine j_aload_n hX dX0_add_46 1 rfl ?_
      refine j_iload hX dX0_add_47 0 rfl ?_
      refine j_aload_n hX dX0_add_49 2 rfl ?_
      refine j_lload_n hX dX0_add_50 3 rfl ?_
      refine j_callV (As := [.int (nI q), .ref ra, .long m]) (rest := []) hX (c_X0_insert (xl X) (xK X) g b ca oa B.length cf tf hB ra rf hr q m hle hn20) hB.1 rfl lk_X0_40 wI_X0_insert wV_X0_X0_insert wN_X0 wC_X0_insert hd_X0_insert rfl (by rw [hL]; decide) (by decide) rfl (Nat.le_of_ble_eq_true rfl) dX0_add_51 (by rw [hR]; decide) (by rw [hR]; decide) jx_no ?_
      rintro _ g' (⟨c1, rfl, rfl⟩ | ⟨c1, c2, rfl, hB', hF⟩)
      · show J X 0 0 g 54 [(4, .int (nI q)), (0, .ref b), (1, .ref ra), (2, .long m)] [.int 0]
        refine j_if_eq hX 61 dX0_add_54 (by decide) (fun _ => ?_) (fun c_54 => absurd (show (0 : Int32) = 0 from rfl) c_54)
        refine j_iconst (v := 0) hX dX0_add_61 (by decide) ?_
        exact j_zret hX hE dX0_add_62 (by first | rfl | decide | assumption) (by rw [hAd, if_neg (by have := l_lt.mp c43; rw [l_0, hm9] at this; omega)]; rw [if_pos (c1.imp_right (fun h => by have := l_lt.mp h; rw [l_bil, hm9] at this; exact this))]; exact ⟨rfl, rfl⟩) (by decide) (by decide)
      · show J X 0 0 g' 54 [(4, .int (nI q)), (0, .ref b), (1, .ref ra), (2, .long m)] [.int 1]
        refine j_if_eq hX 61 dX0_add_54 (by decide) (fun c_54 => absurd c_54 (show ¬ (1 : Int32) = 0 by decide)) (fun _ => ?_)
        refine j_iconst (v := 1) hX dX0_add_57 (by decide) ?_
        refine j_goto hX 62 dX0_add_58 (by decide) ?_
        exact j_zret hX hE dX0_add_62 (by first | rfl | decide | assumption) (by rw [hAd, if_neg (by have := l_lt.mp c43; rw [l_0, hm9] at this; omega)]; rw [if_neg (by have := l_le.mp c2; rw [l_bil, hm9] at this; omega)]; exact ⟨rfl, ⟨_, _, by rw [List.length_insertIdx, if_pos hle]; exact hB', by rw [← hm9, l_i32 (by have := l_lt.mp c43; rw [l_0] at this; omega)]; exact rep_insert hrep hle⟩, hF⟩) (by decide) (by decide)
end
section
/-- in how many rows two bags differ: from the places i and j on, m steps at the most -/
def difI (A C : Bg) : Nat → Nat → Nat → Nat
  | 0, i, j => (A.length - i) + (C.length - j)
  | m + 1, i, j => match A[i]?, C[j]? with
    | some x, some y => if key x.1 < key y.1 then 1 + difI A C m (i + 1) j else if key y.1 < key x.1 then 1 + difI A C m i (j + 1) else (if x.2 = y.2 then 0 else 1) + difI A C m (i + 1) (j + 1)
    | _, _ => (A.length - i) + (C.length - j)
def dif (A C : Bg) : Nat := difI A C (A.length + C.length) 0 0
theorem difI_end {A C : Bg} (m : Nat) {i j : Nat} (h : A.length ≤ i ∨ C.length ≤ j) : difI A C m i j = (A.length - i) + (C.length - j) := by
  match m with
  | 0 => rfl
  | m + 1 =>
    unfold difI
    rcases h with h | h
    · rw [List.getElem?_eq_none h]
    · rw [List.getElem?_eq_none h]
      split
      · rename_i h1; cases h1
      · rfl
theorem difI_step {A C : Bg} {m i j : Nat} {x y : Row × Nat} (hx : A[i]? = some x) (hy : C[j]? = some y) : difI A C (m + 1) i j = if key x.1 < key y.1 then 1 + difI A C m (i + 1) j else if key y.1 < key x.1 then 1 + difI A C m i (j + 1) else (if x.2 = y.2 then 0 else 1) + difI A C m (i + 1) (j + 1) := by
  conv => lhs; unfold difI
  rw [hx, hy]
theorem difI_le {A C : Bg} : ∀ (m i j : Nat), difI A C m i j ≤ (A.length - i) + (C.length - j) := by
  intro m
  induction m with
  | zero => intro i j; exact Nat.le_refl _
  | succ m ih =>
    intro i j
    rcases Nat.lt_or_ge i A.length with hi | hi
    · rcases Nat.lt_or_ge j C.length with hj | hj
      · rw [difI_step (List.getElem?_eq_getElem hi) (List.getElem?_eq_getElem hj)]
        have h1 := ih (i + 1) j; have h2 := ih i (j + 1); have h3 := ih (i + 1) (j + 1)
        split
        · omega
        · split
          · omega
          · split <;> omega
      · rw [difI_end _ (Or.inr hj)]; exact Nat.le_refl _
    · rw [difI_end _ (Or.inl hi)]; exact Nat.le_refl _
set_option maxRecDepth 20000 in
set_option maxHeartbeats 600000 in
/-- countDifferent(other) -/
theorem c_X0_countDifferent (l : Launch) (K : Cst) (g : Wd) (b ca oa b2 ca2 oa2 : Nat) (A C : Bg) (hR1 : bagR K g b ca oa A) (hR2 : bagR K g b2 ca2 oa2 C) (hA : good A) (hC : good C) : Ct l K yX0_countDifferent cX0_countDifferent 6 (some .int) 1 [.ref b, .ref b2] g (fun v g' => v = some (.int (nI (dif A C))) ∧ g = g') (fun _ _ => False) 0 0 := by
  refine ct_of (by decide) (Nat.le_of_ble_eq_true rfl) ?_
  intro X hl hK hX hE hn hL hR hm
  subst hl; subst hK
  show J X 0 0 g 0 [(0, .ref b), (1, .ref b2)] []
  obtain ⟨cf, tf, hB, hr1⟩ := hR1
  obtain ⟨cf2, tf2, hB2, hr2⟩ := hR2
  have hn1 : A.length ≤ 20 := hA.2.1
  have hn2 : C.length ≤ 20 := hC.2.1
  have loop : ∀ (m d i j : Nat), i ≤ A.length → j ≤ C.length → (A.length - i) + (C.length - j) ≤ m → d + difI A C m i j = dif A C → J X 0 0 g 7 [(2, .int (nI d)), (3, .int (nI i)), (4, .int (nI j)), (0, .ref b), (1, .ref b2)] [] := by
    intro m
    have hdif : dif A C ≤ 40 := by have := difI_le (A := A) (C := C) (A.length + C.length) 0 0; unfold dif; omega
    induction m with
    | zero =>
      intro d i j hi9 hj9 hm9 hr
      have hend : A.length ≤ i ∨ C.length ≤ j := Or.inl (by omega)
      refine j_iload_n hX dX0_countDifferent_7 1 rfl ?_
      refine j_aload_n hX dX0_countDifferent_8 3 rfl ?_
      refine j_get (v := .int (nI A.length)) hX hB.1 rfl wf_X0 2 (by decide) lk_X0_18 (fun _ h => h) rfl dX0_countDifferent_9 ?_
      refine j_icmp_ge hX 82 dX0_countDifferent_12 (by decide) (fun _ => ?_) (fun c_12 => absurd (nI_le (a := A.length) (b := i) (by omega) (by omega)) c_12)
      refine j_iload_n hX dX0_countDifferent_82 0 rfl ?_
      refine j_aload_n hX dX0_countDifferent_83 3 rfl ?_
      refine j_get (v := .int (nI A.length)) hX hB.1 rfl wf_X0 2 (by decide) lk_X0_18 (fun _ h => h) rfl dX0_countDifferent_84 ?_
      refine j_iload_n hX dX0_countDifferent_87 1 rfl ?_
      refine j_isub hX dX0_countDifferent_88 ?_
      refine j_eqi (y := nI (A.length - i)) (pk_sub (by omega)) ?_
      refine j_iadd hX dX0_countDifferent_89 ?_
      refine j_eqi (y := nI (d + (A.length - i))) (nI_add _ _) ?_
      refine j_aload_n hX dX0_countDifferent_90 4 rfl ?_
      refine j_get (v := .int (nI C.length)) hX hB2.1 rfl wf_X0 2 (by decide) lk_X0_18 (fun _ h => h) rfl dX0_countDifferent_91 ?_
      refine j_iload hX dX0_countDifferent_94 2 rfl ?_
      refine j_isub hX dX0_countDifferent_96 ?_
      refine j_eqi (y := nI (C.length - j)) (pk_sub (by omega)) ?_
      refine j_iadd hX dX0_countDifferent_97 ?_
      refine j_eqi (y := nI (d + (A.length - i) + (C.length - j))) (nI_add _ _) ?_
      exact j_iret hX hE dX0_countDifferent_98 (⟨by rw [show d + (A.length - i) + (C.length - j) = dif A C by rw [← hr, difI_end _ hend]; omega], rfl⟩) (by decide) (by decide)
    | succ m ih =>
      intro d i j hi9 hj9 hm9 hr
      refine j_iload_n hX dX0_countDifferent_7 1 rfl ?_
      refine j_aload_n hX dX0_countDifferent_8 3 rfl ?_
      refine j_get (v := .int (nI A.length)) hX hB.1 rfl wf_X0 2 (by decide) lk_X0_18 (fun _ h => h) rfl dX0_countDifferent_9 ?_
      refine j_icmp_ge hX 82 dX0_countDifferent_12 (by decide) (fun c_12 => ?_) (fun c_12 => ?_)
      · have hend : A.length ≤ i ∨ C.length ≤ j := Or.inl ((nI_leI (by omega) (by omega)).mp c_12)
        refine j_iload_n hX dX0_countDifferent_82 0 rfl ?_
        refine j_aload_n hX dX0_countDifferent_83 3 rfl ?_
        refine j_get (v := .int (nI A.length)) hX hB.1 rfl wf_X0 2 (by decide) lk_X0_18 (fun _ h => h) rfl dX0_countDifferent_84 ?_
        refine j_iload_n hX dX0_countDifferent_87 1 rfl ?_
        refine j_isub hX dX0_countDifferent_88 ?_
        refine j_eqi (y := nI (A.length - i)) (pk_sub (by omega)) ?_
        refine j_iadd hX dX0_countDifferent_89 ?_
        refine j_eqi (y := nI (d + (A.length - i))) (nI_add _ _) ?_
        refine j_aload_n hX dX0_countDifferent_90 4 rfl ?_
        refine j_get (v := .int (nI C.length)) hX hB2.1 rfl wf_X0 2 (by decide) lk_X0_18 (fun _ h => h) rfl dX0_countDifferent_91 ?_
        refine j_iload hX dX0_countDifferent_94 2 rfl ?_
        refine j_isub hX dX0_countDifferent_96 ?_
        refine j_eqi (y := nI (C.length - j)) (pk_sub (by omega)) ?_
        refine j_iadd hX dX0_countDifferent_97 ?_
        refine j_eqi (y := nI (d + (A.length - i) + (C.length - j))) (nI_add _ _) ?_
        exact j_iret hX hE dX0_countDifferent_98 (⟨by rw [show d + (A.length - i) + (C.length - j) = dif A C by rw [← hr, difI_end _ hend]; omega], rfl⟩) (by decide) (by decide)
      · have hi : i < A.length := Nat.not_le.mp (fun q => c_12 (nI_le q (by omega)))
        refine j_iload hX dX0_countDifferent_15 2 rfl ?_
        refine j_aload_n hX dX0_countDifferent_17 4 rfl ?_
        refine j_get (v := .int (nI C.length)) hX hB2.1 rfl wf_X0 2 (by decide) lk_X0_18 (fun _ h => h) rfl dX0_countDifferent_18 ?_
        refine j_icmp_ge hX 82 dX0_countDifferent_21 (by decide) (fun c_21 => ?_) (fun c_21 => ?_)
        · have hend : A.length ≤ i ∨ C.length ≤ j := Or.inr ((nI_leI (by omega) (by omega)).mp c_21)
          refine j_iload_n hX dX0_countDifferent_82 0 rfl ?_
          refine j_aload_n hX dX0_countDifferent_83 3 rfl ?_
          refine j_get (v := .int (nI A.length)) hX hB.1 rfl wf_X0 2 (by decide) lk_X0_18 (fun _ h => h) rfl dX0_countDifferent_84 ?_
          refine j_iload_n hX dX0_countDifferent_87 1 rfl ?_
          refine j_isub hX dX0_countDifferent_88 ?_
          refine j_eqi (y := nI (A.length - i)) (pk_sub (by omega)) ?_
          refine j_iadd hX dX0_countDifferent_89 ?_
          refine j_eqi (y := nI (d + (A.length - i))) (nI_add _ _) ?_
          refine j_aload_n hX dX0_countDifferent_90 4 rfl ?_
          refine j_get (v := .int (nI C.length)) hX hB2.1 rfl wf_X0 2 (by decide) lk_X0_18 (fun _ h => h) rfl dX0_countDifferent_91 ?_
          refine j_iload hX dX0_countDifferent_94 2 rfl ?_
          refine j_isub hX dX0_countDifferent_96 ?_
          refine j_eqi (y := nI (C.length - j)) (pk_sub (by omega)) ?_
          refine j_iadd hX dX0_countDifferent_97 ?_
          refine j_eqi (y := nI (d + (A.length - i) + (C.length - j))) (nI_add _ _) ?_
          exact j_iret hX hE dX0_countDifferent_98 (⟨by rw [show d + (A.length - i) + (C.length - j) = dif A C by rw [← hr, difI_end _ hend]; omega], rfl⟩) (by decide) (by decide)
        · have hj : j < C.length := Nat.not_le.mp (fun q => c_21 (nI_le q (by omega)))
          have ei : A[i]? = some A[i] := List.getElem?_eq_getElem hi
          have ej : C[j]? = some C[j] := List.getElem?_eq_getElem hj
          have ki := hr1 i _ ei
          have kj := hr2 j _ ej
          have hAi := hA.2.2 _ (List.mem_of_getElem? ei)
          have hCj := hC.2.2 _ (List.mem_of_getElem? ej)
          have t57 : tf i = tf2 j ↔ (A[i]).2 = (C[j]).2 := by rw [ki.2, kj.2]; exact nI_eq (by omega) (by omega)
          refine j_aload_n hX dX0_countDifferent_24 3 rfl ?_
          refine j_iload_n hX dX0_countDifferent_25 1 rfl ?_
          refine j_aload_n hX dX0_countDifferent_26 4 rfl ?_
          refine j_get (v := .ref ca2) hX hB2.1 rfl wf_X0 0 (by decide) lk_X0_9 (fun _ h => h) rfl dX0_countDifferent_27 ?_
          refine j_iload hX dX0_countDifferent_30 2 rfl ?_
          refine j_iconst (v := 4) hX dX0_countDifferent_32 (by decide) ?_
          refine j_imul hX dX0_countDifferent_33 ?_
          refine j_eqi (y := nI (4 * j)) (ix4' j) ?_
          refine j_callV (As := [.int (nI i), .ref ca2, .int (nI (4 * j))]) (rest := []) hX (c_X0_compareRow (xl X) (xK X) g b ca oa A.length cf tf hB i ca2 80 (4 * j) cf2 (by omega) hB2.2.1 (by omega) (by decide)) hB.1 rfl lk_X0_44 wI_X0_compareRow wV_X0_X0_compareRow wN_X0 wC_X0_compareRow hd_X0_compareRow rfl (by rw [hL]; decide) (by decide) rfl (Nat.le_of_ble_eq_true rfl) dX0_countDifferent_34 (by rw [hR]; decide) (by rw [hR]; decide) jx_no ?_
          rintro _ _ ⟨rfl, rfl⟩
          rcases cmp4_tri cf cf2 (4 * i) (4 * j) with ⟨e9, c9⟩ | ⟨e9, c9⟩ | ⟨e9, c9⟩
          · rw [e9]
            have hk : key (A[i]).1 < key (C[j]).1 := by rw [← ki.1, ← kj.1]; exact c9
            show J X 0 0 g 37 [(2, .int (nI d)), (3, .int (nI i)), (4, .int (nI j)), (0, .ref b), (1, .ref b2)] [.int (-1)]
            refine j_istore (lv' := [(5, .int (-1)), (2, .int (nI d)), (3, .int (nI i)), (4, .int (nI j)), (0, .ref b), (1, .ref b2)]) hX dX0_countDifferent_37 (by rw [hn]; decide) rfl ?_
            refine j_iload hX dX0_countDifferent_39 0 rfl ?_
            refine j_if_ne hX 60 dX0_countDifferent_41 (by decide) (fun _ => ?_) (fun c_41 => absurd c_41 (show ¬ (-1 : Int32) = 0 by decide))
            refine j_iinc (v := nI (d + 1)) (lv' := [(2, .int (nI (d + 1))), (5, .int (-1)), (3, .int (nI i)), (4, .int (nI j)), (0, .ref b), (1, .ref b2)]) hX dX0_countDifferent_60 1 rfl (nI_1 d) (by rw [hn]; decide) rfl ?_
            refine j_iload hX dX0_countDifferent_63 1 rfl ?_
            refine j_if_gt hX 71 dX0_countDifferent_65 (by decide) (fun c_65 => absurd c_65 (show ¬ (0 : Int32) < -1 by decide)) (fun _ => ?_)
            refine j_iinc (v := nI (i + 1)) (lv' := [(3, .int (nI (i + 1))), (2, .int (nI (d + 1))), (5, .int (-1)), (4, .int (nI j)), (0, .ref b), (1, .ref b2)]) hX dX0_countDifferent_68 2 rfl (nI_1 i) (by rw [hn]; decide) rfl ?_
            refine j_iload hX dX0_countDifferent_71 2 rfl ?_
            refine j_if_lt hX 79 dX0_countDifferent_73 (by decide) (fun _ => ?_) (fun c_73 => absurd (show (-1 : Int32) < 0 by decide) c_73)
            refine j_goto hX 7 dX0_countDifferent_79 (by decide) ?_
            refine j_sub [1, 0, 3, 4, 5] rfl ?_
            rw [difI_step ei ej] at hr
            exact ih (d + 1) (i + 1) j (by omega) (by omega) (by omega) (by rw [if_pos hk] at hr; omega)
          · rw [e9]
            have hk : (A[i]).1 = (C[j]).1 := by rw [← ki.1, ← kj.1]; exact c9
            have hk2 : key (A[i]).1 = key (C[j]).1 := by rw [hk]
            show J X 0 0 g 37 [(2, .int (nI d)), (3, .int (nI i)), (4, .int (nI j)), (0, .ref b), (1, .ref b2)] [.int 0]
            refine j_istore (lv' := [(5, .int 0), (2, .int (nI d)), (3, .int (nI i)), (4, .int (nI j)), (0, .ref b), (1, .ref b2)]) hX dX0_countDifferent_37 (by rw [hn]; decide) rfl ?_
            refine j_iload hX dX0_countDifferent_39 0 rfl ?_
            refine j_if_ne hX 60 dX0_countDifferent_41 (by decide) (fun c_41 => absurd c_41 (show ¬ ¬ (0 : Int32) = 0 from fun q => q rfl)) (fun _ => ?_)
            refine j_aload_n hX dX0_countDifferent_44 4 rfl ?_
            refine j_get (v := .ref oa) hX hB.1 rfl wf_X0 1 (by decide) lk_X0_15 (fun _ h => h) rfl dX0_countDifferent_45 ?_
            refine j_iload_n hX dX0_countDifferent_48 2 rfl ?_
            refine j_ialdN hX hB.2.2 (i) (rfl) (by omega) (by decide) dX0_countDifferent_49 ?_
            refine j_aload_n hX dX0_countDifferent_50 5 rfl ?_
            refine j_get (v := .ref oa2) hX hB2.1 rfl wf_X0 1 (by decide) lk_X0_15 (fun _ h => h) rfl dX0_countDifferent_51 ?_
            refine j_iload hX dX0_countDifferent_54 3 rfl ?_
            refine j_ialdN hX hB2.2.2 (j) (rfl) (by omega) (by decide) dX0_countDifferent_56 ?_
            refine j_icmp_eq hX 63 dX0_countDifferent_57 (by decide) (fun c_57 => ?_) (fun c_57 => ?_)
            · refine j_iload hX dX0_countDifferent_63 0 rfl ?_
              refine j_if_gt hX 71 dX0_countDifferent_65 (by decide) (fun c_65 => absurd c_65 (show ¬ (0 : Int32) < 0 by decide)) (fun _ => ?_)
              refine j_iinc (v := nI (i + 1)) (lv' := [(3, .int (nI (i + 1))), (5, .int 0), (2, .int (nI d)), (4, .int (nI j)), (0, .ref b), (1, .ref b2)]) hX dX0_countDifferent_68 2 rfl (nI_1 i) (by rw [hn]; decide) rfl ?_
              refine j_iload hX dX0_countDifferent_71 1 rfl ?_
              refine j_if_lt hX 79 dX0_countDifferent_73 (by decide) (fun c_73 => absurd c_73 (show ¬ (0 : Int32) < 0 by decide)) (fun _ => ?_)
              refine j_iinc (v := nI (j + 1)) (lv' := [(4, .int (nI (j + 1))), (3, .int (nI (i + 1))), (5, .int 0), (2, .int (nI d)), (0, .ref b), (1, .ref b2)]) hX dX0_countDifferent_76 3 rfl (nI_1 j) (by rw [hn]; decide) rfl ?_
              refine j_goto hX 7 dX0_countDifferent_79 (by decide) ?_
              refine j_sub [3, 1, 0, 4, 5] rfl ?_
              rw [difI_step ei ej] at hr
              exact ih d (i + 1) (j + 1) (by omega) (by omega) (by omega) (by rw [if_neg (by omega), if_neg (by omega), if_pos (t57.mp c_57)] at hr; omega)
            · refine j_iinc (v := nI (d + 1)) (lv' := [(2, .int (nI (d + 1))), (5, .int 0), (3, .int (nI i)), (4, .int (nI j)), (0, .ref b), (1, .ref b2)]) hX dX0_countDifferent_60 1 rfl (nI_1 d) (by rw [hn]; decide) rfl ?_
              refine j_iload hX dX0_countDifferent_63 1 rfl ?_
              refine j_if_gt hX 71 dX0_countDifferent_65 (by decide) (fun c_65 => absurd c_65 (show ¬ (0 : Int32) < 0 by decide)) (fun _ => ?_)
              refine j_iinc (v := nI (i + 1)) (lv' := [(3, .int (nI (i + 1))), (2, .int (nI (d + 1))), (5, .int 0), (4, .int (nI j)), (0, .ref b), (1, .ref b2)]) hX dX0_countDifferent_68 2 rfl (nI_1 i) (by rw [hn]; decide) rfl ?_
              refine j_iload hX dX0_countDifferent_71 2 rfl ?_
              refine j_if_lt hX 79 dX0_countDifferent_73 (by decide) (fun c_73 => absurd c_73 (show ¬ (0 : Int32) < 0 by decide)) (fun _ => ?_)
              refine j_iinc (v := nI (j + 1)) (lv' := [(4, .int (nI (j + 1))), (3, .int (nI (i + 1))), (2, .int (nI (d + 1))), (5, .int 0), (0, .ref b), (1, .ref b2)]) hX dX0_countDifferent_76 3 rfl (nI_1 j) (by rw [hn]; decide) rfl ?_
              refine j_goto hX 7 dX0_countDifferent_79 (by decide) ?_
              refine j_sub [2, 1, 0, 4, 5] rfl ?_
              rw [difI_step ei ej] at hr
              exact ih (d + 1) (i + 1) (j + 1) (by omega) (by omega) (by omega) (by rw [if_neg (by omega), if_neg (by omega), if_neg (fun q => c_57 (t57.mpr q))] at hr; omega)
          · rw [e9]
            have hk : key (C[j]).1 < key (A[i]).1 := by rw [← ki.1, ← kj.1]; exact c9
            show J X 0 0 g 37 [(2, .int (nI d)), (3, .int (nI i)), (4, .int (nI j)), (0, .ref b), (1, .ref b2)] [.int 1]
            refine j_istore (lv' := [(5, .int 1), (2, .int (nI d)), (3, .int (nI i)), (4, .int (nI j)), (0, .ref b), (1, .ref b2)]) hX dX0_countDifferent_37 (by rw [hn]; decide) rfl ?_
            refine j_iload hX dX0_countDifferent_39 0 rfl ?_
            refine j_if_ne hX 60 dX0_countDifferent_41 (by decide) (fun _ => ?_) (fun c_41 => absurd c_41 (show ¬ (1 : Int32) = 0 by decide))
            refine j_iinc (v := nI (d + 1)) (lv' := [(2, .int (nI (d + 1))), (5, .int 1), (3, .int (nI i)), (4, .int (nI j)), (0, .ref b), (1, .ref b2)]) hX dX0_countDifferent_60 1 rfl (nI_1 d) (by rw [hn]; decide) rfl ?_
            refine j_iload hX dX0_countDifferent_63 1 rfl ?_
            refine j_if_gt hX 71 dX0_countDifferent_65 (by decide) (fun _ => ?_) (fun c_65 => absurd (show (0 : Int32) < 1 by decide) c_65)
            refine j_iload hX dX0_countDifferent_71 1 rfl ?_
            refine j_if_lt hX 79 dX0_countDifferent_73 (by decide) (fun c_73 => absurd c_73 (show ¬ (1 : Int32) < 0 by decide)) (fun _ => ?_)
            refine j_iinc (v := nI (j + 1)) (lv' := [(4, .int (nI (j + 1))), (2, .int (nI (d + 1))), (5, .int 1), (3, .int (nI i)), (0, .ref b), (1, .ref b2)]) hX dX0_countDifferent_76 3 rfl (nI_1 j) (by rw [hn]; decide) rfl ?_
            refine j_goto hX 7 dX0_countDifferent_79 (by decide) ?_
            refine j_sub [1, 3, 0, 4, 5] rfl ?_
            rw [difI_step ei ej] at hr
            exact ih (d + 1) i (j + 1) (by omega) (by omega) (by omega) (by rw [if_neg (by omega), if_pos hk] at hr; omega)
  refine j_iconst (v := nI 0) hX dX0_countDifferent_0 (by decide) ?_
  refine j_istore_n (lv' := [(2, .int (nI 0)), (0, .ref b), (1, .ref b2)]) hX dX0_countDifferent_1 (by rw [hn]; decide) rfl ?_
  refine j_iconst (v := nI 0) hX dX0_countDifferent_2 (by decide) ?_
  refine j_istore_n (lv' := [(3, .int (nI 0)), (2, .int (nI 0)), (0, .ref b), (1, .ref b2)]) hX dX0_countDifferent_3 (by rw [hn]; decide) rfl ?_
  refine j_iconst (v := nI 0) hX dX0_countDifferent_4 (by decide) ?_
  refine j_istore (lv' := [(4, .int (nI 0)), (3, .int (nI 0)), (2, .int (nI 0)), (0, .ref b), (1, .ref b2)]) hX dX0_countDifferent_5 (by rw [hn]; decide) rfl ?_
  refine j_sub [2, 1, 0, 3, 4] rfl ?_
  exact loop (A.length + C.length) 0 0 0 (by omega) (by omega) (by omega) (by rw [Nat.zero_add]; rfl)
end
section
/-! a view's rows, added one behind another -/
def fldB {α : Type} (f : α → Option (Row × Int)) : List α → Bg → Option Bg
  | [], B => some B
  | x :: L, B => match f x with
    | none => fldB f L B
    | some q => match addB q.1 q.2 B with
      | none => none
      | some B' => fldB f L B'
theorem fld_skip {α : Type} {f : α → Option (Row × Int)} {L : List α} {B : Bg} {k : Nat} (hk : k < L.length) (h : f L[k] = none) : fldB f (L.drop k) B = fldB f (L.drop (k + 1)) B := by
  rw [List.drop_eq_getElem_cons hk]; simp only [fldB, h]
theorem fld_no {α : Type} {f : α → Option (Row × Int)} {L : List α} {B : Bg} {k : Nat} {q : Row × Int} (hk : k < L.length) (h : f L[k] = some q) (ha : addB q.1 q.2 B = none) : fldB f (L.drop k) B = none := by
  rw [List.drop_eq_getElem_cons hk]; simp only [fldB, h, ha]
theorem fld_yes {α : Type} {f : α → Option (Row × Int)} {L : List α} {B B' : Bg} {k : Nat} {q : Row × Int} (hk : k < L.length) (h : f L[k] = some q) (ha : addB q.1 q.2 B = some B') : fldB f (L.drop k) B = fldB f (L.drop (k + 1)) B' := by
  rw [List.drop_eq_getElem_cons hk]; simp only [fldB, h, ha]
theorem fld_end {α : Type} {f : α → Option (Row × Int)} {L : List α} {B : Bg} {k : Nat} (hk : L.length ≤ k) : fldB f (L.drop k) B = some B := by
  rw [List.drop_eq_nil_of_le hk]; rfl
theorem nm1 {q a : Nat} (h : q ≠ a) : q ∉ [a] := by simpa using h
theorem nm3 {q a b c : Nat} (h1 : q ≠ a) (h2 : q ≠ b) (h3 : q ≠ c) : q ∉ [a, b, c] := by simp [h1, h2, h3]
theorem nm4 {q a b c d : Nat} (h1 : q ≠ a) (h2 : q ≠ b) (h3 : q ≠ c) (h4 : q ≠ d) : q ∉ [a, b, c, d] := by simp [h1, h2, h3, h4]
theorem isBag.at {K : Cst} {g g' : Wd} {ad : List Nat} {b ca oa n : Nat} {cf tf : Nat → Int32} (h : isBag K g b ca oa n cf tf) (hF : Fr g g' ad) (h1 : b ∉ ad) (h2 : ca ∉ ad) (h3 : oa ∉ ad) : isBag K g' b ca oa n cf tf := ⟨hF.at h.1 h1, hF.at h.2.1 h2, hF.at h.2.2 h3⟩
theorem bagR.at {K : Cst} {g g' : Wd} {ad : List Nat} {b ca oa : Nat} {B : Bg} (h : bagR K g b ca oa B) (hF : Fr g g' ad) (h1 : b ∉ ad) (h2 : ca ∉ ad) (h3 : oa ∉ ad) : bagR K g' b ca oa B := by
  obtain ⟨cf, tf, hB, hr⟩ := h
  exact ⟨cf, tf, hB.at hF h1 h2 h3, hr⟩
/-- what makeInto leaves: into the bag at b, with the row at rw -/
def mkP (K : Cst) (g : Wd) (b ca oa rw : Nat) (I : (Nat → Int32) → Prop) (o : Option Bg) (v : Option Value) (g' : Wd) : Prop := Fr g g' [b, ca, oa, rw] ∧ (∃ rf, g' rw = some (aI K 4 rf) ∧ I rf) ∧ match o with
  | none => v = some (.int 0) ∧ ∃ n cf tf, isBag K g' b ca oa n cf tf
  | some B' => v = some (.int 1) ∧ bagR K g' b ca oa B' ∧ good B'
theorem row_copied {lf rf : Nat → Int32} {k : Nat} : rowAt (va_cpy lf rf (4 * k) 0 4) 0 = rowAt lf (4 * k) := by
  rw [rowAt_cpy_in (by omega) (by omega)]; simp
def cellR (r : Row) (c : Nat) : Int32 := match c with
  | 0 => r.1
  | 1 => r.2.1
  | 2 => r.2.2.1
  | _ => r.2.2.2
theorem cellR_at {f : Nat → Int32} {i c : Nat} (hc : c < 4) : f (i + c) = cellR (rowAt f i) c := by
  rcases (show c = 0 ∨ c = 1 ∨ c = 2 ∨ c = 3 by omega) with rfl | rfl | rfl | rfl <;> rfl
theorem rep_cell {f t : Nat → Int32} {B : Bg} (h : rep f t B) {k c : Nat} (hk : k < B.length) (hc : c < 4) : f (4 * k + c) = cellR (B[k]).1 c := by
  rw [cellR_at (f := f) (i := 4 * k) hc, (h k _ (List.getElem?_eq_getElem hk)).1]
theorem Bg_lt {B : Bg} (h : good B) {k : Nat} (hk : k < B.length) : (B[k]).2 ≤ 1000000000 ∧ 0 < (B[k]).2 := by
  have := h.2.2 _ (List.getElem_mem hk); omega
theorem fr2 {g g1 g2 : Wd} {b ca oa rw : Nat} (h : Fr g g1 [b, ca, oa, rw]) (h2 : Fr g1 g2 [rw]) : Fr g g2 [b, ca, oa, rw] := h.tr (h2.mono (fun q hq => by simp at hq; simp [hq]))
theorem fr3 {g g1 g2 g3 : Wd} {b ca oa rw : Nat} (h : Fr g g1 [b, ca, oa, rw]) (h2 : Fr g1 g2 [rw]) (h3 : Fr g2 g3 [b, ca, oa]) : Fr g g3 [b, ca, oa, rw] := (fr2 h h2).tr (h3.mono (fun q hq => by simp at hq; rcases hq with h | h | h <;> simp [h]))
theorem sub_l {a b : Nat} (ha : a ≤ 1000000000) (hb : b ≤ 1000000000) : (nI a - nI b).toInt64.toInt = (a : Int) - b := by
  rw [Int32.toInt_toInt64, pk_sub_toInt (by omega) (by omega)]
theorem tms_le {B : Bg} (h : good B) (r : Row) : tms B r ≤ 1000000000 := by
  unfold tms
  split
  · rename_i x hx
    have := h.2.2 x (List.mem_of_getElem? hx)
    split <;> omega
  · omega
/-- the comparisons of a selection -/
def selH (cm : Nat) (a x : Int32) : Bool := match cm with
  | 0 => decide (a = x)
  | 1 => decide (¬ a = x)
  | 2 => decide (a < x)
  | 3 => decide (x ≤ a)
  | 4 => decide (x < a)
  | _ => decide (a ≤ x)
theorem b01_t {x : Bool} (h : ¬ b01 x = 0) : x = true := by cases x; exact absurd rfl h; rfl
theorem b01_f {x : Bool} (h : b01 x = 0) : ¬ x = true := by cases x; decide; exact absurd h (by decide)
theorem b01_1 {x : Bool} (h : x = true) : (1 : Int32) = b01 x := by rw [h]; rfl
theorem b01_0 {x : Bool} (h : x = false) : (0 : Int32) = b01 x := by rw [h]; rfl
/-- chosen columns: none is NONE -/
def chv (o : Option Nat) : Int32 := match o with
  | none => -1
  | some c => nI c
def pk1 (cs : Nat → Option Nat) (r : Row) (i : Nat) : Int32 := match cs i with
  | none => 0
  | some c => cellR r c
def pickR (cs : Nat → Option Nat) (r : Row) : Row := (pk1 cs r 0, pk1 cs r 1, pk1 cs r 2, pk1 cs r 3)
theorem rowAt_f {f : Nat → Int32} {r : Row} (h : ∀ j, j < 4 → f j = cellR r j) : rowAt f 0 = r := by
  have h0 := h 0 (by omega); have h1 := h 1 (by omega); have h2 := h 2 (by omega); have h3 := h 3 (by omega)
  obtain ⟨a, b, c, d⟩ := r
  simp only [cellR] at h0 h1 h2 h3
  simp [rowAt, h0, h1, h2, h3]
theorem nI_m1ne {c : Nat} (h : c < 2 ^ 31) : ¬ nI c = -1 := fun q => by
  have := nI_toInt h
  rw [q] at this
  have e : (-1 : Int32).toInt = -1 := by decide
  omega
/-- a pair of rows, the left one of w columns, one behind the other -/
def pc1 (w : Nat) (x y : Row) (j : Nat) : Int32 := if j < w then cellR x j else cellR y (j - w)
def pairR (w : Nat) (x y : Row) : Row := (pc1 w x y 0, pc1 w x y 1, pc1 w x y 2, pc1 w x y 3)
theorem cellR_pair {w : Nat} {x y : Row} {j : Nat} (h : j < 4) : cellR (pairR w x y) j = pc1 w x y j := by
  rcases (show j = 0 ∨ j = 1 ∨ j = 2 ∨ j = 3 by omega) with rfl | rfl | rfl | rfl <;> rfl
theorem fld_cs {α : Type} {f : α → Option (Row × Int)} {Z : List α} {B : Bg} {a : α} (h : f a = none) : fldB f (a :: Z) B = fldB f Z B := by simp only [fldB, h]
theorem fld_cn {α : Type} {f : α → Option (Row × Int)} {Z : List α} {B : Bg} {a : α} {q : Row × Int} (h : f a = some q) (ha : addB q.1 q.2 B = none) : fldB f (a :: Z) B = none := by simp only [fldB, h, ha]
theorem fld_cy {α : Type} {f : α → Option (Row × Int)} {Z : List α} {B B' : Bg} {a : α} {q : Row × Int} (h : f a = some q) (ha : addB q.1 q.2 B = some B') : fldB f (a :: Z) B = fldB f Z B' := by simp only [fldB, h, ha]
/-- the pairs of two bags' rows -/
def prs (L R : Bg) : List ((Row × Nat) × (Row × Nat)) := L.flatMap (fun x => R.map (fun y => (x, y)))
theorem prs_drop {L R : Bg} {i : Nat} (h : i < L.length) : prs (L.drop i) R = (R.drop 0).map (fun y => (L[i], y)) ++ prs (L.drop (i + 1)) R := by
  unfold prs; rw [List.drop_eq_getElem_cons h, List.flatMap_cons, List.drop_zero]
theorem map_drop {R : Bg} {x : Row × Nat} {j : Nat} (h : j < R.length) (Z : List ((Row × Nat) × (Row × Nat))) : (R.drop j).map (fun y => (x, y)) ++ Z = (x, R[j]) :: ((R.drop (j + 1)).map (fun y => (x, y)) ++ Z) := by
  rw [List.drop_eq_getElem_cons h]; rfl
theorem mul_l {a b : Nat} (ha : a ≤ 1000000000) (hb : b ≤ 1000000000) : ((nI a).toInt64 * (nI b).toInt64).toInt = (a : Int) * b ∧ (0 : Int) ≤ (a : Int) * b ∧ (a : Int) * b ≤ 1000000000000000000 := by
  have h1 : a * b ≤ 1000000000 * 1000000000 := Nat.mul_le_mul ha hb
  have h2 : (a : Int) * b = ((a * b : Nat) : Int) := by simp
  have h3 : (0 : Int) ≤ (a : Int) * b := by rw [h2]; omega
  have h4 : (a : Int) * b ≤ 1000000000000000000 := by rw [h2]; omega
  refine ⟨?_, h3, h4⟩
  rw [Int64.toInt_mul, l_nI (by omega), l_nI (by omega), Int.bmod_def]
  split <;> omega
def jnF (c d w : Nat) (q : (Row × Nat) × (Row × Nat)) : Option (Row × Int) := if cellR q.1.1 c = cellR q.2.1 d then some (pairR w q.1.1 q.2.1, (q.1.2 : Int) * (q.2.2 : Int)) else none
theorem jnF_y {c d w : Nat} {x y : Row × Nat} (h : cellR x.1 c = cellR y.1 d) : jnF c d w (x, y) = some (pairR w x.1 y.1, (x.2 : Int) * (y.2 : Int)) := if_pos h
theorem jnF_n {c d w : Nat} {x y : Row × Nat} (h : ¬ cellR x.1 c = cellR y.1 d) : jnF c d w (x, y) = none := if_neg h
theorem jn_end {c d w : Nat} {x : Row × Nat} {R : Bg} {j : Nat} {Z : List ((Row × Nat) × (Row × Nat))} (h : R.length ≤ j) (B : Bg) : fldB (jnF c d w) ((R.drop j).map (fun y => (x, y)) ++ Z) B = fldB (jnF c d w) Z B := by
  rw [List.drop_eq_nil_of_le h]; rfl
theorem jn_skip {c d w : Nat} {x : Row × Nat} {R : Bg} {j : Nat} {Z : List ((Row × Nat) × (Row × Nat))} {B : Bg} (h : j < R.length) (hc : ¬ cellR x.1 c = cellR (R[j]).1 d) : fldB (jnF c d w) ((R.drop j).map (fun y => (x, y)) ++ Z) B = fldB (jnF c d w) ((R.drop (j + 1)).map (fun y => (x, y)) ++ Z) B := by
  rw [map_drop h, fld_cs (jnF_n hc)]
theorem jn_yes {c d w : Nat} {x : Row × Nat} {R : Bg} {j : Nat} {Z : List ((Row × Nat) × (Row × Nat))} {B B' : Bg} (h : j < R.length) (hc : cellR x.1 c = cellR (R[j]).1 d) (ha : addB (pairR w x.1 (R[j]).1) ((x.2 : Int) * ((R[j]).2 : Int)) B = some B') : fldB (jnF c d w) ((R.drop j).map (fun y => (x, y)) ++ Z) B = fldB (jnF c d w) ((R.drop (j + 1)).map (fun y => (x, y)) ++ Z) B' := by
  rw [map_drop h, fld_cy (jnF_y hc) ha]
theorem jn_no {c d w : Nat} {x : Row × Nat} {R : Bg} {j : Nat} {Z : List ((Row × Nat) × (Row × Nat))} {B : Bg} (h : j < R.length) (hc : cellR x.1 c = cellR (R[j]).1 d) (ha : addB (pairR w x.1 (R[j]).1) ((x.2 : Int) * ((R[j]).2 : Int)) B = none) : fldB (jnF c d w) ((R.drop j).map (fun y => (x, y)) ++ Z) B = none := by
  rw [map_drop h, fld_cn (jnF_y hc) ha]
end
section
set_option maxRecDepth 20000 in
set_option maxHeartbeats 600000 in
/-- latest() -/
theorem c_X6_latest (l : Launch) (K : Cst) (g : Wd) (lr nw nx p : Nat) (vw : Value) (cc ch : Int32) (hlr : g lr = some (ob 6 [.ref nw, .ref nx, vw, .int cc, .int (nI p), .int ch])) (hp : p < 2 ^ 31) : Ct l K yX6_latest cX6_latest 1 (some (.object "BagViews$Bag")) 0 [.ref lr] g (fun v g' => v = some (.ref (if 0 < p then nx else nw)) ∧ g = g') (fun _ _ => False) 0 0 := by
  refine ct_of (by decide) (Nat.le_of_ble_eq_true rfl) ?_
  intro X hl hK hX hE hn hL hR hm
  subst hl; subst hK
  show J X 0 0 g 0 [(0, .ref lr)] []
  refine j_aload_n hX dX6_latest_0 0 rfl ?_
  refine j_get (v := .int (nI p)) hX hlr rfl wf_X6 4 (by decide) lk_X6_27 (fun _ h => h) rfl dX6_latest_1 ?_
  refine j_if_le hX 14 dX6_latest_4 (by decide) (fun c_4 => ?_) (fun c_4 => ?_)
  · have c4 : ¬ 0 < p := fun q => nI_nle q hp c_4
    refine j_aload_n hX dX6_latest_14 0 rfl ?_
    refine j_get (v := .ref nw) hX hlr rfl wf_X6 0 (by decide) lk_X6_10 (fun _ h => h) rfl dX6_latest_15 ?_
    exact j_aret hX hE dX6_latest_18 (⟨by rw [if_neg c4], rfl⟩) (by decide) (by decide)
  · have c4 : 0 < p := Nat.pos_of_ne_zero (fun q => c_4 (by rw [q]; decide))
    refine j_aload_n hX dX6_latest_7 0 rfl ?_
    refine j_get (v := .ref nx) hX hlr rfl wf_X6 1 (by decide) lk_X6_16 (fun _ h => h) rfl dX6_latest_8 ?_
    refine j_goto hX 18 dX6_latest_11 (by decide) ?_
    exact j_aret hX hE dX6_latest_18 (⟨by rw [if_pos c4], rfl⟩) (by decide) (by decide)

set_option maxRecDepth 20000 in
set_option maxHeartbeats 600000 in
/-- once: makeInto -/
theorem c_X5_makeInto (l : Launch) (K : Cst) (g : Wd) (b ca oa rw : Nat) (rf0 : Nat → Int32) (hI : bagR K g b ca oa []) (hrw : g rw = some (aI K 4 rf0)) (v rr : Nat) (dp : Int32) (lr nw nx p : Nat) (vw : Value) (cc ch : Int32) (hlr : g lr = some (ob 6 [.ref nw, .ref nx, vw, .int cc, .int (nI p), .int ch])) (hp : p < 2 ^ 31) (lb lca loa : Nat) (L : Bg) (hlb : (if 0 < p then nx else nw) = lb) (hL : bagR K g lb lca loa L) (gL : good L) (nb : lb ≠ b) (nca : lca ≠ ca) (noa : loa ≠ oa) (hv : g v = some (ob 5 [.ref lr, .ref rr, .int dp, .ref rw])) : Ct l K yX5_makeInto cX5_makeInto 5 (some .boolean) 4 [.ref v, .ref b] g (mkP K g b ca oa rw (fun _ => True) (fldB (fun x : Row × Nat => some (x.1, (1 : Int))) L [])) (fun _ _ => False) 0 0 := by
  refine ct_of (by decide) (Nat.le_of_ble_eq_true rfl) ?_
  intro X hl hK hX hE hn hL hR hm
  subst hl; subst hK
  show J X 0 0 g 0 [(0, .ref v), (1, .ref b)] []
  obtain ⟨if0, it0, hI0, hIr⟩ := id hI
  obtain ⟨lf, lt, hbg, hLr⟩ := hL
  have hLn : L.length ≤ 20 := gL.2.1
  have n_v_b : v ≠ b := ne_ob (hv) (hI0.1) (by simp)
  have n_v_ca : v ≠ ca := ne_ob (hv) (hI0.2.1) (by simp)
  have n_v_oa : v ≠ oa := ne_ob (hv) (hI0.2.2) (by simp)
  have n_v_rw : v ≠ rw := ne_ob (hv) (hrw) (by simp)
  have n_lr_b : lr ≠ b := ne_ob (hlr) (hI0.1) (by simp)
  have n_lr_ca : lr ≠ ca := ne_ob (hlr) (hI0.2.1) (by simp)
  have n_lr_oa : lr ≠ oa := ne_ob (hlr) (hI0.2.2) (by simp)
  have n_lr_rw : lr ≠ rw := ne_ob (hlr) (hrw) (by simp)
  have n_lb_b : lb ≠ b := nb
  have n_lb_ca : lb ≠ ca := ne_ob (hbg.1) (hI0.2.1) (by simp)
  have n_lb_oa : lb ≠ oa := ne_ob (hbg.1) (hI0.2.2) (by simp)
  have n_lb_rw : lb ≠ rw := ne_ob (hbg.1) (hrw) (by simp)
  have n_lca_b : lca ≠ b := ne_ob (hbg.2.1) (hI0.1) (by simp)
  have n_lca_ca : lca ≠ ca := nca
  have n_lca_oa : lca ≠ oa := ne_ob (hbg.2.1) (hI0.2.2) (by simp)
  have n_lca_rw : lca ≠ rw := ne_ob (hbg.2.1) (hrw) (by simp)
  have n_loa_b : loa ≠ b := ne_ob (hbg.2.2) (hI0.1) (by simp)
  have n_loa_ca : loa ≠ ca := ne_ob (hbg.2.2) (hI0.2.1) (by simp)
  have n_loa_oa : loa ≠ oa := noa
  have n_loa_rw : loa ≠ rw := ne_ob (hbg.2.2) (hrw) (by simp)
  have n_b_rw : b ≠ rw := ne_ob (hI0.1) hrw (by simp)
  have n_ca_rw : ca ≠ rw := ne_ob (hI0.2.1) hrw (by simp)
  have n_oa_rw : oa ≠ rw := ne_ob (hI0.2.2) hrw (by simp)
  have loop : ∀ (m k : Nat) (g1 : Wd) (acc : Bg), k + m = L.length → Fr g g1 [b, ca, oa, rw] → bagR (xK X) g1 b ca oa acc → good acc → (∃ rf, g1 rw = some (aI (xK X) 4 rf) ∧ (fun _ => True) rf) → fldB (fun x : Row × Nat => some (x.1, (1 : Int))) (L.drop k) acc = fldB (fun x : Row × Nat => some (x.1, (1 : Int))) L [] → J X 0 0 g1 13 [(4, .int (nI k)), (3, .int 1), (2, .ref lb), (0, .ref v), (1, .ref b)] [] := by
    intro m
    induction m with
    | zero =>
      intro k g1 acc hk hF hI1 hGa hrwE hRs
      obtain ⟨rf1, rw1, hIr1⟩ := hrwE
      have v1 := Fr.at hF hv (nm4 n_v_b n_v_ca n_v_oa n_v_rw)
      have lr1 := Fr.at hF hlr (nm4 n_lr_b n_lr_ca n_lr_oa n_lr_rw)
      have bg1 := isBag.at hbg hF (nm4 n_lb_b n_lb_ca n_lb_oa n_lb_rw) (nm4 n_lca_b n_lca_ca n_lca_oa n_lca_rw) (nm4 n_loa_b n_loa_ca n_loa_oa n_loa_rw)
      refine j_iload hX dX5_makeInto_13 0 rfl ?_
      refine j_aload_n hX dX5_makeInto_15 2 rfl ?_
      refine j_getN (v := .int (nI L.length)) hX bg1.1 rfl wf_X0 2 (by decide) nk_X5_19 (fun _ h => h) rfl dX5_makeInto_16 ?_
      refine j_icmp_ge hX 52 dX5_makeInto_19 (by decide) (fun _ => ?_) (fun c_19 => absurd (nI_le (a := L.length) (b := k) (by omega) (by omega)) c_19)
      refine j_iload_n hX dX5_makeInto_52 1 rfl ?_
      exact j_zret hX hE dX5_makeInto_53 (by first | rfl | decide | assumption) (⟨hF, ⟨rf1, rw1, hIr1⟩, by rw [← hRs, fld_end (by omega)]; exact ⟨rfl, hI1, hGa⟩⟩) (by decide) (by decide)
    | succ m ih =>
      intro k g1 acc hk hF hI1 hGa hrwE hRs
      obtain ⟨rf1, rw1, hIr1⟩ := hrwE
      have hk9 : k < L.length := by omega
      have hx9 : L[k]? = some L[k] := List.getElem?_eq_getElem hk9
      have hLk := Bg_lt gL hk9
      have v1 := Fr.at hF hv (nm4 n_v_b n_v_ca n_v_oa n_v_rw)
      have lr1 := Fr.at hF hlr (nm4 n_lr_b n_lr_ca n_lr_oa n_lr_rw)
      have bg1 := isBag.at hbg hF (nm4 n_lb_b n_lb_ca n_lb_oa n_lb_rw) (nm4 n_lca_b n_lca_ca n_lca_oa n_lca_rw) (nm4 n_loa_b n_loa_ca n_loa_oa n_loa_rw)
      refine j_iload hX dX5_makeInto_13 0 rfl ?_
      refine j_aload_n hX dX5_makeInto_15 2 rfl ?_
      refine j_getN (v := .int (nI L.length)) hX bg1.1 rfl wf_X0 2 (by decide) nk_X5_19 (fun _ h => h) rfl dX5_makeInto_16 ?_
      refine j_icmp_ge hX 52 dX5_makeInto_19 (by decide) (fun c_19 => absurd c_19 (nI_ge (a := k) (b := L.length) (by omega) (by omega))) (fun _ => ?_)
      refine j_iload_n hX dX5_makeInto_22 1 rfl ?_
      refine j_if_eq hX 52 dX5_makeInto_23 (by decide) (fun c_23 => absurd c_23 (show ¬ (1 : Int32) = 0 by decide)) (fun _ => ?_)
      refine j_aload_n hX dX5_makeInto_26 2 rfl ?_
      refine j_iload hX dX5_makeInto_27 0 rfl ?_
      refine j_aload_n hX dX5_makeInto_29 3 rfl ?_
      refine j_get (v := .ref rw) hX v1 rfl wf_X5 3 (by decide) lk_X5_25 (fun z h => u_same (hX.ts _ wz_21) z h) rfl dX5_makeInto_30 ?_
      refine j_callV (As := [.int (nI k), .ref rw]) (rest := []) hX (c_X0_readRow (xl X) (xK X) g1 lb lca loa L.length lf lt bg1 rw rf1 rw1 k (by omega)) bg1.1 rfl lk_X5_29 wI_X0_readRow wV_X0_X0_readRow wN_X0 wC_X0_readRow hd_X0_readRow rfl (by rw [hL]; decide) (by decide) rfl (Nat.le_of_ble_eq_true rfl) dX5_makeInto_33 (by rw [hR]; decide) (by rw [hR]; decide) jx_no ?_
      rintro _ g2 ⟨rfl, rw2, hF2⟩
      have v2 := Fr.at hF2 v1 (nm1 n_v_rw)
      have lr2 := Fr.at hF2 lr1 (nm1 n_lr_rw)
      have bg2 := isBag.at bg1 hF2 (nm1 n_lb_rw) (nm1 n_lca_rw) (nm1 n_loa_rw)
      have iR2 := bagR.at hI1 hF2 (nm1 n_b_rw) (nm1 n_ca_rw) (nm1 n_oa_rw)
      obtain ⟨if2, it2, iB2, iRp2⟩ := id iR2
      have hrow : rowAt (va_cpy lf rf1 (4 * k) 0 4) 0 = (L[k]).1 := by rw [row_copied, (hLr k _ hx9).1]
      show J X 0 0 g2 36 [(4, .int (nI k)), (3, .int 1), (2, .ref lb), (0, .ref v), (1, .ref b)] []
      refine j_aload_n hX dX5_makeInto_36 4 rfl ?_
      refine j_aload_n hX dX5_makeInto_37 3 rfl ?_
      refine j_get (v := .ref rw) hX v2 rfl wf_X5 3 (by decide) lk_X5_25 (fun z h => u_same (hX.ts _ wz_21) z h) rfl dX5_makeInto_38 ?_
      refine j_lconst (v := 1) hX dX5_makeInto_41 (by decide) ?_
      refine j_callV (As := [.ref rw, .long 1]) (rest := []) hX (c_X0_add (xl X) (xK X) g2 b ca oa acc iR2 hGa rw _ rw2 (1) (1) (by decide) (by decide) (by decide)) iB2.1 rfl lk_X5_33 wI_X0_add wV_X0_X0_add wN_X0 wC_X0_add hd_X0_add rfl (by rw [hL]; decide) (by decide) rfl (Nat.le_of_ble_eq_true rfl) dX5_makeInto_42 (by rw [hR]; decide) (by rw [hR]; decide) jx_no ?_
      intro v9 g3 h9
      rw [hrow] at h9
      rcases h8 : addB (L[k]).1 (1) acc with _ | B9
      · rw [h8] at h9
        obtain ⟨rfl, rfl⟩ := h9
        show J X 0 0 g2 45 [(4, .int (nI k)), (3, .int 1), (2, .ref lb), (0, .ref v), (1, .ref b)] [.int 0]
        refine j_istore_n (lv' := [(3, .int 0), (4, .int (nI k)), (2, .ref lb), (0, .ref v), (1, .ref b)]) hX dX5_makeInto_45 (by rw [hn]; decide) rfl ?_
        refine j_iinc (v := nI (k + 1)) (lv' := [(4, .int (nI (k + 1))), (3, .int 0), (2, .ref lb), (0, .ref v), (1, .ref b)]) hX dX5_makeInto_46 1 rfl (nI_1 k) (by rw [hn]; decide) rfl ?_
        refine j_goto hX 13 dX5_makeInto_49 (by decide) ?_
        refine j_iload hX dX5_makeInto_13 0 rfl ?_
        refine j_aload_n hX dX5_makeInto_15 2 rfl ?_
        refine j_getN (v := .int (nI L.length)) hX bg2.1 rfl wf_X0 2 (by decide) nk_X5_19 (fun _ h => h) rfl dX5_makeInto_16 ?_
        refine j_icmp_ge hX 52 dX5_makeInto_19 (by decide) (fun c_19 => ?_) (fun c_19 => ?_)
        · refine j_iload_n hX dX5_makeInto_52 1 rfl ?_
          exact j_zret hX hE dX5_makeInto_53 (by first | rfl | decide | assumption) (⟨fr2 hF hF2, ⟨_, rw2, trivial⟩, by rw [← hRs, fld_no (q := ((L[k]).1, 1)) hk9 rfl h8]; exact ⟨rfl, _, _, _, iB2⟩⟩) (by decide) (by decide)
        · refine j_iload_n hX dX5_makeInto_22 1 rfl ?_
          refine j_if_eq hX 52 dX5_makeInto_23 (by decide) (fun _ => ?_) (fun c_23 => absurd (show (0 : Int32) = 0 from rfl) c_23)
          refine j_iload_n hX dX5_makeInto_52 1 rfl ?_
          exact j_zret hX hE dX5_makeInto_53 (by first | rfl | decide | assumption) (⟨fr2 hF hF2, ⟨_, rw2, trivial⟩, by rw [← hRs, fld_no (q := ((L[k]).1, 1)) hk9 rfl h8]; exact ⟨rfl, _, _, _, iB2⟩⟩) (by decide) (by decide)
      · rw [h8] at h9
        obtain ⟨rfl, hB3, hF3⟩ := h9
        show J X 0 0 g3 45 [(4, .int (nI k)), (3, .int 1), (2, .ref lb), (0, .ref v), (1, .ref b)] [.int 1]
        refine j_istore_n (lv' := [(3, .int 1), (4, .int (nI k)), (2, .ref lb), (0, .ref v), (1, .ref b)]) hX dX5_makeInto_45 (by rw [hn]; decide) rfl ?_
        refine j_iinc (v := nI (k + 1)) (lv' := [(4, .int (nI (k + 1))), (3, .int 1), (2, .ref lb), (0, .ref v), (1, .ref b)]) hX dX5_makeInto_46 1 rfl (nI_1 k) (by rw [hn]; decide) rfl ?_
        refine j_goto hX 13 dX5_makeInto_49 (by decide) ?_
        refine j_sub [0, 1, 2, 3, 4] rfl ?_
        exact ih (k + 1) g3 B9 (by omega) (fr3 hF hF2 hF3) hB3 (addB_good hGa h8) ⟨_, Fr.at hF3 rw2 (nm3 n_b_rw.symm n_ca_rw.symm n_oa_rw.symm), trivial⟩ (by rw [← hRs, fld_yes (q := ((L[k]).1, 1)) hk9 rfl h8])
  refine j_aload_n hX dX5_makeInto_0 0 rfl ?_
  refine j_get (v := .ref lr) hX hv rfl wf_X5 0 (by decide) lk_X5_7 (fun z h => u_same (hX.ts _ wz_20) z h) rfl dX5_makeInto_1 ?_
  refine j_callV (As := []) (rest := []) hX (c_X6_latest (xl X) (xK X) g lr nw nx p vw cc ch hlr hp) hlr rfl lk_X5_13 wI_X6_latest wV_X6_X6_latest wN_X6 wC_X6_latest hd_X6_latest rfl (by rw [hL]; decide) (by decide) rfl (Nat.le_of_ble_eq_true rfl) dX5_makeInto_4 (by rw [hR]; decide) (by rw [hR]; decide) jx_no ?_
  rintro _ _ ⟨rfl, rfl⟩
  rw [hlb]
  show J X 0 0 g 7 [(0, .ref v), (1, .ref b)] [.ref lb]
  refine j_astore_n (lv' := [(2, .ref lb), (0, .ref v), (1, .ref b)]) hX dX5_makeInto_7 (by rw [hn]; decide) rfl ?_
  refine j_iconst (v := 1) hX dX5_makeInto_8 (by decide) ?_
  refine j_istore_n (lv' := [(3, .int 1), (2, .ref lb), (0, .ref v), (1, .ref b)]) hX dX5_makeInto_9 (by rw [hn]; decide) rfl ?_
  refine j_iconst (v := nI 0) hX dX5_makeInto_10 (by decide) ?_
  refine j_istore (lv' := [(4, .int (nI 0)), (3, .int 1), (2, .ref lb), (0, .ref v), (1, .ref b)]) hX dX5_makeInto_11 (by rw [hn]; decide) rfl ?_
  refine j_sub [0, 1, 2, 3, 4] rfl ?_
  exact loop L.length 0 g [] (by omega) (Fr.rf _ _) hI good_nil ⟨_, hrw, trivial⟩ rfl

set_option maxRecDepth 20000 in
set_option maxHeartbeats 600000 in
/-- union: makeInto -/
theorem c_X8_makeInto (l : Launch) (K : Cst) (g : Wd) (b ca oa rw : Nat) (rf0 : Nat → Int32) (hI : bagR K g b ca oa []) (hrw : g rw = some (aI K 4 rf0)) (v : Nat) (dp : Int32) (lr nw nx p : Nat) (vw : Value) (cc ch : Int32) (hlr : g lr = some (ob 6 [.ref nw, .ref nx, vw, .int cc, .int (nI p), .int ch])) (hp : p < 2 ^ 31) (lb lca loa : Nat) (L : Bg) (hlb : (if 0 < p then nx else nw) = lb) (hL : bagR K g lb lca loa L) (gL : good L) (nb : lb ≠ b) (nca : lca ≠ ca) (noa : loa ≠ oa) (lrB nwB nxB pB : Nat) (vwB : Value) (ccB chB : Int32) (hlrB : g lrB = some (ob 6 [.ref nwB, .ref nxB, vwB, .int ccB, .int (nI pB), .int chB])) (hpB : pB < 2 ^ 31) (lbB lcaB loaB : Nat) (LB : Bg) (hlbB : (if 0 < pB then nxB else nwB) = lbB) (hLB : bagR K g lbB lcaB loaB LB) (gLB : good LB) (nbB : lbB ≠ b) (ncaB : lcaB ≠ ca) (noaB : loaB ≠ oa) (hv : g v = some (ob 8 [.ref lr, .ref lrB, .int dp, .ref rw])) : Ct l K yX8_makeInto cX8_makeInto 5 (some .boolean) 4 [.ref v, .ref b] g (mkP K g b ca oa rw (fun _ => True) (fldB (fun x : Row × Nat => some (x.1, (x.2 : Int))) LB L)) (fun _ _ => False) 0 0 := by
  refine ct_of (by decide) (Nat.le_of_ble_eq_true rfl) ?_
  intro X hl hK hX hE hn hL hR hm
  subst hl; subst hK
  show J X 0 0 g 0 [(0, .ref v), (1, .ref b)] []
  obtain ⟨if0, it0, hI0, hIr⟩ := id hI
  obtain ⟨lf, lt, hbg, hLr⟩ := hL
  have hLn : L.length ≤ 20 := gL.2.1
  obtain ⟨lfB, ltB, hbgB, hLrB⟩ := hLB
  have hLnB : LB.length ≤ 20 := gLB.2.1
  have n_v_b : v ≠ b := ne_ob (hv) (hI0.1) (by simp)
  have n_v_ca : v ≠ ca := ne_ob (hv) (hI0.2.1) (by simp)
  have n_v_oa : v ≠ oa := ne_ob (hv) (hI0.2.2) (by simp)
  have n_v_rw : v ≠ rw := ne_ob (hv) (hrw) (by simp)
  have n_lr_b : lr ≠ b := ne_ob (hlr) (hI0.1) (by simp)
  have n_lr_ca : lr ≠ ca := ne_ob (hlr) (hI0.2.1) (by simp)
  have n_lr_oa : lr ≠ oa := ne_ob (hlr) (hI0.2.2) (by simp)
  have n_lr_rw : lr ≠ rw := ne_ob (hlr) (hrw) (by simp)
  have n_lb_b : lb ≠ b := nb
  have n_lb_ca : lb ≠ ca := ne_ob (hbg.1) (hI0.2.1) (by simp)
  have n_lb_oa : lb ≠ oa := ne_ob (hbg.1) (hI0.2.2) (by simp)
  have n_lb_rw : lb ≠ rw := ne_ob (hbg.1) (hrw) (by simp)
  have n_lca_b : lca ≠ b := ne_ob (hbg.2.1) (hI0.1) (by simp)
  have n_lca_ca : lca ≠ ca := nca
  have n_lca_oa : lca ≠ oa := ne_ob (hbg.2.1) (hI0.2.2) (by simp)
  have n_lca_rw : lca ≠ rw := ne_ob (hbg.2.1) (hrw) (by simp)
  have n_loa_b : loa ≠ b := ne_ob (hbg.2.2) (hI0.1) (by simp)
  have n_loa_ca : loa ≠ ca := ne_ob (hbg.2.2) (hI0.2.1) (by simp)
  have n_loa_oa : loa ≠ oa := noa
  have n_loa_rw : loa ≠ rw := ne_ob (hbg.2.2) (hrw) (by simp)
  have n_lrB_b : lrB ≠ b := ne_ob (hlrB) (hI0.1) (by simp)
  have n_lrB_ca : lrB ≠ ca := ne_ob (hlrB) (hI0.2.1) (by simp)
  have n_lrB_oa : lrB ≠ oa := ne_ob (hlrB) (hI0.2.2) (by simp)
  have n_lrB_rw : lrB ≠ rw := ne_ob (hlrB) (hrw) (by simp)
  have n_lbB_b : lbB ≠ b := nbB
  have n_lbB_ca : lbB ≠ ca := ne_ob (hbgB.1) (hI0.2.1) (by simp)
  have n_lbB_oa : lbB ≠ oa := ne_ob (hbgB.1) (hI0.2.2) (by simp)
  have n_lbB_rw : lbB ≠ rw := ne_ob (hbgB.1) (hrw) (by simp)
  have n_lcaB_b : lcaB ≠ b := ne_ob (hbgB.2.1) (hI0.1) (by simp)
  have n_lcaB_ca : lcaB ≠ ca := ncaB
  have n_lcaB_oa : lcaB ≠ oa := ne_ob (hbgB.2.1) (hI0.2.2) (by simp)
  have n_lcaB_rw : lcaB ≠ rw := ne_ob (hbgB.2.1) (hrw) (by simp)
  have n_loaB_b : loaB ≠ b := ne_ob (hbgB.2.2) (hI0.1) (by simp)
  have n_loaB_ca : loaB ≠ ca := ne_ob (hbgB.2.2) (hI0.2.1) (by simp)
  have n_loaB_oa : loaB ≠ oa := noaB
  have n_loaB_rw : loaB ≠ rw := ne_ob (hbgB.2.2) (hrw) (by simp)
  have n_b_rw : b ≠ rw := ne_ob (hI0.1) hrw (by simp)
  have n_ca_rw : ca ≠ rw := ne_ob (hI0.2.1) hrw (by simp)
  have n_oa_rw : oa ≠ rw := ne_ob (hI0.2.2) hrw (by simp)
  have loop : ∀ (m k : Nat) (g1 : Wd) (acc : Bg), k + m = LB.length → Fr g g1 [b, ca, oa, rw] → bagR (xK X) g1 b ca oa acc → good acc → (∃ rf, g1 rw = some (aI (xK X) 4 rf) ∧ (fun _ => True) rf) → fldB (fun x : Row × Nat => some (x.1, (x.2 : Int))) (LB.drop k) acc = fldB (fun x : Row × Nat => some (x.1, (x.2 : Int))) LB L → J X 0 0 g1 24 [(4, .int (nI k)), (3, .int 1), (2, .ref lbB), (0, .ref v), (1, .ref b)] [] := by
    intro m
    induction m with
    | zero =>
      intro k g1 acc hk hF hI1 hGa hrwE hRs
      obtain ⟨rf1, rw1, hIr1⟩ := hrwE
      have v1 := Fr.at hF hv (nm4 n_v_b n_v_ca n_v_oa n_v_rw)
      have lr1 := Fr.at hF hlr (nm4 n_lr_b n_lr_ca n_lr_oa n_lr_rw)
      have bg1 := isBag.at hbg hF (nm4 n_lb_b n_lb_ca n_lb_oa n_lb_rw) (nm4 n_lca_b n_lca_ca n_lca_oa n_lca_rw) (nm4 n_loa_b n_loa_ca n_loa_oa n_loa_rw)
      have lrB1 := Fr.at hF hlrB (nm4 n_lrB_b n_lrB_ca n_lrB_oa n_lrB_rw)
      have bgB1 := isBag.at hbgB hF (nm4 n_lbB_b n_lbB_ca n_lbB_oa n_lbB_rw) (nm4 n_lcaB_b n_lcaB_ca n_lcaB_oa n_lcaB_rw) (nm4 n_loaB_b n_loaB_ca n_loaB_oa n_loaB_rw)
      refine j_iload hX dX8_makeInto_24 0 rfl ?_
      refine j_aload_n hX dX8_makeInto_26 2 rfl ?_
      refine j_getN (v := .int (nI LB.length)) hX bgB1.1 rfl wf_X0 2 (by decide) nk_X8_28 (fun _ h => h) rfl dX8_makeInto_27 ?_
      refine j_icmp_ge hX 70 dX8_makeInto_30 (by decide) (fun _ => ?_) (fun c_30 => absurd (nI_le (a := LB.length) (b := k) (by omega) (by omega)) c_30)
      refine j_iload_n hX dX8_makeInto_70 1 rfl ?_
      exact j_zret hX hE dX8_makeInto_71 (by first | rfl | decide | assumption) (⟨hF, ⟨rf1, rw1, hIr1⟩, by rw [← hRs, fld_end (by omega)]; exact ⟨rfl, hI1, hGa⟩⟩) (by decide) (by decide)
    | succ m ih =>
      intro k g1 acc hk hF hI1 hGa hrwE hRs
      obtain ⟨rf1, rw1, hIr1⟩ := hrwE
      have hk9 : k < LB.length := by omega
      have hx9 : LB[k]? = some LB[k] := List.getElem?_eq_getElem hk9
      have hLk := Bg_lt gLB hk9
      have v1 := Fr.at hF hv (nm4 n_v_b n_v_ca n_v_oa n_v_rw)
      have lr1 := Fr.at hF hlr (nm4 n_lr_b n_lr_ca n_lr_oa n_lr_rw)
      have bg1 := isBag.at hbg hF (nm4 n_lb_b n_lb_ca n_lb_oa n_lb_rw) (nm4 n_lca_b n_lca_ca n_lca_oa n_lca_rw) (nm4 n_loa_b n_loa_ca n_loa_oa n_loa_rw)
      have lrB1 := Fr.at hF hlrB (nm4 n_lrB_b n_lrB_ca n_lrB_oa n_lrB_rw)
      have bgB1 := isBag.at hbgB hF (nm4 n_lbB_b n_lbB_ca n_lbB_oa n_lbB_rw) (nm4 n_lcaB_b n_lcaB_ca n_lcaB_oa n_lcaB_rw) (nm4 n_loaB_b n_loaB_ca n_loaB_oa n_loaB_rw)
      refine j_iload hX dX8_makeInto_24 0 rfl ?_
      refine j_aload_n hX dX8_makeInto_26 2 rfl ?_
      refine j_getN (v := .int (nI LB.length)) hX bgB1.1 rfl wf_X0 2 (by decide) nk_X8_28 (fun _ h => h) rfl dX8_makeInto_27 ?_
      refine j_icmp_ge hX 70 dX8_makeInto_30 (by decide) (fun c_30 => absurd c_30 (nI_ge (a := k) (b := LB.length) (by omega) (by omega))) (fun _ => ?_)
      refine j_iload_n hX dX8_makeInto_33 1 rfl ?_
      refine j_if_eq hX 70 dX8_makeInto_34 (by decide) (fun c_34 => absurd c_34 (show ¬ (1 : Int32) = 0 by decide)) (fun _ => ?_)
      refine j_aload_n hX dX8_makeInto_37 2 rfl ?_
      refine j_iload hX dX8_makeInto_38 0 rfl ?_
      refine j_aload_n hX dX8_makeInto_40 3 rfl ?_
      refine j_get (v := .ref rw) hX v1 rfl wf_X8 3 (by decide) lk_X8_32 (fun z h => u_same (hX.ts _ wz_26) z h) rfl dX8_makeInto_41 ?_
      refine j_callV (As := [.int (nI k), .ref rw]) (rest := []) hX (c_X0_readRow (xl X) (xK X) g1 lbB lcaB loaB LB.length lfB ltB bgB1 rw rf1 rw1 k (by omega)) bgB1.1 rfl lk_X8_36 wI_X0_readRow wV_X0_X0_readRow wN_X0 wC_X0_readRow hd_X0_readRow rfl (by rw [hL]; decide) (by decide) rfl (Nat.le_of_ble_eq_true rfl) dX8_makeInto_44 (by rw [hR]; decide) (by rw [hR]; decide) jx_no ?_
      rintro _ g2 ⟨rfl, rw2, hF2⟩
      have v2 := Fr.at hF2 v1 (nm1 n_v_rw)
      have lr2 := Fr.at hF2 lr1 (nm1 n_lr_rw)
      have bg2 := isBag.at bg1 hF2 (nm1 n_lb_rw) (nm1 n_lca_rw) (nm1 n_loa_rw)
      have lrB2 := Fr.at hF2 lrB1 (nm1 n_lrB_rw)
      have bgB2 := isBag.at bgB1 hF2 (nm1 n_lbB_rw) (nm1 n_lcaB_rw) (nm1 n_loaB_rw)
      have iR2 := bagR.at hI1 hF2 (nm1 n_b_rw) (nm1 n_ca_rw) (nm1 n_oa_rw)
      obtain ⟨if2, it2, iB2, iRp2⟩ := id iR2
      have hrow : rowAt (va_cpy lfB rf1 (4 * k) 0 4) 0 = (LB[k]).1 := by rw [row_copied, (hLrB k _ hx9).1]
      show J X 0 0 g2 47 [(4, .int (nI k)), (3, .int 1), (2, .ref lbB), (0, .ref v), (1, .ref b)] []
      refine j_aload_n hX dX8_makeInto_47 4 rfl ?_
      refine j_aload_n hX dX8_makeInto_48 3 rfl ?_
      refine j_get (v := .ref rw) hX v2 rfl wf_X8 3 (by decide) lk_X8_32 (fun z h => u_same (hX.ts _ wz_26) z h) rfl dX8_makeInto_49 ?_
      refine j_aload_n hX dX8_makeInto_52 2 rfl ?_
      refine j_getN (v := .ref loaB) hX bgB2.1 rfl wf_X0 1 (by decide) nk_X8_40 (fun _ h => h) rfl dX8_makeInto_53 ?_
      refine j_iload hX dX8_makeInto_56 0 rfl ?_
      refine j_ialdN hX bgB2.2.2 (k) (rfl) (by omega) (by decide) dX8_makeInto_58 ?_
      refine j_eqi (y := nI (LB[k]).2) ((hLrB k _ hx9).2) ?_
      refine j_i2l hX dX8_makeInto_59 ?_
      refine j_callV (As := [.ref rw, .long ((nI (LB[k]).2).toInt64)]) (rest := []) hX (c_X0_add (xl X) (xK X) g2 b ca oa acc iR2 hGa rw _ rw2 ((nI (LB[k]).2).toInt64) (((LB[k]).2 : Int)) (l_nI (by omega)) (by omega) (by omega)) iB2.1 rfl lk_X8_43 wI_X0_add wV_X0_X0_add wN_X0 wC_X0_add hd_X0_add rfl (by rw [hL]; decide) (by decide) rfl (Nat.le_of_ble_eq_true rfl) dX8_makeInto_60 (by rw [hR]; decide) (by rw [hR]; decide) jx_no ?_
      intro v9 g3 h9
      rw [hrow] at h9
      rcases h8 : addB (LB[k]).1 (((LB[k]).2 : Int)) acc with _ | B9
      · rw [h8] at h9
        obtain ⟨rfl, rfl⟩ := h9
        show J X 0 0 g2 63 [(4, .int (nI k)), (3, .int 1), (2, .ref lbB), (0, .ref v), (1, .ref b)] [.int 0]
        refine j_istore_n (lv' := [(3, .int 0), (4, .int (nI k)), (2, .ref lbB), (0, .ref v), (1, .ref b)]) hX dX8_makeInto_63 (by rw [hn]; decide) rfl ?_
        refine j_iinc (v := nI (k + 1)) (lv' := [(4, .int (nI (k + 1))), (3, .int 0), (2, .ref lbB), (0, .ref v), (1, .ref b)]) hX dX8_makeInto_64 1 rfl (nI_1 k) (by rw [hn]; decide) rfl ?_
        refine j_goto hX 24 dX8_makeInto_67 (by decide) ?_
        refine j_iload hX dX8_makeInto_24 0 rfl ?_
        refine j_aload_n hX dX8_makeInto_26 2 rfl ?_
        refine j_getN (v := .int (nI LB.length)) hX bgB2.1 rfl wf_X0 2 (by decide) nk_X8_28 (fun _ h => h) rfl dX8_makeInto_27 ?_
        refine j_icmp_ge hX 70 dX8_makeInto_30 (by decide) (fun c_30 => ?_) (fun c_30 => ?_)
        · refine j_iload_n hX dX8_makeInto_70 1 rfl ?_
          exact j_zret hX hE dX8_makeInto_71 (by first | rfl | decide | assumption) (⟨fr2 hF hF2, ⟨_, rw2, trivial⟩, by rw [← hRs, fld_no (q := ((LB[k]).1, ((LB[k]).2 : Int))) hk9 rfl h8]; exact ⟨rfl, _, _, _, iB2⟩⟩) (by decide) (by decide)
        · refine j_iload_n hX dX8_makeInto_33 1 rfl ?_
          refine j_if_eq hX 70 dX8_makeInto_34 (by decide) (fun _ => ?_) (fun c_34 => absurd (show (0 : Int32) = 0 from rfl) c_34)
          refine j_iload_n hX dX8_makeInto_70 1 rfl ?_
          exact j_zret hX hE dX8_makeInto_71 (by first | rfl | decide | assumption) (⟨fr2 hF hF2, ⟨_, rw2, trivial⟩, by rw [← hRs, fld_no (q := ((LB[k]).1, ((LB[k]).2 : Int))) hk9 rfl h8]; exact ⟨rfl, _, _, _, iB2⟩⟩) (by decide) (by decide)
      · rw [h8] at h9
        obtain ⟨rfl, hB3, hF3⟩ := h9
        show J X 0 0 g3 63 [(4, .int (nI k)), (3, .int 1), (2, .ref lbB), (0, .ref v), (1, .ref b)] [.int 1]
        refine j_istore_n (lv' := [(3, .int 1), (4, .int (nI k)), (2, .ref lbB), (0, .ref v), (1, .ref b)]) hX dX8_makeInto_63 (by rw [hn]; decide) rfl ?_
        refine j_iinc (v := nI (k + 1)) (lv' := [(4, .int (nI (k + 1))), (3, .int 1), (2, .ref lbB), (0, .ref v), (1, .ref b)]) hX dX8_makeInto_64 1 rfl (nI_1 k) (by rw [hn]; decide) rfl ?_
        refine j_goto hX 24 dX8_makeInto_67 (by decide) ?_
        refine j_sub [0, 1, 2, 3, 4] rfl ?_
        exact ih (k + 1) g3 B9 (by omega) (fr3 hF hF2 hF3) hB3 (addB_good hGa h8) ⟨_, Fr.at hF3 rw2 (nm3 n_b_rw.symm n_ca_rw.symm n_oa_rw.symm), trivial⟩ (by rw [← hRs, fld_yes (q := ((LB[k]).1, ((LB[k]).2 : Int))) hk9 rfl h8])
  refine j_aload_n hX dX8_makeInto_0 1 rfl ?_
  refine j_aload_n hX dX8_makeInto_1 0 rfl ?_
  refine j_get (v := .ref lr) hX hv rfl wf_X8 0 (by decide) lk_X8_7 (fun z h => u_same (hX.ts _ wz_24) z h) rfl dX8_makeInto_2 ?_
  refine j_callV (As := []) (rest := [.ref b]) hX (c_X6_latest (xl X) (xK X) g lr nw nx p vw cc ch hlr hp) hlr rfl lk_X8_13 wI_X6_latest wV_X6_X6_latest wN_X6 wC_X6_latest hd_X6_latest rfl (by rw [hL]; decide) (by decide) rfl (Nat.le_of_ble_eq_true rfl) dX8_makeInto_5 (by rw [hR]; decide) (by rw [hR]; decide) jx_no ?_
  rintro _ _ ⟨rfl, rfl⟩
  rw [hlb]
  show J X 0 0 g 8 [(0, .ref v), (1, .ref b)] [.ref lb, .ref b]
  refine j_callV (As := [.ref lb]) (rest := []) hX (c_X0_copyFrom (xl X) (xK X) g b ca oa 0 if0 it0 hI0 lb lca loa L.length lf lt hbg nb nca noa) hI0.1 rfl lk_X8_19 wI_X0_copyFrom wV_X0_X0_copyFrom wN_X0 wC_X0_copyFrom hd_X0_copyFrom rfl (by rw [hL]; decide) (by decide) rfl (Nat.le_of_ble_eq_true rfl) dX8_makeInto_8 (by rw [hR]; decide) (by rw [hR]; decide) jx_no ?_
  rintro _ g0 ⟨rfl, iB0, hF0⟩
  have v0 := Fr.at hF0 hv (nm3 n_v_b n_v_ca n_v_oa)
  have lr0 := Fr.at hF0 hlr (nm3 n_lr_b n_lr_ca n_lr_oa)
  have bg0 := isBag.at hbg hF0 (nm3 n_lb_b n_lb_ca n_lb_oa) (nm3 n_lca_b n_lca_ca n_lca_oa) (nm3 n_loa_b n_loa_ca n_loa_oa)
  have lrB0 := Fr.at hF0 hlrB (nm3 n_lrB_b n_lrB_ca n_lrB_oa)
  have bgB0 := isBag.at hbgB hF0 (nm3 n_lbB_b n_lbB_ca n_lbB_oa) (nm3 n_lcaB_b n_lcaB_ca n_lcaB_oa) (nm3 n_loaB_b n_loaB_ca n_loaB_oa)
  have rw0 := Fr.at hF0 hrw (nm3 n_b_rw.symm n_ca_rw.symm n_oa_rw.symm)
  show J X 0 0 g0 11 [(0, .ref v), (1, .ref b)] []
  refine j_aload_n hX dX8_makeInto_11 0 rfl ?_
  refine j_get (v := .ref lrB) hX v0 rfl wf_X8 1 (by decide) lk_X8_25 (fun z h => u_same (hX.ts _ wz_25) z h) rfl dX8_makeInto_12 ?_
  refine j_callV (As := []) (rest := []) hX (c_X6_latest (xl X) (xK X) g0 lrB nwB nxB pB vwB ccB chB lrB0 hpB) lrB0 rfl lk_X8_13 wI_X6_latest wV_X6_X6_latest wN_X6 wC_X6_latest hd_X6_latest rfl (by rw [hL]; decide) (by decide) rfl (Nat.le_of_ble_eq_true rfl) dX8_makeInto_15 (by rw [hR]; decide) (by rw [hR]; decide) jx_no ?_
  rintro _ _ ⟨rfl, rfl⟩
  rw [hlbB]
  show J X 0 0 g0 18 [(0, .ref v), (1, .ref b)] [.ref lbB]
  refine j_astore_n (lv' := [(2, .ref lbB), (0, .ref v), (1, .ref b)]) hX dX8_makeInto_18 (by rw [hn]; decide) rfl ?_
  refine j_iconst (v := 1) hX dX8_makeInto_19 (by decide) ?_
  refine j_istore_n (lv' := [(3, .int 1), (2, .ref lbB), (0, .ref v), (1, .ref b)]) hX dX8_makeInto_20 (by rw [hn]; decide) rfl ?_
  refine j_iconst (v := nI 0) hX dX8_makeInto_21 (by decide) ?_
  refine j_istore (lv' := [(4, .int (nI 0)), (3, .int 1), (2, .ref lbB), (0, .ref v), (1, .ref b)]) hX dX8_makeInto_22 (by rw [hn]; decide) rfl ?_
  refine j_sub [0, 1, 2, 3, 4] rfl ?_
  exact loop LB.length 0 g0 L (by omega) (fr3 (Fr.rf _ _) (Fr.rf _ _) hF0) ⟨_, _, iB0, rep_copy hLr hLn⟩ gL ⟨_, rw0, trivial⟩ rfl

set_option maxRecDepth 20000 in
set_option maxHeartbeats 600000 in
/-- difference: makeInto -/
theorem c_X2_makeInto (l : Launch) (K : Cst) (g : Wd) (b ca oa rw : Nat) (rf0 : Nat → Int32) (hI : bagR K g b ca oa []) (hrw : g rw = some (aI K 4 rf0)) (v : Nat) (dp : Int32) (lr nw nx p : Nat) (vw : Value) (cc ch : Int32) (hlr : g lr = some (ob 6 [.ref nw, .ref nx, vw, .int cc, .int (nI p), .int ch])) (hp : p < 2 ^ 31) (lb lca loa : Nat) (L : Bg) (hlb : (if 0 < p then nx else nw) = lb) (hL : bagR K g lb lca loa L) (gL : good L) (nb : lb ≠ b) (nca : lca ≠ ca) (noa : loa ≠ oa) (lrB nwB nxB pB : Nat) (vwB : Value) (ccB chB : Int32) (hlrB : g lrB = some (ob 6 [.ref nwB, .ref nxB, vwB, .int ccB, .int (nI pB), .int chB])) (hpB : pB < 2 ^ 31) (lbB lcaB loaB : Nat) (LB : Bg) (hlbB : (if 0 < pB then nxB else nwB) = lbB) (hLB : bagR K g lbB lcaB loaB LB) (gLB : good LB) (nbB : lbB ≠ b) (ncaB : lcaB ≠ ca) (noaB : loaB ≠ oa) (hv : g v = some (ob 2 [.ref lr, .ref lrB, .int dp, .ref rw])) : Ct l K yX2_makeInto cX2_makeInto 6 (some .boolean) 4 [.ref v, .ref b] g (mkP K g b ca oa rw (fun _ => True) (fldB (fun x : Row × Nat => some (x.1, (x.2 : Int) - (tms LB x.1 : Int))) L [])) (fun _ _ => False) 0 0 := by
  refine ct_of (by decide) (Nat.le_of_ble_eq_true rfl) ?_
  intro X hl hK hX hE hn hL hR hm
  subst hl; subst hK
  show J X 0 0 g 0 [(0, .ref v), (1, .ref b)] []
  obtain ⟨if0, it0, hI0, hIr⟩ := id hI
  obtain ⟨lf, lt, hbg, hLr⟩ := hL
  have hLn : L.length ≤ 20 := gL.2.1
  obtain ⟨lfB, ltB, hbgB, hLrB⟩ := hLB
  have hLnB : LB.length ≤ 20 := gLB.2.1
  have n_v_b : v ≠ b := ne_ob (hv) (hI0.1) (by simp)
  have n_v_ca : v ≠ ca := ne_ob (hv) (hI0.2.1) (by simp)
  have n_v_oa : v ≠ oa := ne_ob (hv) (hI0.2.2) (by simp)
  have n_v_rw : v ≠ rw := ne_ob (hv) (hrw) (by simp)
  have n_lr_b : lr ≠ b := ne_ob (hlr) (hI0.1) (by simp)
  have n_lr_ca : lr ≠ ca := ne_ob (hlr) (hI0.2.1) (by simp)
  have n_lr_oa : lr ≠ oa := ne_ob (hlr) (hI0.2.2) (by simp)
  have n_lr_rw : lr ≠ rw := ne_ob (hlr) (hrw) (by simp)
  have n_lb_b : lb ≠ b := nb
  have n_lb_ca : lb ≠ ca := ne_ob (hbg.1) (hI0.2.1) (by simp)
  have n_lb_oa : lb ≠ oa := ne_ob (hbg.1) (hI0.2.2) (by simp)
  have n_lb_rw : lb ≠ rw := ne_ob (hbg.1) (hrw) (by simp)
  have n_lca_b : lca ≠ b := ne_ob (hbg.2.1) (hI0.1) (by simp)
  have n_lca_ca : lca ≠ ca := nca
  have n_lca_oa : lca ≠ oa := ne_ob (hbg.2.1) (hI0.2.2) (by simp)
  have n_lca_rw : lca ≠ rw := ne_ob (hbg.2.1) (hrw) (by simp)
  have n_loa_b : loa ≠ b := ne_ob (hbg.2.2) (hI0.1) (by simp)
  have n_loa_ca : loa ≠ ca := ne_ob (hbg.2.2) (hI0.2.1) (by simp)
  have n_loa_oa : loa ≠ oa := noa
  have n_loa_rw : loa ≠ rw := ne_ob (hbg.2.2) (hrw) (by simp)
  have n_lrB_b : lrB ≠ b := ne_ob (hlrB) (hI0.1) (by simp)
  have n_lrB_ca : lrB ≠ ca := ne_ob (hlrB) (hI0.2.1) (by simp)
  have n_lrB_oa : lrB ≠ oa := ne_ob (hlrB) (hI0.2.2) (by simp)
  have n_lrB_rw : lrB ≠ rw := ne_ob (hlrB) (hrw) (by simp)
  have n_lbB_b : lbB ≠ b := nbB
  have n_lbB_ca : lbB ≠ ca := ne_ob (hbgB.1) (hI0.2.1) (by simp)
  have n_lbB_oa : lbB ≠ oa := ne_ob (hbgB.1) (hI0.2.2) (by simp)
  have n_lbB_rw : lbB ≠ rw := ne_ob (hbgB.1) (hrw) (by simp)
  have n_lcaB_b : lcaB ≠ b := ne_ob (hbgB.2.1) (hI0.1) (by simp)
  have n_lcaB_ca : lcaB ≠ ca := ncaB
  have n_lcaB_oa : lcaB ≠ oa := ne_ob (hbgB.2.1) (hI0.2.2) (by simp)
  have n_lcaB_rw : lcaB ≠ rw := ne_ob (hbgB.2.1) (hrw) (by simp)
  have n_loaB_b : loaB ≠ b := ne_ob (hbgB.2.2) (hI0.1) (by simp)
  have n_loaB_ca : loaB ≠ ca := ne_ob (hbgB.2.2) (hI0.2.1) (by simp)
  have n_loaB_oa : loaB ≠ oa := noaB
  have n_loaB_rw : loaB ≠ rw := ne_ob (hbgB.2.2) (hrw) (by simp)
  have n_b_rw : b ≠ rw := ne_ob (hI0.1) hrw (by simp)
  have n_ca_rw : ca ≠ rw := ne_ob (hI0.2.1) hrw (by simp)
  have n_oa_rw : oa ≠ rw := ne_ob (hI0.2.2) hrw (by simp)
  have loop : ∀ (m k : Nat) (g1 : Wd) (acc : Bg), k + m = L.length → Fr g g1 [b, ca, oa, rw] → bagR (xK X) g1 b ca oa acc → good acc → (∃ rf, g1 rw = some (aI (xK X) 4 rf) ∧ (fun _ => True) rf) → fldB (fun x : Row × Nat => some (x.1, (x.2 : Int) - (tms LB x.1 : Int))) (L.drop k) acc = fldB (fun x : Row × Nat => some (x.1, (x.2 : Int) - (tms LB x.1 : Int))) L [] → J X 0 0 g1 22 [(5, .int (nI k)), (4, .int 1), (2, .ref lb), (3, .ref lbB), (0, .ref v), (1, .ref b)] [] := by
    intro m
    induction m with
    | zero =>
      intro k g1 acc hk hF hI1 hGa hrwE hRs
      obtain ⟨rf1, rw1, hIr1⟩ := hrwE
      have v1 := Fr.at hF hv (nm4 n_v_b n_v_ca n_v_oa n_v_rw)
      have lr1 := Fr.at hF hlr (nm4 n_lr_b n_lr_ca n_lr_oa n_lr_rw)
      have bg1 := isBag.at hbg hF (nm4 n_lb_b n_lb_ca n_lb_oa n_lb_rw) (nm4 n_lca_b n_lca_ca n_lca_oa n_lca_rw) (nm4 n_loa_b n_loa_ca n_loa_oa n_loa_rw)
      have lrB1 := Fr.at hF hlrB (nm4 n_lrB_b n_lrB_ca n_lrB_oa n_lrB_rw)
      have bgB1 := isBag.at hbgB hF (nm4 n_lbB_b n_lbB_ca n_lbB_oa n_lbB_rw) (nm4 n_lcaB_b n_lcaB_ca n_lcaB_oa n_lcaB_rw) (nm4 n_loaB_b n_loaB_ca n_loaB_oa n_loaB_rw)
      refine j_iload hX dX2_makeInto_22 0 rfl ?_
      refine j_aload_n hX dX2_makeInto_24 2 rfl ?_
      refine j_getN (v := .int (nI L.length)) hX bg1.1 rfl wf_X0 2 (by decide) nk_X2_22 (fun _ h => h) rfl dX2_makeInto_25 ?_
      refine j_icmp_ge hX 79 dX2_makeInto_28 (by decide) (fun _ => ?_) (fun c_28 => absurd (nI_le (a := L.length) (b := k) (by omega) (by omega)) c_28)
      refine j_iload hX dX2_makeInto_79 1 rfl ?_
      exact j_zret hX hE dX2_makeInto_81 (by first | rfl | decide | assumption) (⟨hF, ⟨rf1, rw1, hIr1⟩, by rw [← hRs, fld_end (by omega)]; exact ⟨rfl, hI1, hGa⟩⟩) (by decide) (by decide)
    | succ m ih =>
      intro k g1 acc hk hF hI1 hGa hrwE hRs
      obtain ⟨rf1, rw1, hIr1⟩ := hrwE
      have hk9 : k < L.length := by omega
      have hx9 : L[k]? = some L[k] := List.getElem?_eq_getElem hk9
      have hLk := Bg_lt gL hk9
      have v1 := Fr.at hF hv (nm4 n_v_b n_v_ca n_v_oa n_v_rw)
      have lr1 := Fr.at hF hlr (nm4 n_lr_b n_lr_ca n_lr_oa n_lr_rw)
      have bg1 := isBag.at hbg hF (nm4 n_lb_b n_lb_ca n_lb_oa n_lb_rw) (nm4 n_lca_b n_lca_ca n_lca_oa n_lca_rw) (nm4 n_loa_b n_loa_ca n_loa_oa n_loa_rw)
      have lrB1 := Fr.at hF hlrB (nm4 n_lrB_b n_lrB_ca n_lrB_oa n_lrB_rw)
      have bgB1 := isBag.at hbgB hF (nm4 n_lbB_b n_lbB_ca n_lbB_oa n_lbB_rw) (nm4 n_lcaB_b n_lcaB_ca n_lcaB_oa n_lcaB_rw) (nm4 n_loaB_b n_loaB_ca n_loaB_oa n_loaB_rw)
      refine j_iload hX dX2_makeInto_22 0 rfl ?_
      refine j_aload_n hX dX2_makeInto_24 2 rfl ?_
      refine j_getN (v := .int (nI L.length)) hX bg1.1 rfl wf_X0 2 (by decide) nk_X2_22 (fun _ h => h) rfl dX2_makeInto_25 ?_
      refine j_icmp_ge hX 79 dX2_makeInto_28 (by decide) (fun c_28 => absurd c_28 (nI_ge (a := k) (b := L.length) (by omega) (by omega))) (fun _ => ?_)
      refine j_iload hX dX2_makeInto_31 1 rfl ?_
      refine j_if_eq hX 79 dX2_makeInto_33 (by decide) (fun c_33 => absurd c_33 (show ¬ (1 : Int32) = 0 by decide)) (fun _ => ?_)
      refine j_aload_n hX dX2_makeInto_36 2 rfl ?_
      refine j_iload hX dX2_makeInto_37 0 rfl ?_
      refine j_aload_n hX dX2_makeInto_39 4 rfl ?_
      refine j_get (v := .ref rw) hX v1 rfl wf_X2 3 (by decide) lk_X2_28 (fun z h => u_same (hX.ts _ wz_12) z h) rfl dX2_makeInto_40 ?_
      refine j_callV (As := [.int (nI k), .ref rw]) (rest := []) hX (c_X0_readRow (xl X) (xK X) g1 lb lca loa L.length lf lt bg1 rw rf1 rw1 k (by omega)) bg1.1 rfl lk_X2_32 wI_X0_readRow wV_X0_X0_readRow wN_X0 wC_X0_readRow hd_X0_readRow rfl (by rw [hL]; decide) (by decide) rfl (Nat.le_of_ble_eq_true rfl) dX2_makeInto_43 (by rw [hR]; decide) (by rw [hR]; decide) jx_no ?_
      rintro _ g2 ⟨rfl, rw2, hF2⟩
      have v2 := Fr.at hF2 v1 (nm1 n_v_rw)
      have lr2 := Fr.at hF2 lr1 (nm1 n_lr_rw)
      have bg2 := isBag.at bg1 hF2 (nm1 n_lb_rw) (nm1 n_lca_rw) (nm1 n_loa_rw)
      have lrB2 := Fr.at hF2 lrB1 (nm1 n_lrB_rw)
      have bgB2 := isBag.at bgB1 hF2 (nm1 n_lbB_rw) (nm1 n_lcaB_rw) (nm1 n_loaB_rw)
      have iR2 := bagR.at hI1 hF2 (nm1 n_b_rw) (nm1 n_ca_rw) (nm1 n_oa_rw)
      obtain ⟨if2, it2, iB2, iRp2⟩ := id iR2
      have hrow : rowAt (va_cpy lf rf1 (4 * k) 0 4) 0 = (L[k]).1 := by rw [row_copied, (hLr k _ hx9).1]
      show J X 0 0 g2 46 [(5, .int (nI k)), (4, .int 1), (2, .ref lb), (3, .ref lbB), (0, .ref v), (1, .ref b)] []
      refine j_aload_n hX dX2_makeInto_46 5 rfl ?_
      refine j_aload_n hX dX2_makeInto_47 4 rfl ?_
      refine j_get (v := .ref rw) hX v2 rfl wf_X2 3 (by decide) lk_X2_28 (fun z h => u_same (hX.ts _ wz_12) z h) rfl dX2_makeInto_48 ?_
      refine j_aload_n hX dX2_makeInto_51 2 rfl ?_
      refine j_getN (v := .ref loa) hX bg2.1 rfl wf_X0 1 (by decide) nk_X2_36 (fun _ h => h) rfl dX2_makeInto_52 ?_
      refine j_iload hX dX2_makeInto_55 0 rfl ?_
      refine j_ialdN hX bg2.2.2 (k) (rfl) (by omega) (by decide) dX2_makeInto_57 ?_
      refine j_eqi (y := nI (L[k]).2) ((hLr k _ hx9).2) ?_
      refine j_aload_n hX dX2_makeInto_58 3 rfl ?_
      refine j_aload_n hX dX2_makeInto_59 4 rfl ?_
      refine j_get (v := .ref rw) hX v2 rfl wf_X2 3 (by decide) lk_X2_28 (fun z h => u_same (hX.ts _ wz_12) z h) rfl dX2_makeInto_60 ?_
      refine j_callV (As := [.ref rw]) (rest := [.int (nI (L[k]).2), .ref rw, .ref b]) hX (c_X0_timesOf (xl X) (xK X) g2 lbB lcaB loaB LB.length lfB ltB bgB2 rw _ rw2 (by omega)) bgB2.1 rfl lk_X2_39 wI_X0_timesOf wV_X0_X0_timesOf wN_X0 wC_X0_timesOf hd_X0_timesOf rfl (by rw [hL]; decide) (by decide) rfl (Nat.le_of_ble_eq_true rfl) dX2_makeInto_63 (by rw [hR]; decide) (by rw [hR]; decide) jx_no ?_
      rintro _ _ ⟨rfl, rfl⟩
      show J X 0 0 g2 66 [(5, .int (nI k)), (4, .int 1), (2, .ref lb), (3, .ref lbB), (0, .ref v), (1, .ref b)] [.int (timesAt lfB ltB (va_cpy lf rf1 (4 * k) 0 4) LB.length), .int (nI (L[k]).2), .ref rw, .ref b]
      refine j_eqi (y := nI (tms LB (L[k]).1)) (by rw [timesAt_eq hLrB gLB.1, hrow]) ?_
      refine j_isub hX dX2_makeInto_66 ?_
      refine j_i2l hX dX2_makeInto_67 ?_
      refine j_callV (As := [.ref rw, .long (((nI (L[k]).2) - (nI (tms LB (L[k]).1))).toInt64)]) (rest := []) hX (c_X0_add (xl X) (xK X) g2 b ca oa acc iR2 hGa rw _ rw2 ((nI (L[k]).2 - nI (tms LB (L[k]).1)).toInt64) (((L[k]).2 : Int) - (tms LB (L[k]).1 : Int)) (sub_l hLk.1 (tms_le gLB _)) (by have := tms_le gLB (L[k]).1; omega) (by have := tms_le gLB (L[k]).1; omega)) iB2.1 rfl lk_X2_43 wI_X0_add wV_X0_X0_add wN_X0 wC_X0_add hd_X0_add rfl (by rw [hL]; decide) (by decide) rfl (Nat.le_of_ble_eq_true rfl) dX2_makeInto_68 (by rw [hR]; decide) (by rw [hR]; decide) jx_no ?_
      intro v9 g3 h9
      rw [hrow] at h9
      rcases h8 : addB (L[k]).1 (((L[k]).2 : Int) - (tms LB (L[k]).1 : Int)) acc with _ | B9
      · rw [h8] at h9
        obtain ⟨rfl, rfl⟩ := h9
        show J X 0 0 g2 71 [(5, .int (nI k)), (4, .int 1), (2, .ref lb), (3, .ref lbB), (0, .ref v), (1, .ref b)] [.int 0]
        refine j_istore (lv' := [(4, .int 0), (5, .int (nI k)), (2, .ref lb), (3, .ref lbB), (0, .ref v), (1, .ref b)]) hX dX2_makeInto_71 (by rw [hn]; decide) rfl ?_
        refine j_iinc (v := nI (k + 1)) (lv' := [(5, .int (nI (k + 1))), (4, .int 0), (2, .ref lb), (3, .ref lbB), (0, .ref v), (1, .ref b)]) hX dX2_makeInto_73 1 rfl (nI_1 k) (by rw [hn]; decide) rfl ?_
        refine j_goto hX 22 dX2_makeInto_76 (by decide) ?_
        refine j_iload hX dX2_makeInto_22 0 rfl ?_
        refine j_aload_n hX dX2_makeInto_24 2 rfl ?_
        refine j_getN (v := .int (nI L.length)) hX bg2.1 rfl wf_X0 2 (by decide) nk_X2_22 (fun _ h => h) rfl dX2_makeInto_25 ?_
        refine j_icmp_ge hX 79 dX2_makeInto_28 (by decide) (fun c_28 => ?_) (fun c_28 => ?_)
        · refine j_iload hX dX2_makeInto_79 1 rfl ?_
          exact j_zret hX hE dX2_makeInto_81 (by first | rfl | decide | assumption) (⟨fr2 hF hF2, ⟨_, rw2, trivial⟩, by rw [← hRs, fld_no (q := ((L[k]).1, ((L[k]).2 : Int) - (tms LB (L[k]).1 : Int))) hk9 rfl h8]; exact ⟨rfl, _, _, _, iB2⟩⟩) (by decide) (by decide)
        · refine j_iload hX dX2_makeInto_31 1 rfl ?_
          refine j_if_eq hX 79 dX2_makeInto_33 (by decide) (fun _ => ?_) (fun c_33 => absurd (show (0 : Int32) = 0 from rfl) c_33)
          refine j_iload hX dX2_makeInto_79 1 rfl ?_
          exact j_zret hX hE dX2_makeInto_81 (by first | rfl | decide | assumption) (⟨fr2 hF hF2, ⟨_, rw2, trivial⟩, by rw [← hRs, fld_no (q := ((L[k]).1, ((L[k]).2 : Int) - (tms LB (L[k]).1 : Int))) hk9 rfl h8]; exact ⟨rfl, _, _, _, iB2⟩⟩) (by decide) (by decide)
      · rw [h8] at h9
        obtain ⟨rfl, hB3, hF3⟩ := h9
        show J X 0 0 g3 71 [(5, .int (nI k)), (4, .int 1), (2, .ref lb), (3, .ref lbB), (0, .ref v), (1, .ref b)] [.int 1]
        refine j_istore (lv' := [(4, .int 1), (5, .int (nI k)), (2, .ref lb), (3, .ref lbB), (0, .ref v), (1, .ref b)]) hX dX2_makeInto_71 (by rw [hn]; decide) rfl ?_
        refine j_iinc (v := nI (k + 1)) (lv' := [(5, .int (nI (k + 1))), (4, .int 1), (2, .ref lb), (3, .ref lbB), (0, .ref v), (1, .ref b)]) hX dX2_makeInto_73 1 rfl (nI_1 k) (by rw [hn]; decide) rfl ?_
        refine j_goto hX 22 dX2_makeInto_76 (by decide) ?_
        refine j_sub [0, 1, 2, 3, 4, 5] rfl ?_
        exact ih (k + 1) g3 B9 (by omega) (fr3 hF hF2 hF3) hB3 (addB_good hGa h8) ⟨_, Fr.at hF3 rw2 (nm3 n_b_rw.symm n_ca_rw.symm n_oa_rw.symm), trivial⟩ (by rw [← hRs, fld_yes (q := ((L[k]).1, ((L[k]).2 : Int) - (tms LB (L[k]).1 : Int))) hk9 rfl h8])
  refine j_aload_n hX dX2_makeInto_0 0 rfl ?_
  refine j_get (v := .ref lr) hX hv rfl wf_X2 0 (by decide) lk_X2_7 (fun z h => u_same (hX.ts _ wz_10) z h) rfl dX2_makeInto_1 ?_
  refine j_callV (As := []) (rest := []) hX (c_X6_latest (xl X) (xK X) g lr nw nx p vw cc ch hlr hp) hlr rfl lk_X2_13 wI_X6_latest wV_X6_X6_latest wN_X6 wC_X6_latest hd_X6_latest rfl (by rw [hL]; decide) (by decide) rfl (Nat.le_of_ble_eq_true rfl) dX2_makeInto_4 (by rw [hR]; decide) (by rw [hR]; decide) jx_no ?_
  rintro _ _ ⟨rfl, rfl⟩
  rw [hlb]
  show J X 0 0 g 7 [(0, .ref v), (1, .ref b)] [.ref lb]
  refine j_astore_n (lv' := [(2, .ref lb), (0, .ref v), (1, .ref b)]) hX dX2_makeInto_7 (by rw [hn]; decide) rfl ?_
  refine j_aload_n hX dX2_makeInto_8 1 rfl ?_
  refine j_get (v := .ref lrB) hX hv rfl wf_X2 1 (by decide) lk_X2_19 (fun z h => u_same (hX.ts _ wz_11) z h) rfl dX2_makeInto_9 ?_
  refine j_callV (As := []) (rest := []) hX (c_X6_latest (xl X) (xK X) g lrB nwB nxB pB vwB ccB chB hlrB hpB) hlrB rfl lk_X2_13 wI_X6_latest wV_X6_X6_latest wN_X6 wC_X6_latest hd_X6_latest rfl (by rw [hL]; decide) (by decide) rfl (Nat.le_of_ble_eq_true rfl) dX2_makeInto_12 (by rw [hR]; decide) (by rw [hR]; decide) jx_no ?_
  rintro _ _ ⟨rfl, rfl⟩
  rw [hlbB]
  show J X 0 0 g 15 [(2, .ref lb), (0, .ref v), (1, .ref b)] [.ref lbB]
  refine j_astore_n (lv' := [(3, .ref lbB), (2, .ref lb), (0, .ref v), (1, .ref b)]) hX dX2_makeInto_15 (by rw [hn]; decide) rfl ?_
  refine j_iconst (v := 1) hX dX2_makeInto_16 (by decide) ?_
  refine j_istore (lv' := [(4, .int 1), (3, .ref lbB), (2, .ref lb), (0, .ref v), (1, .ref b)]) hX dX2_makeInto_17 (by rw [hn]; decide) rfl ?_
  refine j_iconst (v := nI 0) hX dX2_makeInto_19 (by decide) ?_
  refine j_istore (lv' := [(5, .int (nI 0)), (4, .int 1), (3, .ref lbB), (2, .ref lb), (0, .ref v), (1, .ref b)]) hX dX2_makeInto_20 (by rw [hn]; decide) rfl ?_
  refine j_sub [0, 1, 3, 2, 4, 5] rfl ?_
  exact loop L.length 0 g [] (by omega) (Fr.rf _ _) hI good_nil ⟨_, hrw, trivial⟩ rfl
end
section
set_option maxRecDepth 20000 in
set_option maxHeartbeats 600000 in
/-- holds(value, against) -/
theorem c_X7_holds (l : Launch) (K : Cst) (g : Wd) (v lr rr rw : Nat) (dp cl th ot : Int32) (cm : Nat) (hv : g v = some (ob 7 [.ref lr, .ref rr, .int dp, .ref rw, .int cl, .int (nI cm), .int th, .int ot])) (hcm : cm ≤ 5) (a x : Int32) : Ct l K yX7_holds cX7_holds 3 (some .boolean) 0 [.ref v, .int a, .int x] g (fun v g' => v = some (.int (b01 (selH cm a x))) ∧ g = g') (fun _ _ => False) 0 0 := by
  refine ct_of (by decide) (Nat.le_of_ble_eq_true rfl) ?_
  intro X hl hK hX hE hn hL hR hm
  subst hl; subst hK
  show J X 0 0 g 0 [(0, .ref v), (1, .int a), (2, .int x)] []
  rcases (show cm = 0 ∨ cm = 1 ∨ cm = 2 ∨ cm = 3 ∨ cm = 4 ∨ cm = 5 by omega) with rfl | rfl | rfl | rfl | rfl | rfl
  · refine j_aload_n hX dX7_holds_0 0 rfl ?_
    refine j_get (v := .int (nI 0)) hX hv rfl wf_X7 5 (by decide) lk_X7_15 (fun _ h => h) rfl dX7_holds_1 ?_
    refine j_tabIn (off := 36) hX 40 dX7_holds_4 (by decide) (by decide) (by decide) (by decide) ?_
    refine j_iload_n hX dX7_holds_40 1 rfl ?_
    refine j_iload_n hX dX7_holds_41 2 rfl ?_
    refine j_icmp_ne hX 49 dX7_holds_42 (by decide) (fun c_42 => ?_) (fun c_42 => ?_)
    · refine j_iconst (v := 0) hX dX7_holds_49 (by decide) ?_
      exact j_zret hX hE dX7_holds_50 (by first | rfl | decide | assumption) (⟨congrArg (fun z => some (Value.int z)) (b01_0 (decide_eq_false c_42)), rfl⟩) (by decide) (by decide)
    · refine j_iconst (v := 1) hX dX7_holds_45 (by decide) ?_
      refine j_goto hX 50 dX7_holds_46 (by decide) ?_
      exact j_zret hX hE dX7_holds_50 (by first | rfl | decide | assumption) (⟨congrArg (fun z => some (Value.int z)) (b01_1 (decide_eq_true c_42)), rfl⟩) (by decide) (by decide)
  · refine j_aload_n hX dX7_holds_0 0 rfl ?_
    refine j_get (v := .int (nI 1)) hX hv rfl wf_X7 5 (by decide) lk_X7_15 (fun _ h => h) rfl dX7_holds_1 ?_
    refine j_tabIn (off := 47) hX 51 dX7_holds_4 (by decide) (by decide) (by decide) (by decide) ?_
    refine j_iload_n hX dX7_holds_51 1 rfl ?_
    refine j_iload_n hX dX7_holds_52 2 rfl ?_
    refine j_icmp_eq hX 60 dX7_holds_53 (by decide) (fun c_53 => ?_) (fun c_53 => ?_)
    · refine j_iconst (v := 0) hX dX7_holds_60 (by decide) ?_
      exact j_zret hX hE dX7_holds_61 (by first | rfl | decide | assumption) (⟨congrArg (fun z => some (Value.int z)) (b01_0 (decide_eq_false (fun q => q c_53))), rfl⟩) (by decide) (by decide)
    · refine j_iconst (v := 1) hX dX7_holds_56 (by decide) ?_
      refine j_goto hX 61 dX7_holds_57 (by decide) ?_
      exact j_zret hX hE dX7_holds_61 (by first | rfl | decide | assumption) (⟨congrArg (fun z => some (Value.int z)) (b01_1 (decide_eq_true c_53)), rfl⟩) (by decide) (by decide)
  · refine j_aload_n hX dX7_holds_0 0 rfl ?_
    refine j_get (v := .int (nI 2)) hX hv rfl wf_X7 5 (by decide) lk_X7_15 (fun _ h => h) rfl dX7_holds_1 ?_
    refine j_tabIn (off := 58) hX 62 dX7_holds_4 (by decide) (by decide) (by decide) (by decide) ?_
    refine j_iload_n hX dX7_holds_62 1 rfl ?_
    refine j_iload_n hX dX7_holds_63 2 rfl ?_
    refine j_icmp_ge hX 71 dX7_holds_64 (by decide) (fun c_64 => ?_) (fun c_64 => ?_)
    · refine j_iconst (v := 0) hX dX7_holds_71 (by decide) ?_
      exact j_zret hX hE dX7_holds_72 (by first | rfl | decide | assumption) (⟨congrArg (fun z => some (Value.int z)) (b01_0 (decide_eq_false (Int32.not_lt.mpr c_64))), rfl⟩) (by decide) (by decide)
    · refine j_iconst (v := 1) hX dX7_holds_67 (by decide) ?_
      refine j_goto hX 72 dX7_holds_68 (by decide) ?_
      exact j_zret hX hE dX7_holds_72 (by first | rfl | decide | assumption) (⟨congrArg (fun z => some (Value.int z)) (b01_1 (decide_eq_true (Int32.not_le.mp c_64))), rfl⟩) (by decide) (by decide)
  · refine j_aload_n hX dX7_holds_0 0 rfl ?_
    refine j_get (v := .int (nI 3)) hX hv rfl wf_X7 5 (by decide) lk_X7_15 (fun _ h => h) rfl dX7_holds_1 ?_
    refine j_tabIn (off := 69) hX 73 dX7_holds_4 (by decide) (by decide) (by decide) (by decide) ?_
    refine j_iload_n hX dX7_holds_73 1 rfl ?_
    refine j_iload_n hX dX7_holds_74 2 rfl ?_
    refine j_icmp_lt hX 82 dX7_holds_75 (by decide) (fun c_75 => ?_) (fun c_75 => ?_)
    · refine j_iconst (v := 0) hX dX7_holds_82 (by decide) ?_
      exact j_zret hX hE dX7_holds_83 (by first | rfl | decide | assumption) (⟨congrArg (fun z => some (Value.int z)) (b01_0 (decide_eq_false (Int32.not_le.mpr c_75))), rfl⟩) (by decide) (by decide)
    · refine j_iconst (v := 1) hX dX7_holds_78 (by decide) ?_
      refine j_goto hX 83 dX7_holds_79 (by decide) ?_
      exact j_zret hX hE dX7_holds_83 (by first | rfl | decide | assumption) (⟨congrArg (fun z => some (Value.int z)) (b01_1 (decide_eq_true (Int32.not_lt.mp c_75))), rfl⟩) (by decide) (by decide)
  · refine j_aload_n hX dX7_holds_0 0 rfl ?_
    refine j_get (v := .int (nI 4)) hX hv rfl wf_X7 5 (by decide) lk_X7_15 (fun _ h => h) rfl dX7_holds_1 ?_
    refine j_tabIn (off := 80) hX 84 dX7_holds_4 (by decide) (by decide) (by decide) (by decide) ?_
    refine j_iload_n hX dX7_holds_84 1 rfl ?_
    refine j_iload_n hX dX7_holds_85 2 rfl ?_
    refine j_icmp_le hX 93 dX7_holds_86 (by decide) (fun c_86 => ?_) (fun c_86 => ?_)
    · refine j_iconst (v := 0) hX dX7_holds_93 (by decide) ?_
      exact j_zret hX hE dX7_holds_94 (by first | rfl | decide | assumption) (⟨congrArg (fun z => some (Value.int z)) (b01_0 (decide_eq_false (Int32.not_lt.mpr c_86))), rfl⟩) (by decide) (by decide)
    · refine j_iconst (v := 1) hX dX7_holds_89 (by decide) ?_
      refine j_goto hX 94 dX7_holds_90 (by decide) ?_
      exact j_zret hX hE dX7_holds_94 (by first | rfl | decide | assumption) (⟨congrArg (fun z => some (Value.int z)) (b01_1 (decide_eq_true (Int32.not_le.mp c_86))), rfl⟩) (by decide) (by decide)
  · refine j_aload_n hX dX7_holds_0 0 rfl ?_
    refine j_get (v := .int (nI 5)) hX hv rfl wf_X7 5 (by decide) lk_X7_15 (fun _ h => h) rfl dX7_holds_1 ?_
    refine j_tabOut hX 95 dX7_holds_4 (by decide) (by decide) ?_
    refine j_iload_n hX dX7_holds_95 1 rfl ?_
    refine j_iload_n hX dX7_holds_96 2 rfl ?_
    refine j_icmp_gt hX 104 dX7_holds_97 (by decide) (fun c_97 => ?_) (fun c_97 => ?_)
    · refine j_iconst (v := 0) hX dX7_holds_104 (by decide) ?_
      exact j_zret hX hE dX7_holds_105 (by first | rfl | decide | assumption) (⟨congrArg (fun z => some (Value.int z)) (b01_0 (decide_eq_false (Int32.not_le.mpr c_97))), rfl⟩) (by decide) (by decide)
    · refine j_iconst (v := 1) hX dX7_holds_100 (by decide) ?_
      refine j_goto hX 105 dX7_holds_101 (by decide) ?_
      exact j_zret hX hE dX7_holds_105 (by first | rfl | decide | assumption) (⟨congrArg (fun z => some (Value.int z)) (b01_1 (decide_eq_true (Int32.not_lt.mp c_97))), rfl⟩) (by decide) (by decide)

set_option maxRecDepth 20000 in
set_option maxHeartbeats 600000 in
/-- selection: makeInto -/
theorem c_X7_makeInto_t (l : Launch) (K : Cst) (g : Wd) (b ca oa rw : Nat) (rf0 : Nat → Int32) (hI : bagR K g b ca oa []) (hrw : g rw = some (aI K 4 rf0)) (v rr : Nat) (dp : Int32) (c cm tc : Nat) (hc4 : c < 4) (hcm : cm ≤ 5) (htc : tc < 4) (lr nw nx p : Nat) (vw : Value) (cc ch : Int32) (hlr : g lr = some (ob 6 [.ref nw, .ref nx, vw, .int cc, .int (nI p), .int ch])) (hp : p < 2 ^ 31) (lb lca loa : Nat) (L : Bg) (hlb : (if 0 < p then nx else nw) = lb) (hL : bagR K g lb lca loa L) (gL : good L) (nb : lb ≠ b) (nca : lca ≠ ca) (noa : loa ≠ oa) (hv : g v = some (ob 7 [.ref lr, .ref rr, .int dp, .ref rw, .int (nI c), .int (nI cm), .int (nI tc), .int 1])) : Ct l K yX7_makeInto cX7_makeInto 6 (some .boolean) 4 [.ref v, .ref b] g (mkP K g b ca oa rw (fun _ => True) (fldB (fun x : Row × Nat => if selH cm (cellR x.1 c) (cellR x.1 tc) = true then some (x.1, (x.2 : Int)) else none) L [])) (fun _ _ => False) 0 0 := by
  refine ct_of (by decide) (Nat.le_of_ble_eq_true rfl) ?_
  intro X hl hK hX hE hn hL hR hm
  subst hl; subst hK
  show J X 0 0 g 0 [(0, .ref v), (1, .ref b)] []
  obtain ⟨if0, it0, hI0, hIr⟩ := id hI
  obtain ⟨lf, lt, hbg, hLr⟩ := hL
  have hLn : L.length ≤ 20 := gL.2.1
  have n_v_b : v ≠ b := ne_ob (hv) (hI0.1) (by simp)
  have n_v_ca : v ≠ ca := ne_ob (hv) (hI0.2.1) (by simp)
  have n_v_oa : v ≠ oa := ne_ob (hv) (hI0.2.2) (by simp)
  have n_v_rw : v ≠ rw := ne_ob (hv) (hrw) (by simp)
  have n_lr_b : lr ≠ b := ne_ob (hlr) (hI0.1) (by simp)
  have n_lr_ca : lr ≠ ca := ne_ob (hlr) (hI0.2.1) (by simp)
  have n_lr_oa : lr ≠ oa := ne_ob (hlr) (hI0.2.2) (by simp)
  have n_lr_rw : lr ≠ rw := ne_ob (hlr) (hrw) (by simp)
  have n_lb_b : lb ≠ b := nb
  have n_lb_ca : lb ≠ ca := ne_ob (hbg.1) (hI0.2.1) (by simp)
  have n_lb_oa : lb ≠ oa := ne_ob (hbg.1) (hI0.2.2) (by simp)
  have n_lb_rw : lb ≠ rw := ne_ob (hbg.1) (hrw) (by simp)
  have n_lca_b : lca ≠ b := ne_ob (hbg.2.1) (hI0.1) (by simp)
  have n_lca_ca : lca ≠ ca := nca
  have n_lca_oa : lca ≠ oa := ne_ob (hbg.2.1) (hI0.2.2) (by simp)
  have n_lca_rw : lca ≠ rw := ne_ob (hbg.2.1) (hrw) (by simp)
  have n_loa_b : loa ≠ b := ne_ob (hbg.2.2) (hI0.1) (by simp)
  have n_loa_ca : loa ≠ ca := ne_ob (hbg.2.2) (hI0.2.1) (by simp)
  have n_loa_oa : loa ≠ oa := noa
  have n_loa_rw : loa ≠ rw := ne_ob (hbg.2.2) (hrw) (by simp)
  have n_b_rw : b ≠ rw := ne_ob (hI0.1) hrw (by simp)
  have n_ca_rw : ca ≠ rw := ne_ob (hI0.2.1) hrw (by simp)
  have n_oa_rw : oa ≠ rw := ne_ob (hI0.2.2) hrw (by simp)
  have loop : ∀ (m k : Nat) (g1 : Wd) (acc : Bg), k + m = L.length → Fr g g1 [b, ca, oa, rw] → bagR (xK X) g1 b ca oa acc → good acc → (∃ rf, g1 rw = some (aI (xK X) 4 rf) ∧ (fun _ => True) rf) → fldB (fun x : Row × Nat => if selH cm (cellR x.1 c) (cellR x.1 tc) = true then some (x.1, (x.2 : Int)) else none) (L.drop k) acc = fldB (fun x : Row × Nat => if selH cm (cellR x.1 c) (cellR x.1 tc) = true then some (x.1, (x.2 : Int)) else none) L [] → J X 0 0 g1 13 [(4, .int (nI k)), (3, .int 1), (2, .ref lb), (0, .ref v), (1, .ref b)] [] := by
    intro m
    induction m with
    | zero =>
      intro k g1 acc hk hF hI1 hGa hrwE hRs
      obtain ⟨rf1, rw1, hIr1⟩ := hrwE
      have v1 := Fr.at hF hv (nm4 n_v_b n_v_ca n_v_oa n_v_rw)
      have lr1 := Fr.at hF hlr (nm4 n_lr_b n_lr_ca n_lr_oa n_lr_rw)
      have bg1 := isBag.at hbg hF (nm4 n_lb_b n_lb_ca n_lb_oa n_lb_rw) (nm4 n_lca_b n_lca_ca n_lca_oa n_lca_rw) (nm4 n_loa_b n_loa_ca n_loa_oa n_loa_rw)
      refine j_iload hX dX7_makeInto_13 0 rfl ?_
      refine j_aload_n hX dX7_makeInto_15 2 rfl ?_
      refine j_getN (v := .int (nI L.length)) hX bg1.1 rfl wf_X0 2 (by decide) nk_X7_35 (fun _ h => h) rfl dX7_makeInto_16 ?_
      refine j_icmp_ge hX 104 dX7_makeInto_19 (by decide) (fun _ => ?_) (fun c_19 => absurd (nI_le (a := L.length) (b := k) (by omega) (by omega)) c_19)
      refine j_iload_n hX dX7_makeInto_104 1 rfl ?_
      exact j_zret hX hE dX7_makeInto_105 (by first | rfl | decide | assumption) (⟨hF, ⟨rf1, rw1, hIr1⟩, by rw [← hRs, fld_end (by omega)]; exact ⟨rfl, hI1, hGa⟩⟩) (by decide) (by decide)
    | succ m ih =>
      intro k g1 acc hk hF hI1 hGa hrwE hRs
      obtain ⟨rf1, rw1, hIr1⟩ := hrwE
      have hk9 : k < L.length := by omega
      have hx9 : L[k]? = some L[k] := List.getElem?_eq_getElem hk9
      have hLk := Bg_lt gL hk9
      have v1 := Fr.at hF hv (nm4 n_v_b n_v_ca n_v_oa n_v_rw)
      have lr1 := Fr.at hF hlr (nm4 n_lr_b n_lr_ca n_lr_oa n_lr_rw)
      have bg1 := isBag.at hbg hF (nm4 n_lb_b n_lb_ca n_lb_oa n_lb_rw) (nm4 n_lca_b n_lca_ca n_lca_oa n_lca_rw) (nm4 n_loa_b n_loa_ca n_loa_oa n_loa_rw)
      refine j_iload hX dX7_makeInto_13 0 rfl ?_
      refine j_aload_n hX dX7_makeInto_15 2 rfl ?_
      refine j_getN (v := .int (nI L.length)) hX bg1.1 rfl wf_X0 2 (by decide) nk_X7_35 (fun _ h => h) rfl dX7_makeInto_16 ?_
      refine j_icmp_ge hX 104 dX7_makeInto_19 (by decide) (fun c_19 => absurd c_19 (nI_ge (a := k) (b := L.length) (by omega) (by omega))) (fun _ => ?_)
      refine j_iload_n hX dX7_makeInto_22 1 rfl ?_
      refine j_if_eq hX 104 dX7_makeInto_23 (by decide) (fun c_23 => absurd c_23 (show ¬ (1 : Int32) = 0 by decide)) (fun _ => ?_)
      refine j_aload_n hX dX7_makeInto_26 3 rfl ?_
      refine j_get (v := .int 1) hX v1 rfl wf_X7 7 (by decide) lk_X7_21 (fun _ h => h) rfl dX7_makeInto_27 ?_
      refine j_if_eq hX 46 dX7_makeInto_30 (by decide) (fun c_30 => absurd c_30 (show ¬ (1 : Int32) = 0 by decide)) (fun _ => ?_)
      refine j_aload_n hX dX7_makeInto_33 2 rfl ?_
      refine j_iload hX dX7_makeInto_34 0 rfl ?_
      refine j_aload_n hX dX7_makeInto_36 3 rfl ?_
      refine j_get (v := .int (nI tc)) hX v1 rfl wf_X7 6 (by decide) lk_X7_18 (fun _ h => h) rfl dX7_makeInto_37 ?_
      refine j_callV (As := [.int (nI k), .int (nI tc)]) (rest := []) hX (c_X0_cellAt (xl X) (xK X) g1 lb lca loa L.length lf lt bg1 k tc (by omega) (by omega)) bg1.1 rfl lk_X7_40 wI_X0_cellAt wV_X0_X0_cellAt wN_X0 wC_X0_cellAt hd_X0_cellAt rfl (by rw [hL]; decide) (by decide) rfl (Nat.le_of_ble_eq_true rfl) dX7_makeInto_40 (by rw [hR]; decide) (by rw [hR]; decide) jx_no ?_
      rintro _ _ ⟨rfl, rfl⟩
      show J X 0 0 g1 43 [(4, .int (nI k)), (3, .int 1), (2, .ref lb), (0, .ref v), (1, .ref b)] [.int (lf (4 * k + tc))]
      refine j_eqi (y := cellR (L[k]).1 tc) (rep_cell hLr hk9 (by omega)) ?_
      refine j_goto hX 50 dX7_makeInto_43 (by decide) ?_
      refine j_istore (lv' := [(5, .int (cellR (L[k]).1 tc)), (4, .int (nI k)), (3, .int 1), (2, .ref lb), (0, .ref v), (1, .ref b)]) hX dX7_makeInto_50 (by rw [hn]; decide) rfl ?_
      refine j_aload_n hX dX7_makeInto_52 4 rfl ?_
      refine j_aload_n hX dX7_makeInto_53 3 rfl ?_
      refine j_iload hX dX7_makeInto_54 1 rfl ?_
      refine j_aload_n hX dX7_makeInto_56 4 rfl ?_
      refine j_get (v := .int (nI c)) hX v1 rfl wf_X7 4 (by decide) lk_X7_9 (fun _ h => h) rfl dX7_makeInto_57 ?_
      refine j_callV (As := [.int (nI k), .int (nI c)]) (rest := [.ref v]) hX (c_X0_cellAt (xl X) (xK X) g1 lb lca loa L.length lf lt bg1 k c (by omega) (by omega)) bg1.1 rfl lk_X7_40 wI_X0_cellAt wV_X0_X0_cellAt wN_X0 wC_X0_cellAt hd_X0_cellAt rfl (by rw [hL]; decide) (by decide) rfl (Nat.le_of_ble_eq_true rfl) dX7_makeInto_60 (by rw [hR]; decide) (by rw [hR]; decide) jx_no ?_
      rintro _ _ ⟨rfl, rfl⟩
      show J X 0 0 g1 63 [(5, .int (cellR (L[k]).1 tc)), (4, .int (nI k)), (3, .int 1), (2, .ref lb), (0, .ref v), (1, .ref b)] [.int (lf (4 * k + c)), .ref v]
      refine j_eqi (y := cellR (L[k]).1 c) (rep_cell hLr hk9 (by omega)) ?_
      refine j_iload hX dX7_makeInto_63 0 rfl ?_
      refine j_callV (As := [.int (cellR (L[k]).1 c), .int (cellR (L[k]).1 tc)]) (rest := []) hX (c_X7_holds (xl X) (xK X) g1 v lr rr rw dp (nI c) (nI tc) 1 cm v1 hcm _ _) v1 rfl lk_X7_44 wI_X7_holds wV_X7_X7_holds wN_X7 wC_X7_holds hd_X7_holds rfl (by rw [hL]; decide) (by decide) rfl (Nat.le_of_ble_eq_true rfl) dX7_makeInto_65 (by rw [hR]; decide) (by rw [hR]; decide) jx_no ?_
      rintro _ _ ⟨rfl, rfl⟩
      show J X 0 0 g1 68 [(5, .int (cellR (L[k]).1 tc)), (4, .int (nI k)), (3, .int 1), (2, .ref lb), (0, .ref v), (1, .ref b)] [.int (b01 (selH cm (cellR (L[k]).1 c) (cellR (L[k]).1 tc)))]
      refine j_if_eq hX 98 dX7_makeInto_68 (by decide) (fun c_68 => ?_) (fun c_68 => ?_)
      · have c68 := b01_f c_68
        refine j_iinc (v := nI (k + 1)) (lv' := [(4, .int (nI (k + 1))), (5, .int (cellR (L[k]).1 tc)), (3, .int 1), (2, .ref lb), (0, .ref v), (1, .ref b)]) hX dX7_makeInto_98 1 rfl (nI_1 k) (by rw [hn]; decide) rfl ?_
        refine j_goto hX 13 dX7_makeInto_101 (by decide) ?_
        refine j_sub [0, 2, 3, 4, 5] rfl ?_
        exact ih (k + 1) g1 acc (by omega) hF hI1 hGa ⟨rf1, rw1, hIr1⟩ (by rw [← hRs, fld_skip hk9 (if_neg c68)])
      · have c68 := b01_t c_68
        refine j_aload_n hX dX7_makeInto_71 3 rfl ?_
        refine j_iload hX dX7_makeInto_72 1 rfl ?_
        refine j_aload_n hX dX7_makeInto_74 4 rfl ?_
        refine j_get (v := .ref rw) hX v1 rfl wf_X7 3 (by decide) lk_X7_48 (fun z h => u_same (hX.ts _ wz_23) z h) rfl dX7_makeInto_75 ?_
        refine j_callV (As := [.int (nI k), .ref rw]) (rest := []) hX (c_X0_readRow (xl X) (xK X) g1 lb lca loa L.length lf lt bg1 rw rf1 rw1 k (by omega)) bg1.1 rfl lk_X7_52 wI_X0_readRow wV_X0_X0_readRow wN_X0 wC_X0_readRow hd_X0_readRow rfl (by rw [hL]; decide) (by decide) rfl (Nat.le_of_ble_eq_true rfl) dX7_makeInto_78 (by rw [hR]; decide) (by rw [hR]; decide) jx_no ?_
        rintro _ g2 ⟨rfl, rw2, hF2⟩
        have v2 := Fr.at hF2 v1 (nm1 n_v_rw)
        have lr2 := Fr.at hF2 lr1 (nm1 n_lr_rw)
        have bg2 := isBag.at bg1 hF2 (nm1 n_lb_rw) (nm1 n_lca_rw) (nm1 n_loa_rw)
        have iR2 := bagR.at hI1 hF2 (nm1 n_b_rw) (nm1 n_ca_rw) (nm1 n_oa_rw)
        obtain ⟨if2, it2, iB2, iRp2⟩ := id iR2
        have hrow : rowAt (va_cpy lf rf1 (4 * k) 0 4) 0 = (L[k]).1 := by rw [row_copied, (hLr k _ hx9).1]
        show J X 0 0 g2 81 [(5, .int (cellR (L[k]).1 tc)), (4, .int (nI k)), (3, .int 1), (2, .ref lb), (0, .ref v), (1, .ref b)] []
        refine j_aload_n hX dX7_makeInto_81 5 rfl ?_
        refine j_aload_n hX dX7_makeInto_82 4 rfl ?_
        refine j_get (v := .ref rw) hX v2 rfl wf_X7 3 (by decide) lk_X7_48 (fun z h => u_same (hX.ts _ wz_23) z h) rfl dX7_makeInto_83 ?_
        refine j_aload_n hX dX7_makeInto_86 3 rfl ?_
        refine j_getN (v := .ref loa) hX bg2.1 rfl wf_X0 1 (by decide) nk_X7_56 (fun _ h => h) rfl dX7_makeInto_87 ?_
        refine j_iload hX dX7_makeInto_90 1 rfl ?_
        refine j_ialdN hX bg2.2.2 (k) (rfl) (by omega) (by decide) dX7_makeInto_92 ?_
        refine j_eqi (y := nI (L[k]).2) ((hLr k _ hx9).2) ?_
        refine j_i2l hX dX7_makeInto_93 ?_
        refine j_callV (As := [.ref rw, .long ((nI (L[k]).2).toInt64)]) (rest := []) hX (c_X0_add (xl X) (xK X) g2 b ca oa acc iR2 hGa rw _ rw2 ((nI (L[k]).2).toInt64) (((L[k]).2 : Int)) (l_nI (by omega)) (by omega) (by omega)) iB2.1 rfl lk_X7_59 wI_X0_add wV_X0_X0_add wN_X0 wC_X0_add hd_X0_add rfl (by rw [hL]; decide) (by decide) rfl (Nat.le_of_ble_eq_true rfl) dX7_makeInto_94 (by rw [hR]; decide) (by rw [hR]; decide) jx_no ?_
        intro v9 g3 h9
        rw [hrow] at h9
        rcases h8 : addB (L[k]).1 (((L[k]).2 : Int)) acc with _ | B9
        · rw [h8] at h9
          obtain ⟨rfl, rfl⟩ := h9
          show J X 0 0 g2 97 [(5, .int (cellR (L[k]).1 tc)), (4, .int (nI k)), (3, .int 1), (2, .ref lb), (0, .ref v), (1, .ref b)] [.int 0]
          refine j_istore_n (lv' := [(3, .int 0), (5, .int (cellR (L[k]).1 tc)), (4, .int (nI k)), (2, .ref lb), (0, .ref v), (1, .ref b)]) hX dX7_makeInto_97 (by rw [hn]; decide) rfl ?_
          refine j_iinc (v := nI (k + 1)) (lv' := [(4, .int (nI (k + 1))), (3, .int 0), (5, .int (cellR (L[k]).1 tc)), (2, .ref lb), (0, .ref v), (1, .ref b)]) hX dX7_makeInto_98 2 rfl (nI_1 k) (by rw [hn]; decide) rfl ?_
          refine j_goto hX 13 dX7_makeInto_101 (by decide) ?_
          refine j_iload hX dX7_makeInto_13 0 rfl ?_
          refine j_aload_n hX dX7_makeInto_15 3 rfl ?_
          refine j_getN (v := .int (nI L.length)) hX bg2.1 rfl wf_X0 2 (by decide) nk_X7_35 (fun _ h => h) rfl dX7_makeInto_16 ?_
          refine j_icmp_ge hX 104 dX7_makeInto_19 (by decide) (fun c_19 => ?_) (fun c_19 => ?_)
          · refine j_iload_n hX dX7_makeInto_104 1 rfl ?_
            exact j_zret hX hE dX7_makeInto_105 (by first | rfl | decide | assumption) (⟨fr2 hF hF2, ⟨_, rw2, trivial⟩, by rw [← hRs, fld_no (q := ((L[k]).1, ((L[k]).2 : Int))) hk9 (if_pos c68) h8]; exact ⟨rfl, _, _, _, iB2⟩⟩) (by decide) (by decide)
          · refine j_iload_n hX dX7_makeInto_22 1 rfl ?_
            refine j_if_eq hX 104 dX7_makeInto_23 (by decide) (fun _ => ?_) (fun c_23 => absurd (show (0 : Int32) = 0 from rfl) c_23)
            refine j_iload_n hX dX7_makeInto_104 1 rfl ?_
            exact j_zret hX hE dX7_makeInto_105 (by first | rfl | decide | assumption) (⟨fr2 hF hF2, ⟨_, rw2, trivial⟩, by rw [← hRs, fld_no (q := ((L[k]).1, ((L[k]).2 : Int))) hk9 (if_pos c68) h8]; exact ⟨rfl, _, _, _, iB2⟩⟩) (by decide) (by decide)
        · rw [h8] at h9
          obtain ⟨rfl, hB3, hF3⟩ := h9
          show J X 0 0 g3 97 [(5, .int (cellR (L[k]).1 tc)), (4, .int (nI k)), (3, .int 1), (2, .ref lb), (0, .ref v), (1, .ref b)] [.int 1]
          refine j_istore_n (lv' := [(3, .int 1), (5, .int (cellR (L[k]).1 tc)), (4, .int (nI k)), (2, .ref lb), (0, .ref v), (1, .ref b)]) hX dX7_makeInto_97 (by rw [hn]; decide) rfl ?_
          refine j_iinc (v := nI (k + 1)) (lv' := [(4, .int (nI (k + 1))), (3, .int 1), (5, .int (cellR (L[k]).1 tc)), (2, .ref lb), (0, .ref v), (1, .ref b)]) hX dX7_makeInto_98 2 rfl (nI_1 k) (by rw [hn]; decide) rfl ?_
          refine j_goto hX 13 dX7_makeInto_101 (by decide) ?_
          refine j_sub [0, 1, 3, 4, 5] rfl ?_
          exact ih (k + 1) g3 B9 (by omega) (fr3 hF hF2 hF3) hB3 (addB_good hGa h8) ⟨_, Fr.at hF3 rw2 (nm3 n_b_rw.symm n_ca_rw.symm n_oa_rw.symm), trivial⟩ (by rw [← hRs, fld_yes (q := ((L[k]).1, ((L[k]).2 : Int))) hk9 (if_pos c68) h8])
  refine j_aload_n hX dX7_makeInto_0 0 rfl ?_
  refine j_get (v := .ref lr) hX hv rfl wf_X7 0 (by decide) lk_X7_25 (fun z h => u_same (hX.ts _ wz_22) z h) rfl dX7_makeInto_1 ?_
  refine j_callV (As := []) (rest := []) hX (c_X6_latest (xl X) (xK X) g lr nw nx p vw cc ch hlr hp) hlr rfl lk_X7_29 wI_X6_latest wV_X6_X6_latest wN_X6 wC_X6_latest hd_X6_latest rfl (by rw [hL]; decide) (by decide) rfl (Nat.le_of_ble_eq_true rfl) dX7_makeInto_4 (by rw [hR]; decide) (by rw [hR]; decide) jx_no ?_
  rintro _ _ ⟨rfl, rfl⟩
  rw [hlb]
  show J X 0 0 g 7 [(0, .ref v), (1, .ref b)] [.ref lb]
  refine j_astore_n (lv' := [(2, .ref lb), (0, .ref v), (1, .ref b)]) hX dX7_makeInto_7 (by rw [hn]; decide) rfl ?_
  refine j_iconst (v := 1) hX dX7_makeInto_8 (by decide) ?_
  refine j_istore_n (lv' := [(3, .int 1), (2, .ref lb), (0, .ref v), (1, .ref b)]) hX dX7_makeInto_9 (by rw [hn]; decide) rfl ?_
  refine j_iconst (v := nI 0) hX dX7_makeInto_10 (by decide) ?_
  refine j_istore (lv' := [(4, .int (nI 0)), (3, .int 1), (2, .ref lb), (0, .ref v), (1, .ref b)]) hX dX7_makeInto_11 (by rw [hn]; decide) rfl ?_
  refine j_sub [0, 1, 2, 3, 4] rfl ?_
  exact loop L.length 0 g [] (by omega) (Fr.rf _ _) hI good_nil ⟨_, hrw, trivial⟩ rfl

set_option maxRecDepth 20000 in
set_option maxHeartbeats 600000 in
/-- selection: makeInto -/
theorem c_X7_makeInto_f (l : Launch) (K : Cst) (g : Wd) (b ca oa rw : Nat) (rf0 : Nat → Int32) (hI : bagR K g b ca oa []) (hrw : g rw = some (aI K 4 rf0)) (v rr : Nat) (dp : Int32) (c cm : Nat) (th : Int32) (hc4 : c < 4) (hcm : cm ≤ 5) (lr nw nx p : Nat) (vw : Value) (cc ch : Int32) (hlr : g lr = some (ob 6 [.ref nw, .ref nx, vw, .int cc, .int (nI p), .int ch])) (hp : p < 2 ^ 31) (lb lca loa : Nat) (L : Bg) (hlb : (if 0 < p then nx else nw) = lb) (hL : bagR K g lb lca loa L) (gL : good L) (nb : lb ≠ b) (nca : lca ≠ ca) (noa : loa ≠ oa) (hv : g v = some (ob 7 [.ref lr, .ref rr, .int dp, .ref rw, .int (nI c), .int (nI cm), .int th, .int 0])) : Ct l K yX7_makeInto cX7_makeInto 6 (some .boolean) 4 [.ref v, .ref b] g (mkP K g b ca oa rw (fun _ => True) (fldB (fun x : Row × Nat => if selH cm (cellR x.1 c) (th) = true then some (x.1, (x.2 : Int)) else none) L [])) (fun _ _ => False) 0 0 := by
  refine ct_of (by decide) (Nat.le_of_ble_eq_true rfl) ?_
  intro X hl hK hX hE hn hL hR hm
  subst hl; subst hK
  show J X 0 0 g 0 [(0, .ref v), (1, .ref b)] []
  obtain ⟨if0, it0, hI0, hIr⟩ := id hI
  obtain ⟨lf, lt, hbg, hLr⟩ := hL
  have hLn : L.length ≤ 20 := gL.2.1
  have n_v_b : v ≠ b := ne_ob (hv) (hI0.1) (by simp)
  have n_v_ca : v ≠ ca := ne_ob (hv) (hI0.2.1) (by simp)
  have n_v_oa : v ≠ oa := ne_ob (hv) (hI0.2.2) (by simp)
  have n_v_rw : v ≠ rw := ne_ob (hv) (hrw) (by simp)
  have n_lr_b : lr ≠ b := ne_ob (hlr) (hI0.1) (by simp)
  have n_lr_ca : lr ≠ ca := ne_ob (hlr) (hI0.2.1) (by simp)
  have n_lr_oa : lr ≠ oa := ne_ob (hlr) (hI0.2.2) (by simp)
  have n_lr_rw : lr ≠ rw := ne_ob (hlr) (hrw) (by simp)
  have n_lb_b : lb ≠ b := nb
  have n_lb_ca : lb ≠ ca := ne_ob (hbg.1) (hI0.2.1) (by simp)
  have n_lb_oa : lb ≠ oa := ne_ob (hbg.1) (hI0.2.2) (by simp)
  have n_lb_rw : lb ≠ rw := ne_ob (hbg.1) (hrw) (by simp)
  have n_lca_b : lca ≠ b := ne_ob (hbg.2.1) (hI0.1) (by simp)
  have n_lca_ca : lca ≠ ca := nca
  have n_lca_oa : lca ≠ oa := ne_ob (hbg.2.1) (hI0.2.2) (by simp)
  have n_lca_rw : lca ≠ rw := ne_ob (hbg.2.1) (hrw) (by simp)
  have n_loa_b : loa ≠ b := ne_ob (hbg.2.2) (hI0.1) (by simp)
  have n_loa_ca : loa ≠ ca := ne_ob (hbg.2.2) (hI0.2.1) (by simp)
  have n_loa_oa : loa ≠ oa := noa
  have n_loa_rw : loa ≠ rw := ne_ob (hbg.2.2) (hrw) (by simp)
  have n_b_rw : b ≠ rw := ne_ob (hI0.1) hrw (by simp)
  have n_ca_rw : ca ≠ rw := ne_ob (hI0.2.1) hrw (by simp)
  have n_oa_rw : oa ≠ rw := ne_ob (hI0.2.2) hrw (by simp)
  have loop : ∀ (m k : Nat) (g1 : Wd) (acc : Bg), k + m = L.length → Fr g g1 [b, ca, oa, rw] → bagR (xK X) g1 b ca oa acc → good acc → (∃ rf, g1 rw = some (aI (xK X) 4 rf) ∧ (fun _ => True) rf) → fldB (fun x : Row × Nat => if selH cm (cellR x.1 c) (th) = true then some (x.1, (x.2 : Int)) else none) (L.drop k) acc = fldB (fun x : Row × Nat => if selH cm (cellR x.1 c) (th) = true then some (x.1, (x.2 : Int)) else none) L [] → J X 0 0 g1 13 [(4, .int (nI k)), (3, .int 1), (2, .ref lb), (0, .ref v), (1, .ref b)] [] := by
    intro m
    induction m with
    | zero =>
      intro k g1 acc hk hF hI1 hGa hrwE hRs
      obtain ⟨rf1, rw1, hIr1⟩ := hrwE
      have v1 := Fr.at hF hv (nm4 n_v_b n_v_ca n_v_oa n_v_rw)
      have lr1 := Fr.at hF hlr (nm4 n_lr_b n_lr_ca n_lr_oa n_lr_rw)
      have bg1 := isBag.at hbg hF (nm4 n_lb_b n_lb_ca n_lb_oa n_lb_rw) (nm4 n_lca_b n_lca_ca n_lca_oa n_lca_rw) (nm4 n_loa_b n_loa_ca n_loa_oa n_loa_rw)
      refine j_iload hX dX7_makeInto_13 0 rfl ?_
      refine j_aload_n hX dX7_makeInto_15 2 rfl ?_
      refine j_getN (v := .int (nI L.length)) hX bg1.1 rfl wf_X0 2 (by decide) nk_X7_35 (fun _ h => h) rfl dX7_makeInto_16 ?_
      refine j_icmp_ge hX 104 dX7_makeInto_19 (by decide) (fun _ => ?_) (fun c_19 => absurd (nI_le (a := L.length) (b := k) (by omega) (by omega)) c_19)
      refine j_iload_n hX dX7_makeInto_104 1 rfl ?_
      exact j_zret hX hE dX7_makeInto_105 (by first | rfl | decide | assumption) (⟨hF, ⟨rf1, rw1, hIr1⟩, by rw [← hRs, fld_end (by omega)]; exact ⟨rfl, hI1, hGa⟩⟩) (by decide) (by decide)
    | succ m ih =>
      intro k g1 acc hk hF hI1 hGa hrwE hRs
      obtain ⟨rf1, rw1, hIr1⟩ := hrwE
      have hk9 : k < L.length := by omega
      have hx9 : L[k]? = some L[k] := List.getElem?_eq_getElem hk9
      have hLk := Bg_lt gL hk9
      have v1 := Fr.at hF hv (nm4 n_v_b n_v_ca n_v_oa n_v_rw)
      have lr1 := Fr.at hF hlr (nm4 n_lr_b n_lr_ca n_lr_oa n_lr_rw)
      have bg1 := isBag.at hbg hF (nm4 n_lb_b n_lb_ca n_lb_oa n_lb_rw) (nm4 n_lca_b n_lca_ca n_lca_oa n_lca_rw) (nm4 n_loa_b n_loa_ca n_loa_oa n_loa_rw)
      refine j_iload hX dX7_makeInto_13 0 rfl ?_
      refine j_aload_n hX dX7_makeInto_15 2 rfl ?_
      refine j_getN (v := .int (nI L.length)) hX bg1.1 rfl wf_X0 2 (by decide) nk_X7_35 (fun _ h => h) rfl dX7_makeInto_16 ?_
      refine j_icmp_ge hX 104 dX7_makeInto_19 (by decide) (fun c_19 => absurd c_19 (nI_ge (a := k) (b := L.length) (by omega) (by omega))) (fun _ => ?_)
      refine j_iload_n hX dX7_makeInto_22 1 rfl ?_
      refine j_if_eq hX 104 dX7_makeInto_23 (by decide) (fun c_23 => absurd c_23 (show ¬ (1 : Int32) = 0 by decide)) (fun _ => ?_)
      refine j_aload_n hX dX7_makeInto_26 3 rfl ?_
      refine j_get (v := .int 0) hX v1 rfl wf_X7 7 (by decide) lk_X7_21 (fun _ h => h) rfl dX7_makeInto_27 ?_
      refine j_if_eq hX 46 dX7_makeInto_30 (by decide) (fun _ => ?_) (fun c_30 => absurd (show (0 : Int32) = 0 from rfl) c_30)
      refine j_aload_n hX dX7_makeInto_46 3 rfl ?_
      refine j_get (v := .int th) hX v1 rfl wf_X7 6 (by decide) lk_X7_18 (fun _ h => h) rfl dX7_makeInto_47 ?_
      refine j_istore (lv' := [(5, .int th), (4, .int (nI k)), (3, .int 1), (2, .ref lb), (0, .ref v), (1, .ref b)]) hX dX7_makeInto_50 (by rw [hn]; decide) rfl ?_
      refine j_aload_n hX dX7_makeInto_52 4 rfl ?_
      refine j_aload_n hX dX7_makeInto_53 3 rfl ?_
      refine j_iload hX dX7_makeInto_54 1 rfl ?_
      refine j_aload_n hX dX7_makeInto_56 4 rfl ?_
      refine j_get (v := .int (nI c)) hX v1 rfl wf_X7 4 (by decide) lk_X7_9 (fun _ h => h) rfl dX7_makeInto_57 ?_
      refine j_callV (As := [.int (nI k), .int (nI c)]) (rest := [.ref v]) hX (c_X0_cellAt (xl X) (xK X) g1 lb lca loa L.length lf lt bg1 k c (by omega) (by omega)) bg1.1 rfl lk_X7_40 wI_X0_cellAt wV_X0_X0_cellAt wN_X0 wC_X0_cellAt hd_X0_cellAt rfl (by rw [hL]; decide) (by decide) rfl (Nat.le_of_ble_eq_true rfl) dX7_makeInto_60 (by rw [hR]; decide) (by rw [hR]; decide) jx_no ?_
      rintro _ _ ⟨rfl, rfl⟩
      show J X 0 0 g1 63 [(5, .int th), (4, .int (nI k)), (3, .int 1), (2, .ref lb), (0, .ref v), (1, .ref b)] [.int (lf (4 * k + c)), .ref v]
      refine j_eqi (y := cellR (L[k]).1 c) (rep_cell hLr hk9 (by omega)) ?_
      refine j_iload hX dX7_makeInto_63 0 rfl ?_
      refine j_callV (As := [.int (cellR (L[k]).1 c), .int th]) (rest := []) hX (c_X7_holds (xl X) (xK X) g1 v lr rr rw dp (nI c) (th) 0 cm v1 hcm _ _) v1 rfl lk_X7_44 wI_X7_holds wV_X7_X7_holds wN_X7 wC_X7_holds hd_X7_holds rfl (by rw [hL]; decide) (by decide) rfl (Nat.le_of_ble_eq_true rfl) dX7_makeInto_65 (by rw [hR]; decide) (by rw [hR]; decide) jx_no ?_
      rintro _ _ ⟨rfl, rfl⟩
      show J X 0 0 g1 68 [(5, .int th), (4, .int (nI k)), (3, .int 1), (2, .ref lb), (0, .ref v), (1, .ref b)] [.int (b01 (selH cm (cellR (L[k]).1 c) (th)))]
      refine j_if_eq hX 98 dX7_makeInto_68 (by decide) (fun c_68 => ?_) (fun c_68 => ?_)
      · have c68 := b01_f c_68
        refine j_iinc (v := nI (k + 1)) (lv' := [(4, .int (nI (k + 1))), (5, .int th), (3, .int 1), (2, .ref lb), (0, .ref v), (1, .ref b)]) hX dX7_makeInto_98 1 rfl (nI_1 k) (by rw [hn]; decide) rfl ?_
        refine j_goto hX 13 dX7_makeInto_101 (by decide) ?_
        refine j_sub [0, 2, 3, 4, 5] rfl ?_
        exact ih (k + 1) g1 acc (by omega) hF hI1 hGa ⟨rf1, rw1, hIr1⟩ (by rw [← hRs, fld_skip hk9 (if_neg c68)])
      · have c68 := b01_t c_68
        refine j_aload_n hX dX7_makeInto_71 3 rfl ?_
        refine j_iload hX dX7_makeInto_72 1 rfl ?_
        refine j_aload_n hX dX7_makeInto_74 4 rfl ?_
        refine j_get (v := .ref rw) hX v1 rfl wf_X7 3 (by decide) lk_X7_48 (fun z h => u_same (hX.ts _ wz_23) z h) rfl dX7_makeInto_75 ?_
        refine j_callV (As := [.int (nI k), .ref rw]) (rest := []) hX (c_X0_readRow (xl X) (xK X) g1 lb lca loa L.length lf lt bg1 rw rf1 rw1 k (by omega)) bg1.1 rfl lk_X7_52 wI_X0_readRow wV_X0_X0_readRow wN_X0 wC_X0_readRow hd_X0_readRow rfl (by rw [hL]; decide) (by decide) rfl (Nat.le_of_ble_eq_true rfl) dX7_makeInto_78 (by rw [hR]; decide) (by rw [hR]; decide) jx_no ?_
        rintro _ g2 ⟨rfl, rw2, hF2⟩
        have v2 := Fr.at hF2 v1 (nm1 n_v_rw)
        have lr2 := Fr.at hF2 lr1 (nm1 n_lr_rw)
        have bg2 := isBag.at bg1 hF2 (nm1 n_lb_rw) (nm1 n_lca_rw) (nm1 n_loa_rw)
        have iR2 := bagR.at hI1 hF2 (nm1 n_b_rw) (nm1 n_ca_rw) (nm1 n_oa_rw)
        obtain ⟨if2, it2, iB2, iRp2⟩ := id iR2
        have hrow : rowAt (va_cpy lf rf1 (4 * k) 0 4) 0 = (L[k]).1 := by rw [row_copied, (hLr k _ hx9).1]
        show J X 0 0 g2 81 [(5, .int th), (4, .int (nI k)), (3, .int 1), (2, .ref lb), (0, .ref v), (1, .ref b)] []
        refine j_aload_n hX dX7_makeInto_81 5 rfl ?_
        refine j_aload_n hX dX7_makeInto_82 4 rfl ?_
        refine j_get (v := .ref rw) hX v2 rfl wf_X7 3 (by decide) lk_X7_48 (fun z h => u_same (hX.ts _ wz_23) z h) rfl dX7_makeInto_83 ?_
        refine j_aload_n hX dX7_makeInto_86 3 rfl ?_
        refine j_getN (v := .ref loa) hX bg2.1 rfl wf_X0 1 (by decide) nk_X7_56 (fun _ h => h) rfl dX7_makeInto_87 ?_
        refine j_iload hX dX7_makeInto_90 1 rfl ?_
        refine j_ialdN hX bg2.2.2 (k) (rfl) (by omega) (by decide) dX7_makeInto_92 ?_
        refine j_eqi (y := nI (L[k]).2) ((hLr k _ hx9).2) ?_
        refine j_i2l hX dX7_makeInto_93 ?_
        refine j_callV (As := [.ref rw, .long ((nI (L[k]).2).toInt64)]) (rest := []) hX (c_X0_add (xl X) (xK X) g2 b ca oa acc iR2 hGa rw _ rw2 ((nI (L[k]).2).toInt64) (((L[k]).2 : Int)) (l_nI (by omega)) (by omega) (by omega)) iB2.1 rfl lk_X7_59 wI_X0_add wV_X0_X0_add wN_X0 wC_X0_add hd_X0_add rfl (by rw [hL]; decide) (by decide) rfl (Nat.le_of_ble_eq_true rfl) dX7_makeInto_94 (by rw [hR]; decide) (by rw [hR]; decide) jx_no ?_
        intro v9 g3 h9
        rw [hrow] at h9
        rcases h8 : addB (L[k]).1 (((L[k]).2 : Int)) acc with _ | B9
        · rw [h8] at h9
          obtain ⟨rfl, rfl⟩ := h9
          show J X 0 0 g2 97 [(5, .int th), (4, .int (nI k)), (3, .int 1), (2, .ref lb), (0, .ref v), (1, .ref b)] [.int 0]
          refine j_istore_n (lv' := [(3, .int 0), (5, .int th), (4, .int (nI k)), (2, .ref lb), (0, .ref v), (1, .ref b)]) hX dX7_makeInto_97 (by rw [hn]; decide) rfl ?_
          refine j_iinc (v := nI (k + 1)) (lv' := [(4, .int (nI (k + 1))), (3, .int 0), (5, .int th), (2, .ref lb), (0, .ref v), (1, .ref b)]) hX dX7_makeInto_98 2 rfl (nI_1 k) (by rw [hn]; decide) rfl ?_
          refine j_goto hX 13 dX7_makeInto_101 (by decide) ?_
          refine j_iload hX dX7_makeInto_13 0 rfl ?_
          refine j_aload_n hX dX7_makeInto_15 3 rfl ?_
          refine j_getN (v := .int (nI L.length)) hX bg2.1 rfl wf_X0 2 (by decide) nk_X7_35 (fun _ h => h) rfl dX7_makeInto_16 ?_
          refine j_icmp_ge hX 104 dX7_makeInto_19 (by decide) (fun c_19 => ?_) (fun c_19 => ?_)
          · refine j_iload_n hX dX7_makeInto_104 1 rfl ?_
            exact j_zret hX hE dX7_makeInto_105 (by first | rfl | decide | assumption) (⟨fr2 hF hF2, ⟨_, rw2, trivial⟩, by rw [← hRs, fld_no (q := ((L[k]).1, ((L[k]).2 : Int))) hk9 (if_pos c68) h8]; exact ⟨rfl, _, _, _, iB2⟩⟩) (by decide) (by decide)
          · refine j_iload_n hX dX7_makeInto_22 1 rfl ?_
            refine j_if_eq hX 104 dX7_makeInto_23 (by decide) (fun _ => ?_) (fun c_23 => absurd (show (0 : Int32) = 0 from rfl) c_23)
            refine j_iload_n hX dX7_makeInto_104 1 rfl ?_
            exact j_zret hX hE dX7_makeInto_105 (by first | rfl | decide | assumption) (⟨fr2 hF hF2, ⟨_, rw2, trivial⟩, by rw [← hRs, fld_no (q := ((L[k]).1, ((L[k]).2 : Int))) hk9 (if_pos c68) h8]; exact ⟨rfl, _, _, _, iB2⟩⟩) (by decide) (by decide)
        · rw [h8] at h9
          obtain ⟨rfl, hB3, hF3⟩ := h9
          show J X 0 0 g3 97 [(5, .int th), (4, .int (nI k)), (3, .int 1), (2, .ref lb), (0, .ref v), (1, .ref b)] [.int 1]
          refine j_istore_n (lv' := [(3, .int 1), (5, .int th), (4, .int (nI k)), (2, .ref lb), (0, .ref v), (1, .ref b)]) hX dX7_makeInto_97 (by rw [hn]; decide) rfl ?_
          refine j_iinc (v := nI (k + 1)) (lv' := [(4, .int (nI (k + 1))), (3, .int 1), (5, .int th), (2, .ref lb), (0, .ref v), (1, .ref b)]) hX dX7_makeInto_98 2 rfl (nI_1 k) (by rw [hn]; decide) rfl ?_
          refine j_goto hX 13 dX7_makeInto_101 (by decide) ?_
          refine j_sub [0, 1, 3, 4, 5] rfl ?_
          exact ih (k + 1) g3 B9 (by omega) (fr3 hF hF2 hF3) hB3 (addB_good hGa h8) ⟨_, Fr.at hF3 rw2 (nm3 n_b_rw.symm n_ca_rw.symm n_oa_rw.symm), trivial⟩ (by rw [← hRs, fld_yes (q := ((L[k]).1, ((L[k]).2 : Int))) hk9 (if_pos c68) h8])
  refine j_aload_n hX dX7_makeInto_0 0 rfl ?_
  refine j_get (v := .ref lr) hX hv rfl wf_X7 0 (by decide) lk_X7_25 (fun z h => u_same (hX.ts _ wz_22) z h) rfl dX7_makeInto_1 ?_
  refine j_callV (As := []) (rest := []) hX (c_X6_latest (xl X) (xK X) g lr nw nx p vw cc ch hlr hp) hlr rfl lk_X7_29 wI_X6_latest wV_X6_X6_latest wN_X6 wC_X6_latest hd_X6_latest rfl (by rw [hL]; decide) (by decide) rfl (Nat.le_of_ble_eq_true rfl) dX7_makeInto_4 (by rw [hR]; decide) (by rw [hR]; decide) jx_no ?_
  rintro _ _ ⟨rfl, rfl⟩
  rw [hlb]
  show J X 0 0 g 7 [(0, .ref v), (1, .ref b)] [.ref lb]
  refine j_astore_n (lv' := [(2, .ref lb), (0, .ref v), (1, .ref b)]) hX dX7_makeInto_7 (by rw [hn]; decide) rfl ?_
  refine j_iconst (v := 1) hX dX7_makeInto_8 (by decide) ?_
  refine j_istore_n (lv' := [(3, .int 1), (2, .ref lb), (0, .ref v), (1, .ref b)]) hX dX7_makeInto_9 (by rw [hn]; decide) rfl ?_
  refine j_iconst (v := nI 0) hX dX7_makeInto_10 (by decide) ?_
  refine j_istore (lv' := [(4, .int (nI 0)), (3, .int 1), (2, .ref lb), (0, .ref v), (1, .ref b)]) hX dX7_makeInto_11 (by rw [hn]; decide) rfl ?_
  refine j_sub [0, 1, 2, 3, 4] rfl ?_
  exact loop L.length 0 g [] (by omega) (Fr.rf _ _) hI good_nil ⟨_, hrw, trivial⟩ rfl
end
section
set_option maxRecDepth 20000 in
set_option maxHeartbeats 600000 in
/-- columns: makeInto -/
theorem c_X1_makeInto (l : Launch) (K : Cst) (g : Wd) (b ca oa rw : Nat) (rf0 : Nat → Int32) (hI : bagR K g b ca oa []) (hrw : g rw = some (aI K 4 rf0)) (v rr ck : Nat) (dp : Int32) (cs : Nat → Option Nat) (hcs : ∀ i, i < 4 → ∀ c, cs i = some c → c < 4) (hck : g ck = some (aI K 4 (fun i => chv (cs i)))) (nck : ck ≠ rw) (lr nw nx p : Nat) (vw : Value) (cc ch : Int32) (hlr : g lr = some (ob 6 [.ref nw, .ref nx, vw, .int cc, .int (nI p), .int ch])) (hp : p < 2 ^ 31) (lb lca loa : Nat) (L : Bg) (hlb : (if 0 < p then nx else nw) = lb) (hL : bagR K g lb lca loa L) (gL : good L) (nb : lb ≠ b) (nca : lca ≠ ca) (noa : loa ≠ oa) (hv : g v = some (ob 1 [.ref lr, .ref rr, .int dp, .ref rw, .ref ck])) : Ct l K yX1_makeInto cX1_makeInto 6 (some .boolean) 4 [.ref v, .ref b] g (mkP K g b ca oa rw (fun _ => True) (fldB (fun x : Row × Nat => some (pickR cs x.1, (x.2 : Int))) L [])) (fun _ _ => False) 0 0 := by
  refine ct_of (by decide) (Nat.le_of_ble_eq_true rfl) ?_
  intro X hl hK hX hE hn hL hR hm
  subst hl; subst hK
  show J X 0 0 g 0 [(0, .ref v), (1, .ref b)] []
  obtain ⟨if0, it0, hI0, hIr⟩ := id hI
  obtain ⟨lf, lt, hbg, hLr⟩ := hL
  have hLn : L.length ≤ 20 := gL.2.1
  have n_v_b : v ≠ b := ne_ob (hv) (hI0.1) (by simp)
  have n_v_ca : v ≠ ca := ne_ob (hv) (hI0.2.1) (by simp)
  have n_v_oa : v ≠ oa := ne_ob (hv) (hI0.2.2) (by simp)
  have n_v_rw : v ≠ rw := ne_ob (hv) (hrw) (by simp)
  have n_lr_b : lr ≠ b := ne_ob (hlr) (hI0.1) (by simp)
  have n_lr_ca : lr ≠ ca := ne_ob (hlr) (hI0.2.1) (by simp)
  have n_lr_oa : lr ≠ oa := ne_ob (hlr) (hI0.2.2) (by simp)
  have n_lr_rw : lr ≠ rw := ne_ob (hlr) (hrw) (by simp)
  have n_lb_b : lb ≠ b := nb
  have n_lb_ca : lb ≠ ca := ne_ob (hbg.1) (hI0.2.1) (by simp)
  have n_lb_oa : lb ≠ oa := ne_ob (hbg.1) (hI0.2.2) (by simp)
  have n_lb_rw : lb ≠ rw := ne_ob (hbg.1) (hrw) (by simp)
  have n_lca_b : lca ≠ b := ne_ob (hbg.2.1) (hI0.1) (by simp)
  have n_lca_ca : lca ≠ ca := nca
  have n_lca_oa : lca ≠ oa := ne_ob (hbg.2.1) (hI0.2.2) (by simp)
  have n_lca_rw : lca ≠ rw := ne_ob (hbg.2.1) (hrw) (by simp)
  have n_loa_b : loa ≠ b := ne_ob (hbg.2.2) (hI0.1) (by simp)
  have n_loa_ca : loa ≠ ca := ne_ob (hbg.2.2) (hI0.2.1) (by simp)
  have n_loa_oa : loa ≠ oa := noa
  have n_loa_rw : loa ≠ rw := ne_ob (hbg.2.2) (hrw) (by simp)
  have n_ck_b : ck ≠ b := ne_ob (hck) (hI0.1) (by simp)
  have n_ck_ca : ck ≠ ca := ne_ob (hck) (hI0.2.1) (by simp)
  have n_ck_oa : ck ≠ oa := ne_ob (hck) (hI0.2.2) (by simp)
  have n_ck_rw : ck ≠ rw := nck
  have n_b_rw : b ≠ rw := ne_ob (hI0.1) hrw (by simp)
  have n_ca_rw : ca ≠ rw := ne_ob (hI0.2.1) hrw (by simp)
  have n_oa_rw : oa ≠ rw := ne_ob (hI0.2.2) hrw (by simp)
  have loop : ∀ (m k : Nat) (g1 : Wd) (acc : Bg), k + m = L.length → Fr g g1 [b, ca, oa, rw] → bagR (xK X) g1 b ca oa acc → good acc → (∃ rf, g1 rw = some (aI (xK X) 4 rf) ∧ (fun _ => True) rf) → fldB (fun x : Row × Nat => some (pickR cs x.1, (x.2 : Int))) (L.drop k) acc = fldB (fun x : Row × Nat => some (pickR cs x.1, (x.2 : Int))) L [] → J X 0 0 g1 13 [(4, .int (nI k)), (3, .int 1), (2, .ref lb), (0, .ref v), (1, .ref b)] [] := by
    intro m
    induction m with
    | zero =>
      intro k g1 acc hk hF hI1 hGa hrwE hRs
      obtain ⟨rf1, rw1, hIr1⟩ := hrwE
      have v1 := Fr.at hF hv (nm4 n_v_b n_v_ca n_v_oa n_v_rw)
      have lr1 := Fr.at hF hlr (nm4 n_lr_b n_lr_ca n_lr_oa n_lr_rw)
      have bg1 := isBag.at hbg hF (nm4 n_lb_b n_lb_ca n_lb_oa n_lb_rw) (nm4 n_lca_b n_lca_ca n_lca_oa n_lca_rw) (nm4 n_loa_b n_loa_ca n_loa_oa n_loa_rw)
      have ck1 := Fr.at hF hck (nm4 n_ck_b n_ck_ca n_ck_oa n_ck_rw)
      refine j_iload hX dX1_makeInto_13 0 rfl ?_
      refine j_aload_n hX dX1_makeInto_15 2 rfl ?_
      refine j_getN (v := .int (nI L.length)) hX bg1.1 rfl wf_X0 2 (by decide) nk_X1_25 (fun _ h => h) rfl dX1_makeInto_16 ?_
      refine j_icmp_ge hX 99 dX1_makeInto_19 (by decide) (fun _ => ?_) (fun c_19 => absurd (nI_le (a := L.length) (b := k) (by omega) (by omega)) c_19)
      refine j_iload_n hX dX1_makeInto_99 1 rfl ?_
      exact j_zret hX hE dX1_makeInto_100 (by first | rfl | decide | assumption) (⟨hF, ⟨rf1, rw1, hIr1⟩, by rw [← hRs, fld_end (by omega)]; exact ⟨rfl, hI1, hGa⟩⟩) (by decide) (by decide)
    | succ m ih =>
      intro k g1 acc hk hF hI1 hGa hrwE hRs
      obtain ⟨rf1, rw1, hIr1⟩ := hrwE
      have hk9 : k < L.length := by omega
      have hx9 : L[k]? = some L[k] := List.getElem?_eq_getElem hk9
      have hLk := Bg_lt gL hk9
      have v1 := Fr.at hF hv (nm4 n_v_b n_v_ca n_v_oa n_v_rw)
      have lr1 := Fr.at hF hlr (nm4 n_lr_b n_lr_ca n_lr_oa n_lr_rw)
      have bg1 := isBag.at hbg hF (nm4 n_lb_b n_lb_ca n_lb_oa n_lb_rw) (nm4 n_lca_b n_lca_ca n_lca_oa n_lca_rw) (nm4 n_loa_b n_loa_ca n_loa_oa n_loa_rw)
      have ck1 := Fr.at hF hck (nm4 n_ck_b n_ck_ca n_ck_oa n_ck_rw)
      have inner : ∀ (m i : Nat) (g2 : Wd) (rf2 : Nat → Int32), i + m = 4 → Fr g1 g2 [rw] → g2 rw = some (aI (xK X) 4 rf2) → (∀ j, j < i → rf2 j = pk1 cs (L[k]).1 j) → J X 0 0 g2 29 [(5, .int (nI i)), (4, .int (nI k)), (3, .int 1), (2, .ref lb), (0, .ref v), (1, .ref b)] [] := by
        intro m
        induction m with
        | zero =>
          intro i g2 rf2 hi hF2 rw2 hpk
          have v2 := Fr.at hF2 v1 (nm1 n_v_rw)
          have lr2 := Fr.at hF2 lr1 (nm1 n_lr_rw)
          have bg2 := isBag.at bg1 hF2 (nm1 n_lb_rw) (nm1 n_lca_rw) (nm1 n_loa_rw)
          have ck2 := Fr.at hF2 ck1 (nm1 n_ck_rw)
          have iR2 := bagR.at hI1 hF2 (nm1 n_b_rw) (nm1 n_ca_rw) (nm1 n_oa_rw)
          obtain ⟨if2, it2, iB2, iRp2⟩ := id iR2
          have hrow : rowAt rf2 0 = pickR cs (L[k]).1 := rowAt_f (fun j hj => by rw [hpk j (by omega)]; rcases (show j = 0 ∨ j = 1 ∨ j = 2 ∨ j = 3 by omega) with rfl | rfl | rfl | rfl <;> rfl)
          refine j_iload hX dX1_makeInto_29 0 rfl ?_
          refine j_iconst (v := nI 4) hX dX1_makeInto_31 (by decide) ?_
          refine j_icmp_ge hX 76 dX1_makeInto_32 (by decide) (fun _ => ?_) (fun c_32 => absurd (nI_le (a := 4) (b := i) (by omega) (by omega)) c_32)
          refine j_aload_n hX dX1_makeInto_76 5 rfl ?_
          refine j_aload_n hX dX1_makeInto_77 4 rfl ?_
          refine j_get (v := .ref rw) hX v2 rfl wf_X1 3 (by decide) lk_X1_31 (fun z h => u_same (hX.ts _ wz_7) z h) rfl dX1_makeInto_78 ?_
          refine j_aload_n hX dX1_makeInto_81 3 rfl ?_
          refine j_getN (v := .ref loa) hX bg2.1 rfl wf_X0 1 (by decide) nk_X1_38 (fun _ h => h) rfl dX1_makeInto_82 ?_
          refine j_iload hX dX1_makeInto_85 1 rfl ?_
          refine j_ialdN hX bg2.2.2 (k) (rfl) (by omega) (by decide) dX1_makeInto_87 ?_
          refine j_eqi (y := nI (L[k]).2) ((hLr k _ hx9).2) ?_
          refine j_i2l hX dX1_makeInto_88 ?_
          refine j_callV (As := [.ref rw, .long ((nI (L[k]).2).toInt64)]) (rest := []) hX (c_X0_add (xl X) (xK X) g2 b ca oa acc iR2 hGa rw _ rw2 ((nI (L[k]).2).toInt64) (((L[k]).2 : Int)) (l_nI (by omega)) (by omega) (by omega)) iB2.1 rfl lk_X1_41 wI_X0_add wV_X0_X0_add wN_X0 wC_X0_add hd_X0_add rfl (by rw [hL]; decide) (by decide) rfl (Nat.le_of_ble_eq_true rfl) dX1_makeInto_89 (by rw [hR]; decide) (by rw [hR]; decide) jx_no ?_
          intro v9 g3 h9
          rw [hrow] at h9
          rcases h8 : addB (pickR cs (L[k]).1) (((L[k]).2 : Int)) acc with _ | B9
          · rw [h8] at h9
            obtain ⟨rfl, rfl⟩ := h9
            show J X 0 0 g2 92 [(5, .int (nI i)), (4, .int (nI k)), (3, .int 1), (2, .ref lb), (0, .ref v), (1, .ref b)] [.int 0]
            refine j_istore_n (lv' := [(3, .int 0), (5, .int (nI i)), (4, .int (nI k)), (2, .ref lb), (0, .ref v), (1, .ref b)]) hX dX1_makeInto_92 (by rw [hn]; decide) rfl ?_
            refine j_iinc (v := nI (k + 1)) (lv' := [(4, .int (nI (k + 1))), (3, .int 0), (5, .int (nI i)), (2, .ref lb), (0, .ref v), (1, .ref b)]) hX dX1_makeInto_93 2 rfl (nI_1 k) (by rw [hn]; decide) rfl ?_
            refine j_goto hX 13 dX1_makeInto_96 (by decide) ?_
            refine j_iload hX dX1_makeInto_13 0 rfl ?_
            refine j_aload_n hX dX1_makeInto_15 3 rfl ?_
            refine j_getN (v := .int (nI L.length)) hX bg2.1 rfl wf_X0 2 (by decide) nk_X1_25 (fun _ h => h) rfl dX1_makeInto_16 ?_
            refine j_icmp_ge hX 99 dX1_makeInto_19 (by decide) (fun c_19 => ?_) (fun c_19 => ?_)
            · refine j_iload_n hX dX1_makeInto_99 1 rfl ?_
              exact j_zret hX hE dX1_makeInto_100 (by first | rfl | decide | assumption) (⟨fr2 hF hF2, ⟨_, rw2, trivial⟩, by rw [← hRs, fld_no (q := (pickR cs (L[k]).1, ((L[k]).2 : Int))) hk9 rfl h8]; exact ⟨rfl, _, _, _, iB2⟩⟩) (by decide) (by decide)
            · refine j_iload_n hX dX1_makeInto_22 1 rfl ?_
              refine j_if_eq hX 99 dX1_makeInto_23 (by decide) (fun _ => ?_) (fun c_23 => absurd (show (0 : Int32) = 0 from rfl) c_23)
              refine j_iload_n hX dX1_makeInto_99 1 rfl ?_
              exact j_zret hX hE dX1_makeInto_100 (by first | rfl | decide | assumption) (⟨fr2 hF hF2, ⟨_, rw2, trivial⟩, by rw [← hRs, fld_no (q := (pickR cs (L[k]).1, ((L[k]).2 : Int))) hk9 rfl h8]; exact ⟨rfl, _, _, _, iB2⟩⟩) (by decide) (by decide)
          · rw [h8] at h9
            obtain ⟨rfl, hB3, hF3⟩ := h9
            show J X 0 0 g3 92 [(5, .int (nI i)), (4, .int (nI k)), (3, .int 1), (2, .ref lb), (0, .ref v), (1, .ref b)] [.int 1]
            refine j_istore_n (lv' := [(3, .int 1), (5, .int (nI i)), (4, .int (nI k)), (2, .ref lb), (0, .ref v), (1, .ref b)]) hX dX1_makeInto_92 (by rw [hn]; decide) rfl ?_
            refine j_iinc (v := nI (k + 1)) (lv' := [(4, .int (nI (k + 1))), (3, .int 1), (5, .int (nI i)), (2, .ref lb), (0, .ref v), (1, .ref b)]) hX dX1_makeInto_93 2 rfl (nI_1 k) (by rw [hn]; decide) rfl ?_
            refine j_goto hX 13 dX1_makeInto_96 (by decide) ?_
            refine j_sub [0, 1, 3, 4, 5] rfl ?_
            exact ih (k + 1) g3 B9 (by omega) (fr3 hF hF2 hF3) hB3 (addB_good hGa h8) ⟨_, Fr.at hF3 rw2 (nm3 n_b_rw.symm n_ca_rw.symm n_oa_rw.symm), trivial⟩ (by rw [← hRs, fld_yes (q := (pickR cs (L[k]).1, ((L[k]).2 : Int))) hk9 rfl h8])
        | succ m ihi =>
          intro i g2 rf2 hi hF2 rw2 hpk
          have v2 := Fr.at hF2 v1 (nm1 n_v_rw)
          have lr2 := Fr.at hF2 lr1 (nm1 n_lr_rw)
          have bg2 := isBag.at bg1 hF2 (nm1 n_lb_rw) (nm1 n_lca_rw) (nm1 n_loa_rw)
          have ck2 := Fr.at hF2 ck1 (nm1 n_ck_rw)
          have iR2 := bagR.at hI1 hF2 (nm1 n_b_rw) (nm1 n_ca_rw) (nm1 n_oa_rw)
          obtain ⟨if2, it2, iB2, iRp2⟩ := id iR2
          rcases hcs9 : cs i with _ | c9
          · refine j_iload hX dX1_makeInto_29 0 rfl ?_
            refine j_iconst (v := nI 4) hX dX1_makeInto_31 (by decide) ?_
            refine j_icmp_ge hX 76 dX1_makeInto_32 (by decide) (fun c_32 => absurd c_32 (nI_ge (a := i) (b := 4) (by omega) (by decide))) (fun _ => ?_)
            refine j_aload_n hX dX1_makeInto_35 4 rfl ?_
            refine j_get (v := .ref rw) hX v2 rfl wf_X1 3 (by decide) lk_X1_31 (fun z h => u_same (hX.ts _ wz_7) z h) rfl dX1_makeInto_36 ?_
            refine j_iload hX dX1_makeInto_39 0 rfl ?_
            refine j_aload_n hX dX1_makeInto_41 4 rfl ?_
            refine j_get (v := .ref ck) hX v2 rfl wf_X1 4 (by decide) lk_X1_9 (fun _ h => h) rfl dX1_makeInto_42 ?_
            refine j_iload hX dX1_makeInto_45 0 rfl ?_
            refine j_ialdN hX ck2 (i) (rfl) (by omega) (by decide) dX1_makeInto_47 ?_
            refine j_eqi (y := (-1)) (by rw [hcs9]; rfl) ?_
            refine j_iconst (v := (-1)) hX dX1_makeInto_48 (by decide) ?_
            refine j_icmp_ne hX 56 dX1_makeInto_49 (by decide) (fun c_49 => absurd c_49 (show ¬ ¬ (-1 : Int32) = -1 from fun q => q rfl)) (fun _ => ?_)
            refine j_iconst (v := 0) hX dX1_makeInto_52 (by decide) ?_
            refine j_goto hX 69 dX1_makeInto_53 (by decide) ?_
            refine j_iastN hX rw2 (i) (rfl) (by omega) (by decide) dX1_makeInto_69 ?_
            obtain ⟨g4, eg4⟩ : ∃ z : Wd, z = up g2 rw (aI (xK X) 4 (upd rf2 (i) 0)) := ⟨_, rfl⟩
            refine j_w eg4.symm ?_
            have H4_v := (congrFun eg4 v).trans ((up_n (n_v_rw)).trans (v2))
            have H4_rw : g4 rw = some (aI (xK X) 4 (upd rf2 (i) 0)) := by rw [eg4]; exact up_s _ _ _
            have H4_b := (congrFun eg4 b).trans ((up_n (n_b_rw)).trans (iB2.1))
            have H4_lr := (congrFun eg4 lr).trans ((up_n (n_lr_rw)).trans (lr2))
            have H4_lb := (congrFun eg4 lb).trans ((up_n (n_lb_rw)).trans (bg2.1))
            have H4_lca := (congrFun eg4 lca).trans ((up_n (n_lca_rw)).trans (bg2.2.1))
            have H4_loa := (congrFun eg4 loa).trans ((up_n (n_loa_rw)).trans (bg2.2.2))
            have H4_ck := (congrFun eg4 ck).trans ((up_n (nck)).trans (ck2))
            refine j_iinc (v := nI (i + 1)) (lv' := [(5, .int (nI (i + 1))), (4, .int (nI k)), (3, .int 1), (2, .ref lb), (0, .ref v), (1, .ref b)]) hX dX1_makeInto_70 0 rfl (nI_1 i) (by rw [hn]; decide) rfl ?_
            refine j_goto hX 29 dX1_makeInto_73 (by decide) ?_
            refine j_sub [0, 1, 2, 3, 4, 5] rfl ?_
            exact ihi (i + 1) g4 (upd rf2 i (0)) (by omega) (hF2.tr (fun q hq => by rw [eg4, up_n (by simpa using hq)])) H4_rw (fun j hj => by
              by_cases e : j = i
              · subst e; rw [pk_us, pk1, hcs9]
              · rw [pk_un e]; exact hpk j (by omega))
          · have hc9 : c9 < 4 := hcs i (by omega) c9 hcs9
            refine j_iload hX dX1_makeInto_29 0 rfl ?_
            refine j_iconst (v := nI 4) hX dX1_makeInto_31 (by decide) ?_
            refine j_icmp_ge hX 76 dX1_makeInto_32 (by decide) (fun c_32 => absurd c_32 (nI_ge (a := i) (b := 4) (by omega) (by decide))) (fun _ => ?_)
            refine j_aload_n hX dX1_makeInto_35 4 rfl ?_
            refine j_get (v := .ref rw) hX v2 rfl wf_X1 3 (by decide) lk_X1_31 (fun z h => u_same (hX.ts _ wz_7) z h) rfl dX1_makeInto_36 ?_
            refine j_iload hX dX1_makeInto_39 0 rfl ?_
            refine j_aload_n hX dX1_makeInto_41 4 rfl ?_
            refine j_get (v := .ref ck) hX v2 rfl wf_X1 4 (by decide) lk_X1_9 (fun _ h => h) rfl dX1_makeInto_42 ?_
            refine j_iload hX dX1_makeInto_45 0 rfl ?_
            refine j_ialdN hX ck2 (i) (rfl) (by omega) (by decide) dX1_makeInto_47 ?_
            refine j_eqi (y := nI c9) (by rw [hcs9]; rfl) ?_
            refine j_iconst (v := (-1)) hX dX1_makeInto_48 (by decide) ?_
            refine j_icmp_ne hX 56 dX1_makeInto_49 (by decide) (fun _ => ?_) (fun c_49 => absurd c_49 (nI_m1ne (c := c9) (by omega)))
            refine j_aload_n hX dX1_makeInto_56 3 rfl ?_
            refine j_iload hX dX1_makeInto_57 1 rfl ?_
            refine j_aload_n hX dX1_makeInto_59 4 rfl ?_
            refine j_get (v := .ref ck) hX v2 rfl wf_X1 4 (by decide) lk_X1_9 (fun _ h => h) rfl dX1_makeInto_60 ?_
            refine j_iload hX dX1_makeInto_63 0 rfl ?_
            refine j_ialdN hX ck2 (i) (rfl) (by omega) (by decide) dX1_makeInto_65 ?_
            refine j_eqi (y := nI c9) (by rw [hcs9]; rfl) ?_
            refine j_callV (As := [.int (nI k), .int (nI c9)]) (rest := [.int (nI i), .ref rw]) hX (c_X0_cellAt (xl X) (xK X) g2 lb lca loa L.length lf lt bg2 k c9 (by omega) hc9) bg2.1 rfl lk_X1_34 wI_X0_cellAt wV_X0_X0_cellAt wN_X0 wC_X0_cellAt hd_X0_cellAt rfl (by rw [hL]; decide) (by decide) rfl (Nat.le_of_ble_eq_true rfl) dX1_makeInto_66 (by rw [hR]; decide) (by rw [hR]; decide) jx_no ?_
            rintro _ _ ⟨rfl, rfl⟩
            show J X 0 0 g2 69 [(5, .int (nI i)), (4, .int (nI k)), (3, .int 1), (2, .ref lb), (0, .ref v), (1, .ref b)] [.int (lf (4 * k + c9)), .int (nI i), .ref rw]
            refine j_eqi (y := cellR (L[k]).1 c9) (rep_cell hLr hk9 hc9) ?_
            refine j_iastN hX rw2 (i) (rfl) (by omega) (by decide) dX1_makeInto_69 ?_
            obtain ⟨g4, eg4⟩ : ∃ z : Wd, z = up g2 rw (aI (xK X) 4 (upd rf2 (i) (cellR (L[k]).1 c9))) := ⟨_, rfl⟩
            refine j_w eg4.symm ?_
            have H4_v := (congrFun eg4 v).trans ((up_n (n_v_rw)).trans (v2))
            have H4_rw : g4 rw = some (aI (xK X) 4 (upd rf2 (i) (cellR (L[k]).1 c9))) := by rw [eg4]; exact up_s _ _ _
            have H4_b := (congrFun eg4 b).trans ((up_n (n_b_rw)).trans (iB2.1))
            have H4_lr := (congrFun eg4 lr).trans ((up_n (n_lr_rw)).trans (lr2))
            have H4_lb := (congrFun eg4 lb).trans ((up_n (n_lb_rw)).trans (bg2.1))
            have H4_lca := (congrFun eg4 lca).trans ((up_n (n_lca_rw)).trans (bg2.2.1))
            have H4_loa := (congrFun eg4 loa).trans ((up_n (n_loa_rw)).trans (bg2.2.2))
            have H4_ck := (congrFun eg4 ck).trans ((up_n (nck)).trans (ck2))
            refine j_iinc (v := nI (i + 1)) (lv' := [(5, .int (nI (i + 1))), (4, .int (nI k)), (3, .int 1), (2, .ref lb), (0, .ref v), (1, .ref b)]) hX dX1_makeInto_70 0 rfl (nI_1 i) (by rw [hn]; decide) rfl ?_
            refine j_goto hX 29 dX1_makeInto_73 (by decide) ?_
            refine j_sub [0, 1, 2, 3, 4, 5] rfl ?_
            exact ihi (i + 1) g4 (upd rf2 i (cellR (L[k]).1 c9)) (by omega) (hF2.tr (fun q hq => by rw [eg4, up_n (by simpa using hq)])) H4_rw (fun j hj => by
              by_cases e : j = i
              · subst e; rw [pk_us, pk1, hcs9]
              · rw [pk_un e]; exact hpk j (by omega))
      refine j_iload hX dX1_makeInto_13 0 rfl ?_
      refine j_aload_n hX dX1_makeInto_15 2 rfl ?_
      refine j_getN (v := .int (nI L.length)) hX bg1.1 rfl wf_X0 2 (by decide) nk_X1_25 (fun _ h => h) rfl dX1_makeInto_16 ?_
      refine j_icmp_ge hX 99 dX1_makeInto_19 (by decide) (fun c_19 => absurd c_19 (nI_ge (a := k) (b := L.length) (by omega) (by omega))) (fun _ => ?_)
      refine j_iload_n hX dX1_makeInto_22 1 rfl ?_
      refine j_if_eq hX 99 dX1_makeInto_23 (by decide) (fun c_23 => absurd c_23 (show ¬ (1 : Int32) = 0 by decide)) (fun _ => ?_)
      refine j_iconst (v := nI 0) hX dX1_makeInto_26 (by decide) ?_
      refine j_istore (lv' := [(5, .int (nI 0)), (4, .int (nI k)), (3, .int 1), (2, .ref lb), (0, .ref v), (1, .ref b)]) hX dX1_makeInto_27 (by rw [hn]; decide) rfl ?_
      exact inner 4 0 g1 rf1 (by omega) (Fr.rf _ _) rw1 (fun j hj => absurd hj (by omega))
  refine j_aload_n hX dX1_makeInto_0 0 rfl ?_
  refine j_get (v := .ref lr) hX hv rfl wf_X1 0 (by decide) lk_X1_15 (fun z h => u_same (hX.ts _ wz_6) z h) rfl dX1_makeInto_1 ?_
  refine j_callV (As := []) (rest := []) hX (c_X6_latest (xl X) (xK X) g lr nw nx p vw cc ch hlr hp) hlr rfl lk_X1_19 wI_X6_latest wV_X6_X6_latest wN_X6 wC_X6_latest hd_X6_latest rfl (by rw [hL]; decide) (by decide) rfl (Nat.le_of_ble_eq_true rfl) dX1_makeInto_4 (by rw [hR]; decide) (by rw [hR]; decide) jx_no ?_
  rintro _ _ ⟨rfl, rfl⟩
  rw [hlb]
  show J X 0 0 g 7 [(0, .ref v), (1, .ref b)] [.ref lb]
  refine j_astore_n (lv' := [(2, .ref lb), (0, .ref v), (1, .ref b)]) hX dX1_makeInto_7 (by rw [hn]; decide) rfl ?_
  refine j_iconst (v := 1) hX dX1_makeInto_8 (by decide) ?_
  refine j_istore_n (lv' := [(3, .int 1), (2, .ref lb), (0, .ref v), (1, .ref b)]) hX dX1_makeInto_9 (by rw [hn]; decide) rfl ?_
  refine j_iconst (v := nI 0) hX dX1_makeInto_10 (by decide) ?_
  refine j_istore (lv' := [(4, .int (nI 0)), (3, .int 1), (2, .ref lb), (0, .ref v), (1, .ref b)]) hX dX1_makeInto_11 (by rw [hn]; decide) rfl ?_
  refine j_sub [0, 1, 2, 3, 4] rfl ?_
  exact loop L.length 0 g [] (by omega) (Fr.rf _ _) hI good_nil ⟨_, hrw, trivial⟩ rfl
end
section
set_option maxRecDepth 20000 in
set_option maxHeartbeats 600000 in
/-- readPair(lefts, i, rights, j) -/
theorem c_X4_readPair (l : Launch) (K : Cst) (g : Wd) (v lr lrB rw c d w nw nx : Nat) (dp pp ch : Int32) (vw : Value) (rf0 : Nat → Int32) (rw0 : g rw = some (aI K 4 rf0)) (v0 : g v = some (ob 4 [.ref lr, .ref lrB, .int dp, .ref rw, .int (nI c), .int (nI d)])) (lr0 : g lr = some (ob 6 [.ref nw, .ref nx, vw, .int (nI w), .int pp, .int ch])) (hw4 : w ≤ 4) (lb lca loa lbB lcaB loaB : Nat) (L LB : Bg) (hL : bagR K g lb lca loa L) (gL : good L) (hLB : bagR K g lbB lcaB loaB LB) (gLB : good LB) (i j : Nat) (hi9 : i < L.length) (hj9 : j < LB.length) : Ct l K yX4_readPair cX4_readPair 6 none 2 [.ref v, .ref lb, .int (nI i), .ref lbB, .int (nI j)] g (fun v9 g' => v9 = none ∧ (∃ rf, g' rw = some (aI K 4 rf) ∧ rowAt rf 0 = pairR w (L[i]).1 (LB[j]).1) ∧ Fr g g' [rw]) (fun _ _ => False) 0 0 := by
  refine ct_of (by decide) (Nat.le_of_ble_eq_true rfl) ?_
  intro X hl hK hX hE hn hL hR hm
  subst hl; subst hK
  show J X 0 0 g 0 [(0, .ref v), (1, .ref lb), (2, .int (nI i)), (3, .ref lbB), (4, .int (nI j))] []
  obtain ⟨lf, lt, bg0, hLr⟩ := hL
  obtain ⟨lfB, ltB, bgB0, hLrB⟩ := hLB
  have hLn := gL.2.1
  have hLnB := gLB.2.1
  have n_v_rw : v ≠ rw := ne_ob (v0) rw0 (by simp)
  have n_lr_rw : lr ≠ rw := ne_ob (lr0) rw0 (by simp)
  have n_lb_rw : lb ≠ rw := ne_ob (bg0.1) rw0 (by simp)
  have n_lca_rw : lca ≠ rw := ne_ob (bg0.2.1) rw0 (by simp)
  have n_loa_rw : loa ≠ rw := ne_ob (bg0.2.2) rw0 (by simp)
  have n_lbB_rw : lbB ≠ rw := ne_ob (bgB0.1) rw0 (by simp)
  have n_lcaB_rw : lcaB ≠ rw := ne_ob (bgB0.2.1) rw0 (by simp)
  have n_loaB_rw : loaB ≠ rw := ne_ob (bgB0.2.2) rw0 (by simp)
  have loop : ∀ (m at9 : Nat) (g1 : Wd) (rf1 : Nat → Int32), at9 + m = 4 → w ≤ at9 → Fr g g1 [rw] → g1 rw = some (aI (xK X) 4 rf1) → (∀ q, q < at9 → rf1 q = pc1 w (L[i]).1 (LB[j]).1 q) → J X 0 0 g1 18 [(5, .int (nI at9)), (0, .ref v), (1, .ref lb), (2, .int (nI i)), (3, .ref lbB), (4, .int (nI j))] [] := by
    intro m
    induction m with
    | zero =>
      intro at9 g1 rf1 hat hw hF rw1 hpk
      have v1 := Fr.at hF v0 (nm1 n_v_rw)
      have lr1 := Fr.at hF lr0 (nm1 n_lr_rw)
      have bg1 := isBag.at bg0 hF (nm1 n_lb_rw) (nm1 n_lca_rw) (nm1 n_loa_rw)
      have bgB1 := isBag.at bgB0 hF (nm1 n_lbB_rw) (nm1 n_lcaB_rw) (nm1 n_loaB_rw)
      refine j_iload hX dX4_readPair_18 0 rfl ?_
      refine j_iconst (v := nI 4) hX dX4_readPair_20 (by decide) ?_
      refine j_icmp_ge hX 53 dX4_readPair_21 (by decide) (fun _ => ?_) (fun c_21 => absurd (nI_le (a := 4) (b := at9) (by omega) (by omega)) c_21)
      exact j_vret hX hE dX4_readPair_53 (⟨rfl, ⟨rf1, rw1, rowAt_f (fun q hq => by rw [hpk q (by omega), cellR_pair hq])⟩, hF⟩) (by decide) (by decide)
    | succ m ih =>
      intro at9 g1 rf1 hat hw hF rw1 hpk
      have v1 := Fr.at hF v0 (nm1 n_v_rw)
      have lr1 := Fr.at hF lr0 (nm1 n_lr_rw)
      have bg1 := isBag.at bg0 hF (nm1 n_lb_rw) (nm1 n_lca_rw) (nm1 n_loa_rw)
      have bgB1 := isBag.at bgB0 hF (nm1 n_lbB_rw) (nm1 n_lcaB_rw) (nm1 n_loaB_rw)
      refine j_iload hX dX4_readPair_18 0 rfl ?_
      refine j_iconst (v := nI 4) hX dX4_readPair_20 (by decide) ?_
      refine j_icmp_ge hX 53 dX4_readPair_21 (by decide) (fun c_21 => absurd c_21 (nI_ge (a := at9) (b := 4) (by omega) (by decide))) (fun _ => ?_)
      refine j_aload_n hX dX4_readPair_24 1 rfl ?_
      refine j_get (v := .ref rw) hX v1 rfl wf_X4 3 (by decide) lk_X4_44 (fun z h => u_same (hX.ts _ wz_19) z h) rfl dX4_readPair_25 ?_
      refine j_iload hX dX4_readPair_28 0 rfl ?_
      refine j_aload_n hX dX4_readPair_30 4 rfl ?_
      refine j_iload hX dX4_readPair_31 5 rfl ?_
      refine j_iload hX dX4_readPair_33 0 rfl ?_
      refine j_aload_n hX dX4_readPair_35 1 rfl ?_
      refine j_get (v := .ref lr) hX v1 rfl wf_X4 0 (by decide) lk_X4_18 (fun z h => u_same (hX.ts _ wz_17) z h) rfl dX4_readPair_36 ?_
      refine j_getN (v := .int (nI w)) hX lr1 rfl wf_X6 3 (by decide) nk_X4_59 (fun _ h => h) rfl dX4_readPair_39 ?_
      refine j_isub hX dX4_readPair_42 ?_
      refine j_eqi (y := nI (at9 - w)) (pk_sub (by omega)) ?_
      refine j_callV (As := [.int (nI j), .int (nI (at9 - w))]) (rest := [.int (nI at9), .ref rw]) hX (c_X0_cellAt (xl X) (xK X) g1 lbB lcaB loaB LB.length lfB ltB bgB1 j (at9 - w) (by omega) (by omega)) bgB1.1 rfl lk_X4_36 wI_X0_cellAt wV_X0_X0_cellAt wN_X0 wC_X0_cellAt hd_X0_cellAt rfl (by rw [hL]; decide) (by decide) rfl (Nat.le_of_ble_eq_true rfl) dX4_readPair_43 (by rw [hR]; decide) (by rw [hR]; decide) jx_no ?_
      rintro _ _ ⟨rfl, rfl⟩
      show J X 0 0 g1 46 [(5, .int (nI at9)), (0, .ref v), (1, .ref lb), (2, .int (nI i)), (3, .ref lbB), (4, .int (nI j))] [.int (lfB (4 * j + (at9 - w))), .int (nI at9), .ref rw]
      refine j_eqi (y := cellR (LB[j]).1 (at9 - w)) (rep_cell hLrB hj9 (by omega)) ?_
      refine j_iastN hX rw1 (at9) (rfl) (by omega) (by decide) dX4_readPair_46 ?_
      obtain ⟨g2, eg2⟩ : ∃ z : Wd, z = up g1 rw (aI (xK X) 4 (upd rf1 (at9) (cellR (LB[j]).1 (at9 - w)))) := ⟨_, rfl⟩
      refine j_w eg2.symm ?_
      have H2_v := (congrFun eg2 v).trans ((up_n (n_v_rw)).trans (v1))
      have H2_rw : g2 rw = some (aI (xK X) 4 (upd rf1 (at9) (cellR (LB[j]).1 (at9 - w)))) := by rw [eg2]; exact up_s _ _ _
      have H2_lr := (congrFun eg2 lr).trans ((up_n (n_lr_rw)).trans (lr1))
      have H2_lb := (congrFun eg2 lb).trans ((up_n (n_lb_rw)).trans (bg1.1))
      have H2_lbB := (congrFun eg2 lbB).trans ((up_n (n_lbB_rw)).trans (bgB1.1))
      refine j_iinc (v := nI (at9 + 1)) (lv' := [(5, .int (nI (at9 + 1))), (0, .ref v), (1, .ref lb), (2, .int (nI i)), (3, .ref lbB), (4, .int (nI j))]) hX dX4_readPair_47 0 rfl (nI_1 at9) (by rw [hn]; decide) rfl ?_
      refine j_goto hX 18 dX4_readPair_50 (by decide) ?_
      refine j_sub [0, 1, 2, 3, 4, 5] rfl ?_
      exact ih (at9 + 1) g2 (upd rf1 at9 (cellR (LB[j]).1 (at9 - w))) (by omega) (by omega) (hF.tr (fun q hq => by rw [eg2, up_n (by simpa using hq)])) H2_rw (fun q hq => by
        by_cases e : q = at9
        · subst e; rw [pk_us, pc1, if_neg (by omega)]
        · rw [pk_un e]; exact hpk q (by omega))
  refine j_aload_n hX dX4_readPair_0 1 rfl ?_
  refine j_iload_n hX dX4_readPair_1 2 rfl ?_
  refine j_aload_n hX dX4_readPair_2 0 rfl ?_
  refine j_get (v := .ref rw) hX v0 rfl wf_X4 3 (by decide) lk_X4_44 (fun z h => u_same (hX.ts _ wz_19) z h) rfl dX4_readPair_3 ?_
  refine j_callV (As := [.int (nI i), .ref rw]) (rest := []) hX (c_X0_readRow (xl X) (xK X) g lb lca loa L.length lf lt bg0 rw rf0 rw0 i (by omega)) bg0.1 rfl lk_X4_55 wI_X0_readRow wV_X0_X0_readRow wN_X0 wC_X0_readRow hd_X0_readRow rfl (by rw [hL]; decide) (by decide) rfl (Nat.le_of_ble_eq_true rfl) dX4_readPair_6 (by rw [hR]; decide) (by rw [hR]; decide) jx_no ?_
  rintro _ g3 ⟨rfl, rw3, hF3⟩
  have v3 := Fr.at hF3 v0 (nm1 n_v_rw)
  have lr3 := Fr.at hF3 lr0 (nm1 n_lr_rw)
  have bg3 := isBag.at bg0 hF3 (nm1 n_lb_rw) (nm1 n_lca_rw) (nm1 n_loa_rw)
  have bgB3 := isBag.at bgB0 hF3 (nm1 n_lbB_rw) (nm1 n_lcaB_rw) (nm1 n_loaB_rw)
  show J X 0 0 g3 9 [(0, .ref v), (1, .ref lb), (2, .int (nI i)), (3, .ref lbB), (4, .int (nI j))] []
  refine j_aload_n hX dX4_readPair_9 0 rfl ?_
  refine j_get (v := .ref lr) hX v3 rfl wf_X4 0 (by decide) lk_X4_18 (fun z h => u_same (hX.ts _ wz_17) z h) rfl dX4_readPair_10 ?_
  refine j_getN (v := .int (nI w)) hX lr3 rfl wf_X6 3 (by decide) nk_X4_59 (fun _ h => h) rfl dX4_readPair_13 ?_
  refine j_istore (lv' := [(5, .int (nI w)), (0, .ref v), (1, .ref lb), (2, .int (nI i)), (3, .ref lbB), (4, .int (nI j))]) hX dX4_readPair_16 (by rw [hn]; decide) rfl ?_
  refine j_sub [0, 1, 2, 3, 4, 5] rfl ?_
  exact loop (4 - w) w g3 _ (by omega) (Nat.le_refl _) hF3 rw3 (fun q hq => by rw [pk_cpy_in (by omega) (by omega), pc1, if_pos hq, ← rep_cell hLr hi9 (by omega)]; exact congrArg lf (by omega))

set_option maxRecDepth 20000 in
set_option maxHeartbeats 600000 in
/-- join: makeInto -/
theorem c_X4_makeInto (l : Launch) (K : Cst) (g : Wd) (b ca oa rw : Nat) (rf0 : Nat → Int32) (hI : bagR K g b ca oa []) (hrw : g rw = some (aI K 4 rf0)) (v : Nat) (dp : Int32) (c d w : Nat) (hc4 : c < 4) (hd4 : d < 4) (hw4 : w ≤ 4) (lr nw nx p : Nat) (vw : Value) (ch : Int32) (hlr : g lr = some (ob 6 [.ref nw, .ref nx, vw, .int (nI w), .int (nI p), .int ch])) (hp : p < 2 ^ 31) (lb lca loa : Nat) (L : Bg) (hlb : (if 0 < p then nx else nw) = lb) (hL : bagR K g lb lca loa L) (gL : good L) (nb : lb ≠ b) (nca : lca ≠ ca) (noa : loa ≠ oa) (lrB nwB nxB pB : Nat) (vwB : Value) (ccB chB : Int32) (hlrB : g lrB = some (ob 6 [.ref nwB, .ref nxB, vwB, .int ccB, .int (nI pB), .int chB])) (hpB : pB < 2 ^ 31) (lbB lcaB loaB : Nat) (LB : Bg) (hlbB : (if 0 < pB then nxB else nwB) = lbB) (hLB : bagR K g lbB lcaB loaB LB) (gLB : good LB) (nbB : lbB ≠ b) (ncaB : lcaB ≠ ca) (noaB : loaB ≠ oa) (hv : g v = some (ob 4 [.ref lr, .ref lrB, .int dp, .ref rw, .int (nI c), .int (nI d)])) : Ct l K yX4_makeInto cX4_makeInto 6 (some .boolean) 4 [.ref v, .ref b] g (mkP K g b ca oa rw (fun _ => True) (fldB (jnF c d w) (prs L LB) [])) (fun _ _ => False) 0 0 := by
  refine ct_of (by decide) (Nat.le_of_ble_eq_true rfl) ?_
  intro X hl hK hX hE hn hL hR hm
  subst hl; subst hK
  show J X 0 0 g 0 [(0, .ref v), (1, .ref b)] []
  obtain ⟨if0, it0, hI0, hIr⟩ := id hI
  obtain ⟨lf, lt, hbg, hLr⟩ := hL
  have hLn : L.length ≤ 20 := gL.2.1
  obtain ⟨lfB, ltB, hbgB, hLrB⟩ := hLB
  have hLnB : LB.length ≤ 20 := gLB.2.1
  have n_v_b : v ≠ b := ne_ob (hv) (hI0.1) (by simp)
  have n_v_ca : v ≠ ca := ne_ob (hv) (hI0.2.1) (by simp)
  have n_v_oa : v ≠ oa := ne_ob (hv) (hI0.2.2) (by simp)
  have n_v_rw : v ≠ rw := ne_ob (hv) (hrw) (by simp)
  have n_lr_b : lr ≠ b := ne_ob (hlr) (hI0.1) (by simp)
  have n_lr_ca : lr ≠ ca := ne_ob (hlr) (hI0.2.1) (by simp)
  have n_lr_oa : lr ≠ oa := ne_ob (hlr) (hI0.2.2) (by simp)
  have n_lr_rw : lr ≠ rw := ne_ob (hlr) (hrw) (by simp)
  have n_lb_b : lb ≠ b := nb
  have n_lb_ca : lb ≠ ca := ne_ob (hbg.1) (hI0.2.1) (by simp)
  have n_lb_oa : lb ≠ oa := ne_ob (hbg.1) (hI0.2.2) (by simp)
  have n_lb_rw : lb ≠ rw := ne_ob (hbg.1) (hrw) (by simp)
  have n_lca_b : lca ≠ b := ne_ob (hbg.2.1) (hI0.1) (by simp)
  have n_lca_ca : lca ≠ ca := nca
  have n_lca_oa : lca ≠ oa := ne_ob (hbg.2.1) (hI0.2.2) (by simp)
  have n_lca_rw : lca ≠ rw := ne_ob (hbg.2.1) (hrw) (by simp)
  have n_loa_b : loa ≠ b := ne_ob (hbg.2.2) (hI0.1) (by simp)
  have n_loa_ca : loa ≠ ca := ne_ob (hbg.2.2) (hI0.2.1) (by simp)
  have n_loa_oa : loa ≠ oa := noa
  have n_loa_rw : loa ≠ rw := ne_ob (hbg.2.2) (hrw) (by simp)
  have n_lrB_b : lrB ≠ b := ne_ob (hlrB) (hI0.1) (by simp)
  have n_lrB_ca : lrB ≠ ca := ne_ob (hlrB) (hI0.2.1) (by simp)
  have n_lrB_oa : lrB ≠ oa := ne_ob (hlrB) (hI0.2.2) (by simp)
  have n_lrB_rw : lrB ≠ rw := ne_ob (hlrB) (hrw) (by simp)
  have n_lbB_b : lbB ≠ b := nbB
  have n_lbB_ca : lbB ≠ ca := ne_ob (hbgB.1) (hI0.2.1) (by simp)
  have n_lbB_oa : lbB ≠ oa := ne_ob (hbgB.1) (hI0.2.2) (by simp)
  have n_lbB_rw : lbB ≠ rw := ne_ob (hbgB.1) (hrw) (by simp)
  have n_lcaB_b : lcaB ≠ b := ne_ob (hbgB.2.1) (hI0.1) (by simp)
  have n_lcaB_ca : lcaB ≠ ca := ncaB
  have n_lcaB_oa : lcaB ≠ oa := ne_ob (hbgB.2.1) (hI0.2.2) (by simp)
  have n_lcaB_rw : lcaB ≠ rw := ne_ob (hbgB.2.1) (hrw) (by simp)
  have n_loaB_b : loaB ≠ b := ne_ob (hbgB.2.2) (hI0.1) (by simp)
  have n_loaB_ca : loaB ≠ ca := ne_ob (hbgB.2.2) (hI0.2.1) (by simp)
  have n_loaB_oa : loaB ≠ oa := noaB
  have n_loaB_rw : loaB ≠ rw := ne_ob (hbgB.2.2) (hrw) (by simp)
  have n_b_rw : b ≠ rw := ne_ob (hI0.1) hrw (by simp)
  have n_ca_rw : ca ≠ rw := ne_ob (hI0.2.1) hrw (by simp)
  have n_oa_rw : oa ≠ rw := ne_ob (hI0.2.2) hrw (by simp)
  have loop : ∀ (m i : Nat) (g1 : Wd) (acc : Bg), i + m = L.length → Fr g g1 [b, ca, oa, rw] → bagR (xK X) g1 b ca oa acc → good acc → (∃ rf, g1 rw = some (aI (xK X) 4 rf) ∧ (fun _ => True) rf) → fldB (jnF c d w) (prs (L.drop i) LB) acc = fldB (jnF c d w) (prs L LB) [] → J X 0 0 g1 19 [(4, .int (nI i)), (3, .ref lbB), (2, .ref lb), (0, .ref v), (1, .ref b)] [] := by
    intro m
    induction m with
    | zero =>
      intro i g1 acc hi hF hI1 hGa hrwE hRs
      obtain ⟨rf1, rw1, hIr1⟩ := hrwE
      have v1 := Fr.at hF hv (nm4 n_v_b n_v_ca n_v_oa n_v_rw)
      have lr1 := Fr.at hF hlr (nm4 n_lr_b n_lr_ca n_lr_oa n_lr_rw)
      have bg1 := isBag.at hbg hF (nm4 n_lb_b n_lb_ca n_lb_oa n_lb_rw) (nm4 n_lca_b n_lca_ca n_lca_oa n_lca_rw) (nm4 n_loa_b n_loa_ca n_loa_oa n_loa_rw)
      have lrB1 := Fr.at hF hlrB (nm4 n_lrB_b n_lrB_ca n_lrB_oa n_lrB_rw)
      have bgB1 := isBag.at hbgB hF (nm4 n_lbB_b n_lbB_ca n_lbB_oa n_lbB_rw) (nm4 n_lcaB_b n_lcaB_ca n_lcaB_oa n_lcaB_rw) (nm4 n_loaB_b n_loaB_ca n_loaB_oa n_loaB_rw)
      refine j_iload hX dX4_makeInto_19 0 rfl ?_
      refine j_aload_n hX dX4_makeInto_21 2 rfl ?_
      refine j_getN (v := .int (nI L.length)) hX bg1.1 rfl wf_X0 2 (by decide) nk_X4_31 (fun _ h => h) rfl dX4_makeInto_22 ?_
      refine j_icmp_ge hX 115 dX4_makeInto_25 (by decide) (fun _ => ?_) (fun c_25 => absurd (nI_le (a := L.length) (b := i) (by omega) (by omega)) c_25)
      refine j_iconst (v := 1) hX dX4_makeInto_115 (by decide) ?_
      exact j_zret hX hE dX4_makeInto_116 (by first | rfl | decide | assumption) (⟨hF, ⟨rf1, rw1, hIr1⟩, by rw [← hRs, List.drop_eq_nil_of_le (by omega)]; exact ⟨rfl, hI1, hGa⟩⟩) (by decide) (by decide)
    | succ m ih =>
      intro i g1 acc hi hF hI1 hGa hrwE hRs
      obtain ⟨rf1, rw1, hIr1⟩ := hrwE
      have hi9 : i < L.length := by omega
      have inner : ∀ (m2 j : Nat) (g1 : Wd) (acc : Bg), j + m2 = LB.length → Fr g g1 [b, ca, oa, rw] → bagR (xK X) g1 b ca oa acc → good acc → (∃ rf, g1 rw = some (aI (xK X) 4 rf) ∧ (fun _ => True) rf) → fldB (jnF c d w) ((LB.drop j).map (fun y => (L[i], y)) ++ prs (L.drop (i + 1)) LB) acc = fldB (jnF c d w) (prs L LB) [] → J X 0 0 g1 31 [(5, .int (nI j)), (4, .int (nI i)), (3, .ref lbB), (2, .ref lb), (0, .ref v), (1, .ref b)] [] := by
        intro m2
        induction m2 with
        | zero =>
          intro j g1 acc hj hF hI1 hGa hrwE hRs
          obtain ⟨rf1, rw1, hIr1⟩ := hrwE
          have v1 := Fr.at hF hv (nm4 n_v_b n_v_ca n_v_oa n_v_rw)
          have lr1 := Fr.at hF hlr (nm4 n_lr_b n_lr_ca n_lr_oa n_lr_rw)
          have bg1 := isBag.at hbg hF (nm4 n_lb_b n_lb_ca n_lb_oa n_lb_rw) (nm4 n_lca_b n_lca_ca n_lca_oa n_lca_rw) (nm4 n_loa_b n_loa_ca n_loa_oa n_loa_rw)
          have lrB1 := Fr.at hF hlrB (nm4 n_lrB_b n_lrB_ca n_lrB_oa n_lrB_rw)
          have bgB1 := isBag.at hbgB hF (nm4 n_lbB_b n_lbB_ca n_lbB_oa n_lbB_rw) (nm4 n_lcaB_b n_lcaB_ca n_lcaB_oa n_lcaB_rw) (nm4 n_loaB_b n_loaB_ca n_loaB_oa n_loaB_rw)
          refine j_iload hX dX4_makeInto_31 0 rfl ?_
          refine j_aload_n hX dX4_makeInto_33 2 rfl ?_
          refine j_getN (v := .int (nI LB.length)) hX bgB1.1 rfl wf_X0 2 (by decide) nk_X4_31 (fun _ h => h) rfl dX4_makeInto_34 ?_
          refine j_icmp_ge hX 109 dX4_makeInto_37 (by decide) (fun _ => ?_) (fun c_37 => absurd (nI_le (a := LB.length) (b := j) (by omega) (by omega)) c_37)
          refine j_iinc (v := nI (i + 1)) (lv' := [(4, .int (nI (i + 1))), (5, .int (nI j)), (3, .ref lbB), (2, .ref lb), (0, .ref v), (1, .ref b)]) hX dX4_makeInto_109 1 rfl (nI_1 i) (by rw [hn]; decide) rfl ?_
          refine j_goto hX 19 dX4_makeInto_112 (by decide) ?_
          refine j_sub [0, 2, 3, 4, 5] rfl ?_
          exact ih (i + 1) g1 acc (by omega) hF hI1 hGa ⟨rf1, rw1, hIr1⟩ (by rw [← hRs, jn_end (by omega)])
        | succ m2 ihi =>
          intro j g1 acc hj hF hI1 hGa hrwE hRs
          obtain ⟨rf1, rw1, hIr1⟩ := hrwE
          have hj9 : j < LB.length := by omega
          have hmu := mul_l (Bg_lt gL hi9).1 (Bg_lt gLB hj9).1
          have v1 := Fr.at hF hv (nm4 n_v_b n_v_ca n_v_oa n_v_rw)
          have lr1 := Fr.at hF hlr (nm4 n_lr_b n_lr_ca n_lr_oa n_lr_rw)
          have bg1 := isBag.at hbg hF (nm4 n_lb_b n_lb_ca n_lb_oa n_lb_rw) (nm4 n_lca_b n_lca_ca n_lca_oa n_lca_rw) (nm4 n_loa_b n_loa_ca n_loa_oa n_loa_rw)
          have lrB1 := Fr.at hF hlrB (nm4 n_lrB_b n_lrB_ca n_lrB_oa n_lrB_rw)
          have bgB1 := isBag.at hbgB hF (nm4 n_lbB_b n_lbB_ca n_lbB_oa n_lbB_rw) (nm4 n_lcaB_b n_lcaB_ca n_lcaB_oa n_lcaB_rw) (nm4 n_loaB_b n_loaB_ca n_loaB_oa n_loaB_rw)
          refine j_iload hX dX4_makeInto_31 0 rfl ?_
          refine j_aload_n hX dX4_makeInto_33 2 rfl ?_
          refine j_getN (v := .int (nI LB.length)) hX bgB1.1 rfl wf_X0 2 (by decide) nk_X4_31 (fun _ h => h) rfl dX4_makeInto_34 ?_
          refine j_icmp_ge hX 109 dX4_makeInto_37 (by decide) (fun c_37 => absurd c_37 (nI_ge (a := j) (b := LB.length) (by omega) (by omega))) (fun _ => ?_)
          refine j_aload_n hX dX4_makeInto_40 3 rfl ?_
          refine j_iload hX dX4_makeInto_41 1 rfl ?_
          refine j_aload_n hX dX4_makeInto_43 4 rfl ?_
          refine j_get (v := .int (nI c)) hX v1 rfl wf_X4 4 (by decide) lk_X4_9 (fun _ h => h) rfl dX4_makeInto_44 ?_
          refine j_callV (As := [.int (nI i), .int (nI c)]) (rest := []) hX (c_X0_cellAt (xl X) (xK X) g1 lb lca loa L.length lf lt bg1 i c (by omega) (by omega)) bg1.1 rfl lk_X4_36 wI_X0_cellAt wV_X0_X0_cellAt wN_X0 wC_X0_cellAt hd_X0_cellAt rfl (by rw [hL]; decide) (by decide) rfl (Nat.le_of_ble_eq_true rfl) dX4_makeInto_47 (by rw [hR]; decide) (by rw [hR]; decide) jx_no ?_
          rintro _ _ ⟨rfl, rfl⟩
          show J X 0 0 g1 50 [(5, .int (nI j)), (4, .int (nI i)), (3, .ref lbB), (2, .ref lb), (0, .ref v), (1, .ref b)] [.int (lf (4 * i + c))]
          refine j_eqi (y := cellR (L[i]).1 c) (rep_cell hLr hi9 (by omega)) ?_
          refine j_aload_n hX dX4_makeInto_50 2 rfl ?_
          refine j_iload hX dX4_makeInto_51 0 rfl ?_
          refine j_aload_n hX dX4_makeInto_53 4 rfl ?_
          refine j_get (v := .int (nI d)) hX v1 rfl wf_X4 5 (by decide) lk_X4_15 (fun _ h => h) rfl dX4_makeInto_54 ?_
          refine j_callV (As := [.int (nI j), .int (nI d)]) (rest := [.int (cellR (L[i]).1 c)]) hX (c_X0_cellAt (xl X) (xK X) g1 lbB lcaB loaB LB.length lfB ltB bgB1 j d (by omega) (by omega)) bgB1.1 rfl lk_X4_36 wI_X0_cellAt wV_X0_X0_cellAt wN_X0 wC_X0_cellAt hd_X0_cellAt rfl (by rw [hL]; decide) (by decide) rfl (Nat.le_of_ble_eq_true rfl) dX4_makeInto_57 (by rw [hR]; decide) (by rw [hR]; decide) jx_no ?_
          rintro _ _ ⟨rfl, rfl⟩
          show J X 0 0 g1 60 [(5, .int (nI j)), (4, .int (nI i)), (3, .ref lbB), (2, .ref lb), (0, .ref v), (1, .ref b)] [.int (lfB (4 * j + d)), .int (cellR (L[i]).1 c)]
          refine j_eqi (y := cellR (LB[j]).1 d) (rep_cell hLrB hj9 (by omega)) ?_
          refine j_icmp_ne hX 103 dX4_makeInto_60 (by decide) (fun c_60 => ?_) (fun c_60 => ?_)
          · refine j_iinc (v := nI (j + 1)) (lv' := [(5, .int (nI (j + 1))), (4, .int (nI i)), (3, .ref lbB), (2, .ref lb), (0, .ref v), (1, .ref b)]) hX dX4_makeInto_103 0 rfl (nI_1 j) (by rw [hn]; decide) rfl ?_
            refine j_goto hX 31 dX4_makeInto_106 (by decide) ?_
            refine j_sub [0, 1, 2, 3, 4, 5] rfl ?_
            exact ihi (j + 1) g1 acc (by omega) hF hI1 hGa ⟨rf1, rw1, hIr1⟩ (by rw [← hRs, jn_skip hj9 c_60])
          · refine j_aload_n hX dX4_makeInto_63 4 rfl ?_
            refine j_aload_n hX dX4_makeInto_64 3 rfl ?_
            refine j_iload hX dX4_makeInto_65 1 rfl ?_
            refine j_aload_n hX dX4_makeInto_67 2 rfl ?_
            refine j_iload hX dX4_makeInto_68 0 rfl ?_
            refine j_callV (As := [.ref lb, .int (nI i), .ref lbB, .int (nI j)]) (rest := []) hX (c_X4_readPair (xl X) (xK X) g1 v lr lrB rw c d w nw nx dp (nI p) ch vw rf1 rw1 v1 lr1 (by omega) lb lca loa lbB lcaB loaB L LB ⟨lf, lt, bg1, hLr⟩ gL ⟨lfB, ltB, bgB1, hLrB⟩ gLB i j hi9 hj9) v1 rfl lk_X4_40 wI_X4_readPair wV_X4_X4_readPair wN_X4 wC_X4_readPair hd_X4_readPair rfl (by rw [hL]; decide) (by decide) rfl (Nat.le_of_ble_eq_true rfl) dX4_makeInto_70 (by rw [hR]; decide) (by rw [hR]; decide) jx_no ?_
            rintro _ g2 ⟨rfl, ⟨rf2, rw2, hrow⟩, hF2⟩
            have v2 := Fr.at hF2 v1 (nm1 n_v_rw)
            have lr2 := Fr.at hF2 lr1 (nm1 n_lr_rw)
            have bg2 := isBag.at bg1 hF2 (nm1 n_lb_rw) (nm1 n_lca_rw) (nm1 n_loa_rw)
            have lrB2 := Fr.at hF2 lrB1 (nm1 n_lrB_rw)
            have bgB2 := isBag.at bgB1 hF2 (nm1 n_lbB_rw) (nm1 n_lcaB_rw) (nm1 n_loaB_rw)
            have iR2 := bagR.at hI1 hF2 (nm1 n_b_rw) (nm1 n_ca_rw) (nm1 n_oa_rw)
            obtain ⟨if2, it2, iB2, iRp2⟩ := id iR2
            show J X 0 0 g2 73 [(5, .int (nI j)), (4, .int (nI i)), (3, .ref lbB), (2, .ref lb), (0, .ref v), (1, .ref b)] []
            refine j_aload_n hX dX4_makeInto_73 5 rfl ?_
            refine j_aload_n hX dX4_makeInto_74 4 rfl ?_
            refine j_get (v := .ref rw) hX v2 rfl wf_X4 3 (by decide) lk_X4_44 (fun z h => u_same (hX.ts _ wz_19) z h) rfl dX4_makeInto_75 ?_
            refine j_aload_n hX dX4_makeInto_78 3 rfl ?_
            refine j_getN (v := .ref loa) hX bg2.1 rfl wf_X0 1 (by decide) nk_X4_48 (fun _ h => h) rfl dX4_makeInto_79 ?_
            refine j_iload hX dX4_makeInto_82 1 rfl ?_
            refine j_ialdN hX bg2.2.2 (i) (rfl) (by omega) (by decide) dX4_makeInto_84 ?_
            refine j_eqi (y := nI (L[i]).2) ((hLr i _ (List.getElem?_eq_getElem hi9)).2) ?_
            refine j_i2l hX dX4_makeInto_85 ?_
            refine j_aload_n hX dX4_makeInto_86 2 rfl ?_
            refine j_getN (v := .ref loaB) hX bgB2.1 rfl wf_X0 1 (by decide) nk_X4_48 (fun _ h => h) rfl dX4_makeInto_87 ?_
            refine j_iload hX dX4_makeInto_90 0 rfl ?_
            refine j_ialdN hX bgB2.2.2 (j) (rfl) (by omega) (by decide) dX4_makeInto_92 ?_
            refine j_eqi (y := nI (LB[j]).2) ((hLrB j _ (List.getElem?_eq_getElem hj9)).2) ?_
            refine j_i2l hX dX4_makeInto_93 ?_
            refine j_lmul hX dX4_makeInto_94 ?_
            refine j_callV (As := [.ref rw, .long (((nI (L[i]).2).toInt64) * ((nI (LB[j]).2).toInt64))]) (rest := []) hX (c_X0_add (xl X) (xK X) g2 b ca oa acc iR2 hGa rw _ rw2 ((nI (L[i]).2).toInt64 * (nI (LB[j]).2).toInt64) (((L[i]).2 : Int) * ((LB[j]).2 : Int)) hmu.1 (by omega) (by omega)) iB2.1 rfl lk_X4_51 wI_X0_add wV_X0_X0_add wN_X0 wC_X0_add hd_X0_add rfl (by rw [hL]; decide) (by decide) rfl (Nat.le_of_ble_eq_true rfl) dX4_makeInto_95 (by rw [hR]; decide) (by rw [hR]; decide) jx_no ?_
            intro v9 g3 h9
            rw [hrow] at h9
            rcases h8 : addB (pairR w (L[i]).1 (LB[j]).1) (((L[i]).2 : Int) * ((LB[j]).2 : Int)) acc with _ | B9
            · rw [h8] at h9
              obtain ⟨rfl, rfl⟩ := h9
              show J X 0 0 g2 98 [(5, .int (nI j)), (4, .int (nI i)), (3, .ref lbB), (2, .ref lb), (0, .ref v), (1, .ref b)] [.int 0]
              refine j_if_ne hX 103 dX4_makeInto_98 (by decide) (fun c_98 => absurd c_98 (show ¬ ¬ (0 : Int32) = 0 from fun q => q rfl)) (fun _ => ?_)
              refine j_iconst (v := 0) hX dX4_makeInto_101 (by decide) ?_
              exact j_zret hX hE dX4_makeInto_102 (by first | rfl | decide | assumption) (⟨fr2 hF hF2, ⟨_, rw2, trivial⟩, by rw [← hRs, jn_no hj9 c_60 h8]; exact ⟨rfl, _, _, _, iB2⟩⟩) (by decide) (by decide)
            · rw [h8] at h9
              obtain ⟨rfl, hB3, hF3⟩ := h9
              show J X 0 0 g3 98 [(5, .int (nI j)), (4, .int (nI i)), (3, .ref lbB), (2, .ref lb), (0, .ref v), (1, .ref b)] [.int 1]
              refine j_if_ne hX 103 dX4_makeInto_98 (by decide) (fun _ => ?_) (fun c_98 => absurd c_98 (show ¬ (1 : Int32) = 0 by decide))
              refine j_iinc (v := nI (j + 1)) (lv' := [(5, .int (nI (j + 1))), (4, .int (nI i)), (3, .ref lbB), (2, .ref lb), (0, .ref v), (1, .ref b)]) hX dX4_makeInto_103 0 rfl (nI_1 j) (by rw [hn]; decide) rfl ?_
              refine j_goto hX 31 dX4_makeInto_106 (by decide) ?_
              refine j_sub [0, 1, 2, 3, 4, 5] rfl ?_
              exact ihi (j + 1) g3 B9 (by omega) (fr3 hF hF2 hF3) hB3 (addB_good hGa h8) ⟨_, Fr.at hF3 rw2 (nm3 n_b_rw.symm n_ca_rw.symm n_oa_rw.symm), trivial⟩ (by rw [← hRs, jn_yes hj9 c_60 h8])
      have v1 := Fr.at hF hv (nm4 n_v_b n_v_ca n_v_oa n_v_rw)
      have lr1 := Fr.at hF hlr (nm4 n_lr_b n_lr_ca n_lr_oa n_lr_rw)
      have bg1 := isBag.at hbg hF (nm4 n_lb_b n_lb_ca n_lb_oa n_lb_rw) (nm4 n_lca_b n_lca_ca n_lca_oa n_lca_rw) (nm4 n_loa_b n_loa_ca n_loa_oa n_loa_rw)
      have lrB1 := Fr.at hF hlrB (nm4 n_lrB_b n_lrB_ca n_lrB_oa n_lrB_rw)
      have bgB1 := isBag.at hbgB hF (nm4 n_lbB_b n_lbB_ca n_lbB_oa n_lbB_rw) (nm4 n_lcaB_b n_lcaB_ca n_lcaB_oa n_lcaB_rw) (nm4 n_loaB_b n_loaB_ca n_loaB_oa n_loaB_rw)
      refine j_iload hX dX4_makeInto_19 0 rfl ?_
      refine j_aload_n hX dX4_makeInto_21 2 rfl ?_
      refine j_getN (v := .int (nI L.length)) hX bg1.1 rfl wf_X0 2 (by decide) nk_X4_31 (fun _ h => h) rfl dX4_makeInto_22 ?_
      refine j_icmp_ge hX 115 dX4_makeInto_25 (by decide) (fun c_25 => absurd c_25 (nI_ge (a := i) (b := L.length) (by omega) (by omega))) (fun _ => ?_)
      refine j_iconst (v := nI 0) hX dX4_makeInto_28 (by decide) ?_
      refine j_istore (lv' := [(5, .int (nI 0)), (4, .int (nI i)), (3, .ref lbB), (2, .ref lb), (0, .ref v), (1, .ref b)]) hX dX4_makeInto_29 (by rw [hn]; decide) rfl ?_
      exact inner LB.length 0 g1 acc (by omega) hF hI1 hGa ⟨rf1, rw1, hIr1⟩ (by rw [← hRs, prs_drop hi9])
  refine j_aload_n hX dX4_makeInto_0 0 rfl ?_
  refine j_get (v := .ref lr) hX hv rfl wf_X4 0 (by decide) lk_X4_18 (fun z h => u_same (hX.ts _ wz_17) z h) rfl dX4_makeInto_1 ?_
  refine j_callV (As := []) (rest := []) hX (c_X6_latest (xl X) (xK X) g lr nw nx p vw (nI w) ch hlr hp) hlr rfl lk_X4_22 wI_X6_latest wV_X6_X6_latest wN_X6 wC_X6_latest hd_X6_latest rfl (by rw [hL]; decide) (by decide) rfl (Nat.le_of_ble_eq_true rfl) dX4_makeInto_4 (by rw [hR]; decide) (by rw [hR]; decide) jx_no ?_
  rintro _ _ ⟨rfl, rfl⟩
  rw [hlb]
  show J X 0 0 g 7 [(0, .ref v), (1, .ref b)] [.ref lb]
  refine j_astore_n (lv' := [(2, .ref lb), (0, .ref v), (1, .ref b)]) hX dX4_makeInto_7 (by rw [hn]; decide) rfl ?_
  refine j_aload_n hX dX4_makeInto_8 1 rfl ?_
  refine j_get (v := .ref lrB) hX hv rfl wf_X4 1 (by decide) lk_X4_28 (fun z h => u_same (hX.ts _ wz_18) z h) rfl dX4_makeInto_9 ?_
  refine j_callV (As := []) (rest := []) hX (c_X6_latest (xl X) (xK X) g lrB nwB nxB pB vwB ccB chB hlrB hpB) hlrB rfl lk_X4_22 wI_X6_latest wV_X6_X6_latest wN_X6 wC_X6_latest hd_X6_latest rfl (by rw [hL]; decide) (by decide) rfl (Nat.le_of_ble_eq_true rfl) dX4_makeInto_12 (by rw [hR]; decide) (by rw [hR]; decide) jx_no ?_
  rintro _ _ ⟨rfl, rfl⟩
  rw [hlbB]
  show J X 0 0 g 15 [(2, .ref lb), (0, .ref v), (1, .ref b)] [.ref lbB]
  refine j_astore_n (lv' := [(3, .ref lbB), (2, .ref lb), (0, .ref v), (1, .ref b)]) hX dX4_makeInto_15 (by rw [hn]; decide) rfl ?_
  refine j_iconst (v := nI 0) hX dX4_makeInto_16 (by decide) ?_
  refine j_istore (lv' := [(4, .int (nI 0)), (3, .ref lbB), (2, .ref lb), (0, .ref v), (1, .ref b)]) hX dX4_makeInto_17 (by rw [hn]; decide) rfl ?_
  exact loop L.length 0 g [] (by omega) (Fr.rf _ _) hI good_nil ⟨_, hrw, trivial⟩ rfl
end
section
/-! groups -/
def tog (by_ : Option Nat) (a b : Row) : Bool := match by_ with
  | none => true
  | some c => decide (cellR a c = cellR b c)
def rowG (L : Bg) (i : Nat) : Row := match L[i]? with
  | some x => x.1
  | none => (0, 0, 0, 0)
def tmG (L : Bg) (i : Nat) : Nat := match L[i]? with
  | some x => x.2
  | none => 0
theorem rowG_at {L : Bg} {i : Nat} (h : i < L.length) : rowG L i = (L[i]).1 := by unfold rowG; rw [List.getElem?_eq_getElem h]
theorem tmG_at {L : Bg} {i : Nat} (h : i < L.length) : tmG L i = (L[i]).2 := by unfold tmG; rw [List.getElem?_eq_getElem h]
def fstG (by_ : Option Nat) (L : Bg) (k : Nat) : Nat → Nat → Bool
  | 0, _ => true
  | m + 1, i => if tog by_ (rowG L i) (rowG L k) = true then false else fstG by_ L k m (i + 1)
def firstG (by_ : Option Nat) (L : Bg) (k : Nat) : Bool := fstG by_ L k k 0
def withR (st : Nat) (v cl often : Int32) : Int32 := match st with
  | 0 => v + often
  | 1 => v + cl * often
  | 2 => if cl < v then cl else v
  | _ => if v < cl then cl else v
def valG (by_ : Option Nat) (st c : Nat) (L : Bg) (f : Nat) : Nat → Nat → Int32 → Int32
  | 0, _, v => v
  | m + 1, k, v => valG by_ st c L f m (k + 1) (if tog by_ (rowG L f) (rowG L k) = true then withR st v (cellR (rowG L k) c) (nI (tmG L k)) else v)
def initG (st c : Nat) (L : Bg) (k : Nat) : Int32 := if st = 0 ∨ st = 1 then 0 else cellR (rowG L k) c
def valueG (by_ : Option Nat) (st c : Nat) (L : Bg) (k : Nat) : Int32 := valG by_ st c L k (L.length - k) k (initG st c L k)
def growG (by_ : Option Nat) (st c : Nat) (L : Bg) (k : Nat) : Row := match by_ with
  | none => (valueG by_ st c L k, 0, 0, 0)
  | some cb => (cellR (rowG L k) cb, valueG by_ st c L k, 0, 0)
def grF (by_ : Option Nat) (st c : Nat) (L : Bg) (k : Nat) : Option (Row × Int) := if firstG by_ L k = true then some (growG by_ st c L k, 1) else none
theorem gr_skip {by_ : Option Nat} {st c : Nat} {L : Bg} {B : Bg} {k : Nat} (hk : k < L.length) (h : ¬ firstG by_ L k = true) : fldB (grF by_ st c L) ((List.range L.length).drop k) B = fldB (grF by_ st c L) ((List.range L.length).drop (k + 1)) B :=
  fld_skip (by simpa using hk) (by rw [List.getElem_range]; exact if_neg h)
theorem gr_yes {by_ : Option Nat} {st c : Nat} {L : Bg} {B B' : Bg} {k : Nat} (hk : k < L.length) (h : firstG by_ L k = true) (ha : addB (growG by_ st c L k) 1 B = some B') : fldB (grF by_ st c L) ((List.range L.length).drop k) B = fldB (grF by_ st c L) ((List.range L.length).drop (k + 1)) B' :=
  fld_yes (q := (growG by_ st c L k, 1)) (by simpa using hk) (by rw [List.getElem_range]; exact if_pos h) ha
theorem gr_no {by_ : Option Nat} {st c : Nat} {L : Bg} {B : Bg} {k : Nat} (hk : k < L.length) (h : firstG by_ L k = true) (ha : addB (growG by_ st c L k) 1 B = none) : fldB (grF by_ st c L) ((List.range L.length).drop k) B = none :=
  fld_no (q := (growG by_ st c L k, 1)) (by simpa using hk) (by rw [List.getElem_range]; exact if_pos h) ha
theorem gr_end {by_ : Option Nat} {st c : Nat} {L : Bg} {B : Bg} {k : Nat} (hk : L.length ≤ k) : fldB (grF by_ st c L) ((List.range L.length).drop k) B = some B := fld_end (by simpa using hk)
/-- what a group's row keeps between the calls -/
def rowI (by_ : Option Nat) (rf : Nat → Int32) : Prop := rf 2 = 0 ∧ rf 3 = 0 ∧ (by_ = none → rf 1 = 0)
end
section
set_option maxRecDepth 20000 in
set_option maxHeartbeats 600000 in
/-- isTogether(of, i, k) -/
theorem c_X3_isTogether (l : Launch) (K : Cst) (g : Wd) (v lr rr rw : Nat) (dp : Int32) (by9 : Option Nat) (st c : Nat) (hv : g v = some (ob 3 [.ref lr, .ref rr, .int dp, .ref rw, .int (chv by9), .int (nI st), .int (nI c)])) (lb lca loa : Nat) (L : Bg) (lf lt : Nat → Int32) (bg : isBag K g lb lca loa L.length lf lt) (hLr : rep lf lt L) (gL : good L) (hby : ∀ cb, by9 = some cb → cb < 4) (i k : Nat) (hi : i < L.length) (hk : k < L.length) : Ct l K yX3_isTogether cX3_isTogether 4 (some .boolean) 1 [.ref v, .ref lb, .int (nI i), .int (nI k)] g (fun v g' => v = some (.int (b01 (tog by9 (L[i]).1 (L[k]).1))) ∧ g = g') (fun _ _ => False) 0 0 := by
  refine ct_of (by decide) (Nat.le_of_ble_eq_true rfl) ?_
  intro X hl hK hX hE hn hL hR hm
  subst hl; subst hK
  show J X 0 0 g 0 [(0, .ref v), (1, .ref lb), (2, .int (nI i)), (3, .int (nI k))] []
  have hLn := gL.2.1
  rcases by9 with _ | cb
  · refine j_aload_n hX dX3_isTogether_0 0 rfl ?_
    refine j_get (v := .int (-1)) hX hv rfl wf_X3 4 (by decide) lk_X3_9 (fun _ h => h) rfl dX3_isTogether_1 ?_
    refine j_iconst (v := (-1)) hX dX3_isTogether_4 (by decide) ?_
    refine j_icmp_eq hX 29 dX3_isTogether_5 (by decide) (fun _ => ?_) (fun c_5 => absurd (show (-1 : Int32) = -1 from rfl) c_5)
    refine j_iconst (v := 1) hX dX3_isTogether_29 (by decide) ?_
    refine j_goto hX 34 dX3_isTogether_30 (by decide) ?_
    exact j_zret hX hE dX3_isTogether_34 (by first | rfl | decide | assumption) (⟨rfl, rfl⟩) (by decide) (by decide)
  · have hcb := hby cb rfl
    refine j_aload_n hX dX3_isTogether_0 0 rfl ?_
    refine j_get (v := .int (nI cb)) hX hv rfl wf_X3 4 (by decide) lk_X3_9 (fun _ h => h) rfl dX3_isTogether_1 ?_
    refine j_iconst (v := (-1)) hX dX3_isTogether_4 (by decide) ?_
    refine j_icmp_eq hX 29 dX3_isTogether_5 (by decide) (fun c_5 => absurd c_5 (nI_m1ne (c := cb) (by omega))) (fun _ => ?_)
    refine j_aload_n hX dX3_isTogether_8 1 rfl ?_
    refine j_iload_n hX dX3_isTogether_9 2 rfl ?_
    refine j_aload_n hX dX3_isTogether_10 0 rfl ?_
    refine j_get (v := .int (nI cb)) hX hv rfl wf_X3 4 (by decide) lk_X3_9 (fun _ h => h) rfl dX3_isTogether_11 ?_
    refine j_callV (As := [.int (nI i), .int (nI cb)]) (rest := []) hX (c_X0_cellAt (xl X) (xK X) g lb lca loa L.length lf lt bg i cb (by omega) (hcb)) bg.1 rfl lk_X3_44 wI_X0_cellAt wV_X0_X0_cellAt wN_X0 wC_X0_cellAt hd_X0_cellAt rfl (by rw [hL]; decide) (by decide) rfl (Nat.le_of_ble_eq_true rfl) dX3_isTogether_14 (by rw [hR]; decide) (by rw [hR]; decide) jx_no ?_
    rintro _ _ ⟨rfl, rfl⟩
    show J X 0 0 g 17 [(0, .ref v), (1, .ref lb), (2, .int (nI i)), (3, .int (nI k))] [.int (lf (4 * i + cb))]
    refine j_eqi (y := cellR (L[i]).1 cb) (rep_cell hLr hi (hcb)) ?_
    refine j_aload_n hX dX3_isTogether_17 1 rfl ?_
    refine j_iload_n hX dX3_isTogether_18 3 rfl ?_
    refine j_aload_n hX dX3_isTogether_19 0 rfl ?_
    refine j_get (v := .int (nI cb)) hX hv rfl wf_X3 4 (by decide) lk_X3_9 (fun _ h => h) rfl dX3_isTogether_20 ?_
    refine j_callV (As := [.int (nI k), .int (nI cb)]) (rest := [.int (cellR (L[i]).1 cb)]) hX (c_X0_cellAt (xl X) (xK X) g lb lca loa L.length lf lt bg k cb (by omega) (hcb)) bg.1 rfl lk_X3_44 wI_X0_cellAt wV_X0_X0_cellAt wN_X0 wC_X0_cellAt hd_X0_cellAt rfl (by rw [hL]; decide) (by decide) rfl (Nat.le_of_ble_eq_true rfl) dX3_isTogether_23 (by rw [hR]; decide) (by rw [hR]; decide) jx_no ?_
    rintro _ _ ⟨rfl, rfl⟩
    show J X 0 0 g 26 [(0, .ref v), (1, .ref lb), (2, .int (nI i)), (3, .int (nI k))] [.int (lf (4 * k + cb)), .int (cellR (L[i]).1 cb)]
    refine j_eqi (y := cellR (L[k]).1 cb) (rep_cell hLr hk (hcb)) ?_
    refine j_icmp_ne hX 33 dX3_isTogether_26 (by decide) (fun c_26 => ?_) (fun c_26 => ?_)
    · refine j_iconst (v := 0) hX dX3_isTogether_33 (by decide) ?_
      exact j_zret hX hE dX3_isTogether_34 (by first | rfl | decide | assumption) (⟨congrArg (fun z => some (Value.int z)) (b01_0 (decide_eq_false c_26)), rfl⟩) (by decide) (by decide)
    · refine j_iconst (v := 1) hX dX3_isTogether_29 (by decide) ?_
      refine j_goto hX 34 dX3_isTogether_30 (by decide) ?_
      exact j_zret hX hE dX3_isTogether_34 (by first | rfl | decide | assumption) (⟨congrArg (fun z => some (Value.int z)) (b01_1 (decide_eq_true c_26)), rfl⟩) (by decide) (by decide)

set_option maxRecDepth 20000 in
set_option maxHeartbeats 600000 in
/-- isFirst(of, k) -/
theorem c_X3_isFirst (l : Launch) (K : Cst) (g : Wd) (v lr rr rw : Nat) (dp : Int32) (by9 : Option Nat) (st c : Nat) (hv : g v = some (ob 3 [.ref lr, .ref rr, .int dp, .ref rw, .int (chv by9), .int (nI st), .int (nI c)])) (lb lca loa : Nat) (L : Bg) (lf lt : Nat → Int32) (bg : isBag K g lb lca loa L.length lf lt) (hLr : rep lf lt L) (gL : good L) (hby : ∀ cb, by9 = some cb → cb < 4) (k : Nat) (hk : k < L.length) : Ct l K yX3_isFirst cX3_isFirst 4 (some .boolean) 2 [.ref v, .ref lb, .int (nI k)] g (fun v g' => v = some (.int (b01 (firstG by9 L k))) ∧ g = g') (fun _ _ => False) 0 0 := by
  refine ct_of (by decide) (Nat.le_of_ble_eq_true rfl) ?_
  intro X hl hK hX hE hn hL hR hm
  subst hl; subst hK
  show J X 0 0 g 0 [(0, .ref v), (1, .ref lb), (2, .int (nI k))] []
  have hLn := gL.2.1
  have loop : ∀ (m i : Nat), i + m = k → fstG by9 L k m i = firstG by9 L k → J X 0 0 g 2 [(3, .int (nI i)), (0, .ref v), (1, .ref lb), (2, .int (nI k))] [] := by
    intro m
    induction m with
    | zero =>
      intro i hi hr9
      refine j_iload_n hX dX3_isFirst_2 0 rfl ?_
      refine j_iload_n hX dX3_isFirst_3 3 rfl ?_
      refine j_icmp_ge hX 25 dX3_isFirst_4 (by decide) (fun _ => ?_) (fun c_4 => absurd (nI_le (a := k) (b := i) (by omega) (by omega)) c_4)
      refine j_iconst (v := 1) hX dX3_isFirst_25 (by decide) ?_
      exact j_zret hX hE dX3_isFirst_26 (by first | rfl | decide | assumption) (⟨by rw [← hr9]; rfl, rfl⟩) (by decide) (by decide)
    | succ m ih =>
      intro i hi hr9
      have hi9 : i < L.length := by omega
      refine j_iload_n hX dX3_isFirst_2 0 rfl ?_
      refine j_iload_n hX dX3_isFirst_3 3 rfl ?_
      refine j_icmp_ge hX 25 dX3_isFirst_4 (by decide) (fun c_4 => absurd c_4 (nI_ge (a := i) (b := k) (by omega) (by omega))) (fun _ => ?_)
      refine j_aload_n hX dX3_isFirst_7 1 rfl ?_
      refine j_aload_n hX dX3_isFirst_8 2 rfl ?_
      refine j_iload_n hX dX3_isFirst_9 0 rfl ?_
      refine j_iload_n hX dX3_isFirst_10 3 rfl ?_
      refine j_callV (As := [.ref lb, .int (nI i), .int (nI k)]) (rest := []) hX (c_X3_isTogether (xl X) (xK X) g v lr rr rw dp by9 st c hv lb lca loa L lf lt bg hLr gL hby i k hi9 hk) hv rfl lk_X3_56 wI_X3_isTogether wV_X3_X3_isTogether wN_X3 wC_X3_isTogether hd_X3_isTogether rfl (by rw [hL]; decide) (by decide) rfl (Nat.le_of_ble_eq_true rfl) dX3_isFirst_11 (by rw [hR]; decide) (by rw [hR]; decide) jx_no ?_
      rintro _ _ ⟨rfl, rfl⟩
      show J X 0 0 g 14 [(3, .int (nI i)), (0, .ref v), (1, .ref lb), (2, .int (nI k))] [.int (b01 (tog by9 (L[i]).1 (L[k]).1))]
      refine j_if_eq hX 19 dX3_isFirst_14 (by decide) (fun c_14 => ?_) (fun c_14 => ?_)
      · refine j_iinc (v := nI (i + 1)) (lv' := [(3, .int (nI (i + 1))), (0, .ref v), (1, .ref lb), (2, .int (nI k))]) hX dX3_isFirst_19 0 rfl (nI_1 i) (by rw [hn]; decide) rfl ?_
        refine j_goto hX 2 dX3_isFirst_22 (by decide) ?_
        refine j_sub [0, 1, 2, 3] rfl ?_
        exact ih (i + 1) (by omega) (by rw [← hr9, fstG, if_neg (by rw [rowG_at hi9, rowG_at hk]; exact b01_f c_14)])
      · refine j_iconst (v := 0) hX dX3_isFirst_17 (by decide) ?_
        exact j_zret hX hE dX3_isFirst_18 (by first | rfl | decide | assumption) (⟨by rw [← hr9, fstG, if_pos (by rw [rowG_at hi9, rowG_at hk]; exact b01_t c_14)]; rfl, rfl⟩) (by decide) (by decide)
  refine j_iconst (v := nI 0) hX dX3_isFirst_0 (by decide) ?_
  refine j_istore_n (lv' := [(3, .int (nI 0)), (0, .ref v), (1, .ref lb), (2, .int (nI k))]) hX dX3_isFirst_1 (by rw [hn]; decide) rfl ?_
  exact loop k 0 (by omega) rfl

set_option maxRecDepth 20000 in
set_option maxHeartbeats 600000 in
/-- withRow(value, cell, often) -/
theorem c_X3_withRow (l : Launch) (K : Cst) (g : Wd) (v lr rr rw : Nat) (dp : Int32) (by9 : Option Nat) (st c : Nat) (hv : g v = some (ob 3 [.ref lr, .ref rr, .int dp, .ref rw, .int (chv by9), .int (nI st), .int (nI c)])) (hst : st ≤ 3) (va cl oft : Int32) : Ct l K yX3_withRow cX3_withRow 4 (some .int) 1 [.ref v, .int va, .int cl, .int oft] g (fun v g' => v = some (.int (withR st va cl oft)) ∧ g = g') (fun _ _ => False) 0 0 := by
  refine ct_of (by decide) (Nat.le_of_ble_eq_true rfl) ?_
  intro X hl hK hX hE hn hL hR hm
  subst hl; subst hK
  show J X 0 0 g 0 [(0, .ref v), (1, .int va), (2, .int cl), (3, .int oft)] []
  rcases (show st = 0 ∨ st = 1 ∨ st = 2 ∨ st = 3 by omega) with rfl | rfl | rfl | rfl
  · refine j_aload_n hX dX3_withRow_0 0 rfl ?_
    refine j_get (v := .int (nI 0)) hX hv rfl wf_X3 5 (by decide) lk_X3_15 (fun _ h => h) rfl dX3_withRow_1 ?_
    refine j_tabIn (off := 28) hX 32 dX3_withRow_4 (by decide) (by decide) (by decide) (by decide) ?_
    refine j_iload_n hX dX3_withRow_32 1 rfl ?_
    refine j_iload_n hX dX3_withRow_33 3 rfl ?_
    refine j_iadd hX dX3_withRow_34 ?_
    exact j_iret hX hE dX3_withRow_35 (⟨rfl, rfl⟩) (by decide) (by decide)
  · refine j_aload_n hX dX3_withRow_0 0 rfl ?_
    refine j_get (v := .int (nI 1)) hX hv rfl wf_X3 5 (by decide) lk_X3_15 (fun _ h => h) rfl dX3_withRow_1 ?_
    refine j_tabIn (off := 32) hX 36 dX3_withRow_4 (by decide) (by decide) (by decide) (by decide) ?_
    refine j_iload_n hX dX3_withRow_36 1 rfl ?_
    refine j_iload_n hX dX3_withRow_37 2 rfl ?_
    refine j_iload_n hX dX3_withRow_38 3 rfl ?_
    refine j_imul hX dX3_withRow_39 ?_
    refine j_iadd hX dX3_withRow_40 ?_
    exact j_iret hX hE dX3_withRow_41 (⟨rfl, rfl⟩) (by decide) (by decide)
  · refine j_aload_n hX dX3_withRow_0 0 rfl ?_
    refine j_get (v := .int (nI 2)) hX hv rfl wf_X3 5 (by decide) lk_X3_15 (fun _ h => h) rfl dX3_withRow_1 ?_
    refine j_tabIn (off := 38) hX 42 dX3_withRow_4 (by decide) (by decide) (by decide) (by decide) ?_
    refine j_iload_n hX dX3_withRow_42 1 rfl ?_
    refine j_iload_n hX dX3_withRow_43 2 rfl ?_
    refine j_min hX lk_X3_67 (by rw [hL]; decide) (by decide) (by rw [hR]; decide) (by rw [hR]; decide) dX3_withRow_44 ?_
    exact j_iret hX hE dX3_withRow_47 ⟨rfl, rfl⟩ (by decide) (by decide)
  · refine j_aload_n hX dX3_withRow_0 0 rfl ?_
    refine j_get (v := .int (nI 3)) hX hv rfl wf_X3 5 (by decide) lk_X3_15 (fun _ h => h) rfl dX3_withRow_1 ?_
    refine j_tabOut hX 48 dX3_withRow_4 (by decide) (by decide) ?_
    refine j_iload_n hX dX3_withRow_48 1 rfl ?_
    refine j_iload_n hX dX3_withRow_49 2 rfl ?_
    refine j_max hX lk_X3_72 (by rw [hL]; decide) (by decide) (by rw [hR]; decide) (by rw [hR]; decide) dX3_withRow_50 ?_
    exact j_iret hX hE dX3_withRow_53 ⟨rfl, rfl⟩ (by decide) (by decide)

set_option maxRecDepth 20000 in
set_option maxHeartbeats 600000 in
/-- valueFrom(of, first) -/
theorem c_X3_valueFrom (l : Launch) (K : Cst) (g : Wd) (v lr rr rw : Nat) (dp : Int32) (by9 : Option Nat) (st c : Nat) (hv : g v = some (ob 3 [.ref lr, .ref rr, .int dp, .ref rw, .int (chv by9), .int (nI st), .int (nI c)])) (lb lca loa : Nat) (L : Bg) (lf lt : Nat → Int32) (bg : isBag K g lb lca loa L.length lf lt) (hLr : rep lf lt L) (gL : good L) (hby : ∀ cb, by9 = some cb → cb < 4) (hst : st ≤ 3) (hc4 : c < 4) (f : Nat) (hf : f < L.length) : Ct l K yX3_valueFrom cX3_valueFrom 5 (some .int) 2 [.ref v, .ref lb, .int (nI f)] g (fun v g' => v = some (.int (valueG by9 st c L f)) ∧ g = g') (fun _ _ => False) 0 0 := by
  refine ct_of (by decide) (Nat.le_of_ble_eq_true rfl) ?_
  intro X hl hK hX hE hn hL hR hm
  subst hl; subst hK
  show J X 0 0 g 0 [(0, .ref v), (1, .ref lb), (2, .int (nI f))] []
  have hLn := gL.2.1
  have loop : ∀ (m k : Nat) (va : Int32), k + m = L.length → f ≤ k → valG by9 st c L f m k va = valueG by9 st c L f → J X 0 0 g 32 [(4, .int (nI k)), (3, .int va), (0, .ref v), (1, .ref lb), (2, .int (nI f))] [] := by
    intro m
    induction m with
    | zero =>
      intro k va hk hfk hr9
      refine j_iload hX dX3_valueFrom_32 0 rfl ?_
      refine j_aload_n hX dX3_valueFrom_34 3 rfl ?_
      refine j_getN (v := .int (nI L.length)) hX bg.1 rfl wf_X0 2 (by decide) nk_X3_31 (fun _ h => h) rfl dX3_valueFrom_35 ?_
      refine j_icmp_ge hX 81 dX3_valueFrom_38 (by decide) (fun _ => ?_) (fun c_38 => absurd (nI_le (a := L.length) (b := k) (by omega) (by omega)) c_38)
      refine j_iload_n hX dX3_valueFrom_81 1 rfl ?_
      exact j_iret hX hE dX3_valueFrom_82 (⟨by rw [← hr9]; rfl, rfl⟩) (by decide) (by decide)
    | succ m ih =>
      intro k va hk hfk hr9
      have hk9 : k < L.length := by omega
      refine j_iload hX dX3_valueFrom_32 0 rfl ?_
      refine j_aload_n hX dX3_valueFrom_34 3 rfl ?_
      refine j_getN (v := .int (nI L.length)) hX bg.1 rfl wf_X0 2 (by decide) nk_X3_31 (fun _ h => h) rfl dX3_valueFrom_35 ?_
      refine j_icmp_ge hX 81 dX3_valueFrom_38 (by decide) (fun c_38 => absurd c_38 (nI_ge (a := k) (b := L.length) (by omega) (by omega))) (fun _ => ?_)
      refine j_aload_n hX dX3_valueFrom_41 2 rfl ?_
      refine j_aload_n hX dX3_valueFrom_42 3 rfl ?_
      refine j_iload_n hX dX3_valueFrom_43 4 rfl ?_
      refine j_iload hX dX3_valueFrom_44 0 rfl ?_
      refine j_callV (As := [.ref lb, .int (nI f), .int (nI k)]) (rest := []) hX (c_X3_isTogether (xl X) (xK X) g v lr rr rw dp by9 st c hv lb lca loa L lf lt bg hLr gL hby f k hf hk9) hv rfl lk_X3_56 wI_X3_isTogether wV_X3_X3_isTogether wN_X3 wC_X3_isTogether hd_X3_isTogether rfl (by rw [hL]; decide) (by decide) rfl (Nat.le_of_ble_eq_true rfl) dX3_valueFrom_46 (by rw [hR]; decide) (by rw [hR]; decide) jx_no ?_
      rintro _ _ ⟨rfl, rfl⟩
      show J X 0 0 g 49 [(4, .int (nI k)), (3, .int va), (0, .ref v), (1, .ref lb), (2, .int (nI f))] [.int (b01 (tog by9 (L[f]).1 (L[k]).1))]
      refine j_if_eq hX 75 dX3_valueFrom_49 (by decide) (fun c_49 => ?_) (fun c_49 => ?_)
      · refine j_iinc (v := nI (k + 1)) (lv' := [(4, .int (nI (k + 1))), (3, .int va), (0, .ref v), (1, .ref lb), (2, .int (nI f))]) hX dX3_valueFrom_75 0 rfl (nI_1 k) (by rw [hn]; decide) rfl ?_
        refine j_goto hX 32 dX3_valueFrom_78 (by decide) ?_
        refine j_sub [0, 1, 2, 3, 4] rfl ?_
        exact ih (k + 1) va (by omega) (by omega) (by rw [← hr9, valG, if_neg (by rw [rowG_at hf, rowG_at hk9]; exact b01_f c_49)])
      · refine j_aload_n hX dX3_valueFrom_52 2 rfl ?_
        refine j_iload_n hX dX3_valueFrom_53 1 rfl ?_
        refine j_aload_n hX dX3_valueFrom_54 3 rfl ?_
        refine j_iload hX dX3_valueFrom_55 0 rfl ?_
        refine j_aload_n hX dX3_valueFrom_57 2 rfl ?_
        refine j_get (v := .int (nI c)) hX hv rfl wf_X3 6 (by decide) lk_X3_18 (fun _ h => h) rfl dX3_valueFrom_58 ?_
        refine j_callV (As := [.int (nI k), .int (nI c)]) (rest := [.int va, .ref v]) hX (c_X0_cellAt (xl X) (xK X) g lb lca loa L.length lf lt bg k c (by omega) (hc4)) bg.1 rfl lk_X3_44 wI_X0_cellAt wV_X0_X0_cellAt wN_X0 wC_X0_cellAt hd_X0_cellAt rfl (by rw [hL]; decide) (by decide) rfl (Nat.le_of_ble_eq_true rfl) dX3_valueFrom_61 (by rw [hR]; decide) (by rw [hR]; decide) jx_no ?_
        rintro _ _ ⟨rfl, rfl⟩
        show J X 0 0 g 64 [(4, .int (nI k)), (3, .int va), (0, .ref v), (1, .ref lb), (2, .int (nI f))] [.int (lf (4 * k + c)), .int va, .ref v]
        refine j_eqi (y := cellR (L[k]).1 c) (rep_cell hLr hk9 (hc4)) ?_
        refine j_aload_n hX dX3_valueFrom_64 3 rfl ?_
        refine j_getN (v := .ref loa) hX bg.1 rfl wf_X0 1 (by decide) nk_X3_60 (fun _ h => h) rfl dX3_valueFrom_65 ?_
        refine j_iload hX dX3_valueFrom_68 0 rfl ?_
        refine j_ialdN hX bg.2.2 (k) (rfl) (by omega) (by decide) dX3_valueFrom_70 ?_
        refine j_eqi (y := nI (L[k]).2) ((hLr k _ (List.getElem?_eq_getElem hk9)).2) ?_
        refine j_callV (As := [.int va, .int (cellR (L[k]).1 c), .int (nI (L[k]).2)]) (rest := []) hX (c_X3_withRow (xl X) (xK X) g v lr rr rw dp by9 st c hv hst _ _ _) hv rfl lk_X3_63 wI_X3_withRow wV_X3_X3_withRow wN_X3 wC_X3_withRow hd_X3_withRow rfl (by rw [hL]; decide) (by decide) rfl (Nat.le_of_ble_eq_true rfl) dX3_valueFrom_71 (by rw [hR]; decide) (by rw [hR]; decide) jx_no ?_
        rintro _ _ ⟨rfl, rfl⟩
        show J X 0 0 g 74 [(4, .int (nI k)), (3, .int va), (0, .ref v), (1, .ref lb), (2, .int (nI f))] [.int (withR st va (cellR (L[k]).1 c) (nI (L[k]).2))]
        refine j_istore_n (lv' := [(3, .int (withR st va (cellR (L[k]).1 c) (nI (L[k]).2))), (4, .int (nI k)), (0, .ref v), (1, .ref lb), (2, .int (nI f))]) hX dX3_valueFrom_74 (by rw [hn]; decide) rfl ?_
        refine j_iinc (v := nI (k + 1)) (lv' := [(4, .int (nI (k + 1))), (3, .int (withR st va (cellR (L[k]).1 c) (nI (L[k]).2))), (0, .ref v), (1, .ref lb), (2, .int (nI f))]) hX dX3_valueFrom_75 1 rfl (nI_1 k) (by rw [hn]; decide) rfl ?_
        refine j_goto hX 32 dX3_valueFrom_78 (by decide) ?_
        refine j_sub [0, 1, 2, 3, 4] rfl ?_
        exact ih (k + 1) _ (by omega) (by omega) (by rw [← hr9, valG, if_pos (by rw [rowG_at hf, rowG_at hk9]; exact b01_t c_49), rowG_at hk9, tmG_at hk9])
  rcases (show st = 0 ∨ st = 1 ∨ (st = 2 ∨ st = 3) by omega) with h9 | h9 | h9
  · refine j_aload_n hX dX3_valueFrom_0 0 rfl ?_
    refine j_get (v := .int (nI st)) hX hv rfl wf_X3 5 (by decide) lk_X3_15 (fun _ h => h) rfl dX3_valueFrom_1 ?_
    refine j_if_eq hX 15 dX3_valueFrom_4 (by decide) (fun _ => ?_) (fun c_4 => absurd (by rw [h9]; decide) c_4)
    refine j_iconst (v := 0) hX dX3_valueFrom_15 (by decide) ?_
    refine j_goto hX 28 dX3_valueFrom_16 (by decide) ?_
    refine j_istore_n (lv' := [(3, .int 0), (0, .ref v), (1, .ref lb), (2, .int (nI f))]) hX dX3_valueFrom_28 (by rw [hn]; decide) rfl ?_
    refine j_iload_n hX dX3_valueFrom_29 3 rfl ?_
    refine j_istore (lv' := [(4, .int (nI f)), (3, .int 0), (0, .ref v), (1, .ref lb), (2, .int (nI f))]) hX dX3_valueFrom_30 (by rw [hn]; decide) rfl ?_
    refine j_sub [0, 1, 2, 3, 4] rfl ?_
    exact loop (L.length - f) f _ (by omega) (Nat.le_refl _) (by rw [valueG, initG, if_pos (by omega)])
  · refine j_aload_n hX dX3_valueFrom_0 0 rfl ?_
    refine j_get (v := .int (nI st)) hX hv rfl wf_X3 5 (by decide) lk_X3_15 (fun _ h => h) rfl dX3_valueFrom_1 ?_
    refine j_if_eq hX 15 dX3_valueFrom_4 (by decide) (fun c_4 => absurd c_4 (by rw [h9]; decide)) (fun _ => ?_)
    refine j_aload_n hX dX3_valueFrom_7 0 rfl ?_
    refine j_get (v := .int (nI st)) hX hv rfl wf_X3 5 (by decide) lk_X3_15 (fun _ h => h) rfl dX3_valueFrom_8 ?_
    refine j_iconst (v := 1) hX dX3_valueFrom_11 (by decide) ?_
    refine j_icmp_ne hX 19 dX3_valueFrom_12 (by decide) (fun c_12 => absurd c_12 (by rw [h9]; decide)) (fun _ => ?_)
    refine j_iconst (v := 0) hX dX3_valueFrom_15 (by decide) ?_
    refine j_goto hX 28 dX3_valueFrom_16 (by decide) ?_
    refine j_istore_n (lv' := [(3, .int 0), (0, .ref v), (1, .ref lb), (2, .int (nI f))]) hX dX3_valueFrom_28 (by rw [hn]; decide) rfl ?_
    refine j_iload_n hX dX3_valueFrom_29 3 rfl ?_
    refine j_istore (lv' := [(4, .int (nI f)), (3, .int 0), (0, .ref v), (1, .ref lb), (2, .int (nI f))]) hX dX3_valueFrom_30 (by rw [hn]; decide) rfl ?_
    refine j_sub [0, 1, 2, 3, 4] rfl ?_
    exact loop (L.length - f) f _ (by omega) (Nat.le_refl _) (by rw [valueG, initG, if_pos (by omega)])
  · refine j_aload_n hX dX3_valueFrom_0 0 rfl ?_
    refine j_get (v := .int (nI st)) hX hv rfl wf_X3 5 (by decide) lk_X3_15 (fun _ h => h) rfl dX3_valueFrom_1 ?_
    refine j_if_eq hX 15 dX3_valueFrom_4 (by decide) (fun c_4 => absurd c_4 (by rcases h9 with h9 | h9 <;> rw [h9] <;> decide)) (fun _ => ?_)
    refine j_aload_n hX dX3_valueFrom_7 0 rfl ?_
    refine j_get (v := .int (nI st)) hX hv rfl wf_X3 5 (by decide) lk_X3_15 (fun _ h => h) rfl dX3_valueFrom_8 ?_
    refine j_iconst (v := 1) hX dX3_valueFrom_11 (by decide) ?_
    refine j_icmp_ne hX 19 dX3_valueFrom_12 (by decide) (fun _ => ?_) (fun c_12 => absurd c_12 (by rcases h9 with h9 | h9 <;> rw [h9] <;> decide))
    refine j_aload_n hX dX3_valueFrom_19 1 rfl ?_
    refine j_iload_n hX dX3_valueFrom_20 2 rfl ?_
    refine j_aload_n hX dX3_valueFrom_21 0 rfl ?_
    refine j_get (v := .int (nI c)) hX hv rfl wf_X3 6 (by decide) lk_X3_18 (fun _ h => h) rfl dX3_valueFrom_22 ?_
    refine j_callV (As := [.int (nI f), .int (nI c)]) (rest := []) hX (c_X0_cellAt (xl X) (xK X) g lb lca loa L.length lf lt bg f c (by omega) (hc4)) bg.1 rfl lk_X3_44 wI_X0_cellAt wV_X0_X0_cellAt wN_X0 wC_X0_cellAt hd_X0_cellAt rfl (by rw [hL]; decide) (by decide) rfl (Nat.le_of_ble_eq_true rfl) dX3_valueFrom_25 (by rw [hR]; decide) (by rw [hR]; decide) jx_no ?_
    rintro _ _ ⟨rfl, rfl⟩
    show J X 0 0 g 28 [(0, .ref v), (1, .ref lb), (2, .int (nI f))] [.int (lf (4 * f + c))]
    refine j_eqi (y := cellR (L[f]).1 c) (rep_cell hLr hf (hc4)) ?_
    refine j_istore_n (lv' := [(3, .int (cellR (L[f]).1 c)), (0, .ref v), (1, .ref lb), (2, .int (nI f))]) hX dX3_valueFrom_28 (by rw [hn]; decide) rfl ?_
    refine j_iload_n hX dX3_valueFrom_29 3 rfl ?_
    refine j_istore (lv' := [(4, .int (nI f)), (3, .int (cellR (L[f]).1 c)), (0, .ref v), (1, .ref lb), (2, .int (nI f))]) hX dX3_valueFrom_30 (by rw [hn]; decide) rfl ?_
    refine j_sub [0, 1, 2, 3, 4] rfl ?_
    exact loop (L.length - f) f _ (by omega) (Nat.le_refl _) (by rw [valueG, initG, if_neg (by omega), rowG_at hf])

set_option maxRecDepth 20000 in
set_option maxHeartbeats 600000 in
/-- group: makeInto -/
theorem c_X3_makeInto (l : Launch) (K : Cst) (g : Wd) (b ca oa rw : Nat) (rf0 : Nat → Int32) (hI : bagR K g b ca oa []) (hrw : g rw = some (aI K 4 rf0)) (v rr : Nat) (dp : Int32) (by9 : Option Nat) (st c : Nat) (hby : ∀ cb, by9 = some cb → cb < 4) (hst : st ≤ 3) (hc4 : c < 4) (hri : rowI by9 rf0) (lr nw nx p : Nat) (vw : Value) (cc ch : Int32) (hlr : g lr = some (ob 6 [.ref nw, .ref nx, vw, .int cc, .int (nI p), .int ch])) (hp : p < 2 ^ 31) (lb lca loa : Nat) (L : Bg) (hlb : (if 0 < p then nx else nw) = lb) (hL : bagR K g lb lca loa L) (gL : good L) (nb : lb ≠ b) (nca : lca ≠ ca) (noa : loa ≠ oa) (hv : g v = some (ob 3 [.ref lr, .ref rr, .int dp, .ref rw, .int (chv by9), .int (nI st), .int (nI c)])) : Ct l K yX3_makeInto cX3_makeInto 5 (some .boolean) 4 [.ref v, .ref b] g (mkP K g b ca oa rw (rowI by9) (fldB (grF by9 st c L) (List.range L.length) [])) (fun _ _ => False) 0 0 := by
  refine ct_of (by decide) (Nat.le_of_ble_eq_true rfl) ?_
  intro X hl hK hX hE hn hL hR hm
  subst hl; subst hK
  show J X 0 0 g 0 [(0, .ref v), (1, .ref b)] []
  obtain ⟨if0, it0, hI0, hIr⟩ := id hI
  obtain ⟨lf, lt, hbg, hLr⟩ := hL
  have hLn : L.length ≤ 20 := gL.2.1
  have n_v_b : v ≠ b := ne_ob (hv) (hI0.1) (by simp)
  have n_v_ca : v ≠ ca := ne_ob (hv) (hI0.2.1) (by simp)
  have n_v_oa : v ≠ oa := ne_ob (hv) (hI0.2.2) (by simp)
  have n_v_rw : v ≠ rw := ne_ob (hv) (hrw) (by simp)
  have n_lr_b : lr ≠ b := ne_ob (hlr) (hI0.1) (by simp)
  have n_lr_ca : lr ≠ ca := ne_ob (hlr) (hI0.2.1) (by simp)
  have n_lr_oa : lr ≠ oa := ne_ob (hlr) (hI0.2.2) (by simp)
  have n_lr_rw : lr ≠ rw := ne_ob (hlr) (hrw) (by simp)
  have n_lb_b : lb ≠ b := nb
  have n_lb_ca : lb ≠ ca := ne_ob (hbg.1) (hI0.2.1) (by simp)
  have n_lb_oa : lb ≠ oa := ne_ob (hbg.1) (hI0.2.2) (by simp)
  have n_lb_rw : lb ≠ rw := ne_ob (hbg.1) (hrw) (by simp)
  have n_lca_b : lca ≠ b := ne_ob (hbg.2.1) (hI0.1) (by simp)
  have n_lca_ca : lca ≠ ca := nca
  have n_lca_oa : lca ≠ oa := ne_ob (hbg.2.1) (hI0.2.2) (by simp)
  have n_lca_rw : lca ≠ rw := ne_ob (hbg.2.1) (hrw) (by simp)
  have n_loa_b : loa ≠ b := ne_ob (hbg.2.2) (hI0.1) (by simp)
  have n_loa_ca : loa ≠ ca := ne_ob (hbg.2.2) (hI0.2.1) (by simp)
  have n_loa_oa : loa ≠ oa := noa
  have n_loa_rw : loa ≠ rw := ne_ob (hbg.2.2) (hrw) (by simp)
  have n_b_rw : b ≠ rw := ne_ob (hI0.1) hrw (by simp)
  have n_ca_rw : ca ≠ rw := ne_ob (hI0.2.1) hrw (by simp)
  have n_oa_rw : oa ≠ rw := ne_ob (hI0.2.2) hrw (by simp)
  have loop : ∀ (m k : Nat) (g1 : Wd) (acc : Bg), k + m = L.length → Fr g g1 [b, ca, oa, rw] → bagR (xK X) g1 b ca oa acc → good acc → (∃ rf, g1 rw = some (aI (xK X) 4 rf) ∧ (rowI by9) rf) → fldB (grF by9 st c L) ((List.range L.length).drop k) acc = fldB (grF by9 st c L) (List.range L.length) [] → J X 0 0 g1 13 [(4, .int (nI k)), (3, .int 1), (2, .ref lb), (0, .ref v), (1, .ref b)] [] := by
    intro m
    induction m with
    | zero =>
      intro k g1 acc hk hF hI1 hGa hrwE hRs
      obtain ⟨rf1, rw1, hIr1⟩ := hrwE
      have v1 := Fr.at hF hv (nm4 n_v_b n_v_ca n_v_oa n_v_rw)
      have lr1 := Fr.at hF hlr (nm4 n_lr_b n_lr_ca n_lr_oa n_lr_rw)
      have bg1 := isBag.at hbg hF (nm4 n_lb_b n_lb_ca n_lb_oa n_lb_rw) (nm4 n_lca_b n_lca_ca n_lca_oa n_lca_rw) (nm4 n_loa_b n_loa_ca n_loa_oa n_loa_rw)
      refine j_iload hX dX3_makeInto_13 0 rfl ?_
      refine j_aload_n hX dX3_makeInto_15 2 rfl ?_
      refine j_getN (v := .int (nI L.length)) hX bg1.1 rfl wf_X0 2 (by decide) nk_X3_31 (fun _ h => h) rfl dX3_makeInto_16 ?_
      refine j_icmp_ge hX 105 dX3_makeInto_19 (by decide) (fun _ => ?_) (fun c_19 => absurd (nI_le (a := L.length) (b := k) (by omega) (by omega)) c_19)
      refine j_iload_n hX dX3_makeInto_105 1 rfl ?_
      exact j_zret hX hE dX3_makeInto_106 (by first | rfl | decide | assumption) (⟨hF, ⟨rf1, rw1, hIr1⟩, by rw [← hRs, gr_end (by omega)]; exact ⟨rfl, hI1, hGa⟩⟩) (by decide) (by decide)
    | succ m ih =>
      intro k g1 acc hk hF hI1 hGa hrwE hRs
      obtain ⟨rf1, rw1, hIr1⟩ := hrwE
      have hk9 : k < L.length := by omega
      obtain ⟨if1, it1, iB1, iRp1⟩ := id hI1
      have v1 := Fr.at hF hv (nm4 n_v_b n_v_ca n_v_oa n_v_rw)
      have lr1 := Fr.at hF hlr (nm4 n_lr_b n_lr_ca n_lr_oa n_lr_rw)
      have bg1 := isBag.at hbg hF (nm4 n_lb_b n_lb_ca n_lb_oa n_lb_rw) (nm4 n_lca_b n_lca_ca n_lca_oa n_lca_rw) (nm4 n_loa_b n_loa_ca n_loa_oa n_loa_rw)
      rcases by9 with _ | cb
      · refine j_iload hX dX3_makeInto_13 0 rfl ?_
        refine j_aload_n hX dX3_makeInto_15 2 rfl ?_
        refine j_getN (v := .int (nI L.length)) hX bg1.1 rfl wf_X0 2 (by decide) nk_X3_31 (fun _ h => h) rfl dX3_makeInto_16 ?_
        refine j_icmp_ge hX 105 dX3_makeInto_19 (by decide) (fun c_19 => absurd c_19 (nI_ge (a := k) (b := L.length) (by omega) (by omega))) (fun _ => ?_)
        refine j_iload_n hX dX3_makeInto_22 1 rfl ?_
        refine j_if_eq hX 105 dX3_makeInto_23 (by decide) (fun c_23 => absurd c_23 (show ¬ (1 : Int32) = 0 by decide)) (fun _ => ?_)
        refine j_aload_n hX dX3_makeInto_26 3 rfl ?_
        refine j_aload_n hX dX3_makeInto_27 2 rfl ?_
        refine j_iload hX dX3_makeInto_28 0 rfl ?_
        refine j_callV (As := [.ref lb, .int (nI k)]) (rest := []) hX (c_X3_isFirst (xl X) (xK X) g1 v lr rr rw dp none st c v1 lb lca loa L lf lt bg1 hLr gL hby k hk9) v1 rfl lk_X3_36 wI_X3_isFirst wV_X3_X3_isFirst wN_X3 wC_X3_isFirst hd_X3_isFirst rfl (by rw [hL]; decide) (by decide) rfl (Nat.le_of_ble_eq_true rfl) dX3_makeInto_30 (by rw [hR]; decide) (by rw [hR]; decide) jx_no ?_
        rintro _ _ ⟨rfl, rfl⟩
        show J X 0 0 g1 33 [(4, .int (nI k)), (3, .int 1), (2, .ref lb), (0, .ref v), (1, .ref b)] [.int (b01 (firstG none L k))]
        refine j_if_eq hX 99 dX3_makeInto_33 (by decide) (fun c_33 => ?_) (fun c_33 => ?_)
        · refine j_iinc (v := nI (k + 1)) (lv' := [(4, .int (nI (k + 1))), (3, .int 1), (2, .ref lb), (0, .ref v), (1, .ref b)]) hX dX3_makeInto_99 0 rfl (nI_1 k) (by rw [hn]; decide) rfl ?_
          refine j_goto hX 13 dX3_makeInto_102 (by decide) ?_
          refine j_sub [0, 1, 2, 3, 4] rfl ?_
          exact ih (k + 1) g1 acc (by omega) hF hI1 hGa ⟨rf1, rw1, hIr1⟩ (by rw [← hRs, gr_skip hk9 (b01_f c_33)])
        · refine j_aload_n hX dX3_makeInto_36 3 rfl ?_
          refine j_get (v := .ref rw) hX v1 rfl wf_X3 3 (by decide) lk_X3_40 (fun z h => u_same (hX.ts _ wz_14) z h) rfl dX3_makeInto_37 ?_
          refine j_iconst (v := nI 0) hX dX3_makeInto_40 (by decide) ?_
          refine j_aload_n hX dX3_makeInto_41 3 rfl ?_
          refine j_get (v := .int (-1)) hX v1 rfl wf_X3 4 (by decide) lk_X3_9 (fun _ h => h) rfl dX3_makeInto_42 ?_
          refine j_iconst (v := (-1)) hX dX3_makeInto_45 (by decide) ?_
          refine j_icmp_ne hX 53 dX3_makeInto_46 (by decide) (fun c_46 => absurd c_46 (show ¬ ¬ (-1 : Int32) = -1 from fun q => q rfl)) (fun _ => ?_)
          refine j_iconst (v := 0) hX dX3_makeInto_49 (by decide) ?_
          refine j_goto hX 63 dX3_makeInto_50 (by decide) ?_
          refine j_iastN hX rw1 (0) (rfl) (by omega) (by decide) dX3_makeInto_63 ?_
          obtain ⟨g3, eg3⟩ : ∃ z : Wd, z = up g1 rw (aI (xK X) 4 (upd rf1 (0) 0)) := ⟨_, rfl⟩
          refine j_w eg3.symm ?_
          have H3_v := (congrFun eg3 v).trans ((up_n (n_v_rw)).trans (v1))
          have H3_rw : g3 rw = some (aI (xK X) 4 (upd rf1 (0) 0)) := by rw [eg3]; exact up_s _ _ _
          have H3_lr := (congrFun eg3 lr).trans ((up_n (n_lr_rw)).trans (lr1))
          have H3_lb := (congrFun eg3 lb).trans ((up_n (n_lb_rw)).trans (bg1.1))
          have H3_lca := (congrFun eg3 lca).trans ((up_n (n_lca_rw)).trans (bg1.2.1))
          have H3_loa := (congrFun eg3 loa).trans ((up_n (n_loa_rw)).trans (bg1.2.2))
          have H3_b := (congrFun eg3 b).trans ((up_n (n_b_rw)).trans (iB1.1))
          have bg3 : isBag (xK X) g3 lb lca loa L.length lf lt := ⟨H3_lb, H3_lca, H3_loa⟩
          refine j_aload_n hX dX3_makeInto_64 3 rfl ?_
          refine j_get (v := .ref rw) hX H3_v rfl wf_X3 3 (by decide) lk_X3_40 (fun z h => u_same (hX.ts _ wz_14) z h) rfl dX3_makeInto_65 ?_
          refine j_aload_n hX dX3_makeInto_68 3 rfl ?_
          refine j_get (v := .int (-1)) hX H3_v rfl wf_X3 4 (by decide) lk_X3_9 (fun _ h => h) rfl dX3_makeInto_69 ?_
          refine j_iconst (v := (-1)) hX dX3_makeInto_72 (by decide) ?_
          refine j_icmp_ne hX 80 dX3_makeInto_73 (by decide) (fun c_73 => absurd c_73 (show ¬ ¬ (-1 : Int32) = -1 from fun q => q rfl)) (fun _ => ?_)
          refine j_iconst (v := nI 0) hX dX3_makeInto_76 (by decide) ?_
          refine j_goto hX 81 dX3_makeInto_77 (by decide) ?_
          refine j_aload_n hX dX3_makeInto_81 3 rfl ?_
          refine j_aload_n hX dX3_makeInto_82 2 rfl ?_
          refine j_iload hX dX3_makeInto_83 0 rfl ?_
          refine j_callV (As := [.ref lb, .int (nI k)]) (rest := [.int (nI 0), .ref rw]) hX (c_X3_valueFrom (xl X) (xK X) g3 v lr rr rw dp none st c H3_v lb lca loa L lf lt bg3 hLr gL hby hst hc4 k hk9) H3_v rfl lk_X3_48 wI_X3_valueFrom wV_X3_X3_valueFrom wN_X3 wC_X3_valueFrom hd_X3_valueFrom rfl (by rw [hL]; decide) (by decide) rfl (Nat.le_of_ble_eq_true rfl) dX3_makeInto_85 (by rw [hR]; decide) (by rw [hR]; decide) jx_no ?_
          rintro _ _ ⟨rfl, rfl⟩
          show J X 0 0 g3 88 [(4, .int (nI k)), (3, .int 1), (2, .ref lb), (0, .ref v), (1, .ref b)] [.int (valueG none st c L k), .int (nI 0), .ref rw]
          refine j_iastN hX H3_rw (0) (rfl) (by omega) (by decide) dX3_makeInto_88 ?_
          obtain ⟨g4, eg4⟩ : ∃ z : Wd, z = up g3 rw (aI (xK X) 4 (upd (upd rf1 (0) 0) (0) (valueG none st c L k))) := ⟨_, rfl⟩
          refine j_w eg4.symm ?_
          have H4_v := (congrFun eg4 v).trans ((up_n (n_v_rw)).trans (H3_v))
          have H4_rw : g4 rw = some (aI (xK X) 4 (upd (upd rf1 (0) 0) (0) (valueG none st c L k))) := by rw [eg4]; exact up_s _ _ _
          have H4_lr := (congrFun eg4 lr).trans ((up_n (n_lr_rw)).trans (H3_lr))
          have H4_lb := (congrFun eg4 lb).trans ((up_n (n_lb_rw)).trans (H3_lb))
          have H4_lca := (congrFun eg4 lca).trans ((up_n (n_lca_rw)).trans (H3_lca))
          have H4_loa := (congrFun eg4 loa).trans ((up_n (n_loa_rw)).trans (H3_loa))
          have H4_b := (congrFun eg4 b).trans ((up_n (n_b_rw)).trans (H3_b))
          have hF4 : Fr g1 g4 [rw] := fun q hq => by rw [eg4, up_n (by simpa using hq), eg3, up_n (by simpa using hq)]
          have iR4 := bagR.at hI1 hF4 (nm1 n_b_rw) (nm1 n_ca_rw) (nm1 n_oa_rw)
          obtain ⟨if4, it4, iB4, iRp4⟩ := id iR4
          have hI4 : rowI none (upd (upd rf1 0 0) 0 (valueG none st c L k)) := ⟨by rw [pk_un (by decide), pk_un (by decide)]; exact hIr1.1, by rw [pk_un (by decide), pk_un (by decide)]; exact hIr1.2.1, fun _ => by rw [pk_un (by decide), pk_un (by decide)]; exact hIr1.2.2 rfl⟩
          have hrow : rowAt (upd (upd rf1 0 0) 0 (valueG none st c L k)) 0 = growG none st c L k := rowAt_f (fun j hj => by
            rcases (show j = 0 ∨ j = 1 ∨ j = 2 ∨ j = 3 by omega) with rfl | rfl | rfl | rfl
            · exact pk_us
            · exact hI4.2.2 rfl
            · exact hI4.1
            · exact hI4.2.1)
          refine j_aload_n hX dX3_makeInto_89 4 rfl ?_
          refine j_aload_n hX dX3_makeInto_90 3 rfl ?_
          refine j_get (v := .ref rw) hX H4_v rfl wf_X3 3 (by decide) lk_X3_40 (fun z h => u_same (hX.ts _ wz_14) z h) rfl dX3_makeInto_91 ?_
          refine j_lconst (v := 1) hX dX3_makeInto_94 (by decide) ?_
          refine j_callV (As := [.ref rw, .long 1]) (rest := []) hX (c_X0_add (xl X) (xK X) g4 b ca oa acc iR4 hGa rw _ H4_rw 1 1 (by decide) (by decide) (by decide)) H4_b rfl lk_X3_52 wI_X0_add wV_X0_X0_add wN_X0 wC_X0_add hd_X0_add rfl (by rw [hL]; decide) (by decide) rfl (Nat.le_of_ble_eq_true rfl) dX3_makeInto_95 (by rw [hR]; decide) (by rw [hR]; decide) jx_no ?_
          intro v9 g5 h9
          rw [hrow] at h9
          rcases h8 : addB (growG none st c L k) 1 acc with _ | B9
          · rw [h8] at h9
            obtain ⟨rfl, rfl⟩ := h9
            show J X 0 0 g4 98 [(4, .int (nI k)), (3, .int 1), (2, .ref lb), (0, .ref v), (1, .ref b)] [.int 0]
            refine j_istore_n (lv' := [(3, .int 0), (4, .int (nI k)), (2, .ref lb), (0, .ref v), (1, .ref b)]) hX dX3_makeInto_98 (by rw [hn]; decide) rfl ?_
            refine j_iinc (v := nI (k + 1)) (lv' := [(4, .int (nI (k + 1))), (3, .int 0), (2, .ref lb), (0, .ref v), (1, .ref b)]) hX dX3_makeInto_99 1 rfl (nI_1 k) (by rw [hn]; decide) rfl ?_
            refine j_goto hX 13 dX3_makeInto_102 (by decide) ?_
            refine j_iload hX dX3_makeInto_13 0 rfl ?_
            refine j_aload_n hX dX3_makeInto_15 2 rfl ?_
            refine j_getN (v := .int (nI L.length)) hX H4_lb rfl wf_X0 2 (by decide) nk_X3_31 (fun _ h => h) rfl dX3_makeInto_16 ?_
            refine j_icmp_ge hX 105 dX3_makeInto_19 (by decide) (fun c_19 => ?_) (fun c_19 => ?_)
            · refine j_iload_n hX dX3_makeInto_105 1 rfl ?_
              exact j_zret hX hE dX3_makeInto_106 (by first | rfl | decide | assumption) (⟨fr2 hF hF4, ⟨_, H4_rw, hI4⟩, by rw [← hRs, gr_no hk9 (b01_t c_33) h8]; exact ⟨rfl, _, _, _, iB4⟩⟩) (by decide) (by decide)
            · refine j_iload_n hX dX3_makeInto_22 1 rfl ?_
              refine j_if_eq hX 105 dX3_makeInto_23 (by decide) (fun _ => ?_) (fun c_23 => absurd (show (0 : Int32) = 0 from rfl) c_23)
              refine j_iload_n hX dX3_makeInto_105 1 rfl ?_
              exact j_zret hX hE dX3_makeInto_106 (by first | rfl | decide | assumption) (⟨fr2 hF hF4, ⟨_, H4_rw, hI4⟩, by rw [← hRs, gr_no hk9 (b01_t c_33) h8]; exact ⟨rfl, _, _, _, iB4⟩⟩) (by decide) (by decide)
          · rw [h8] at h9
            obtain ⟨rfl, hB5, hF5⟩ := h9
            show J X 0 0 g5 98 [(4, .int (nI k)), (3, .int 1), (2, .ref lb), (0, .ref v), (1, .ref b)] [.int 1]
            refine j_istore_n (lv' := [(3, .int 1), (4, .int (nI k)), (2, .ref lb), (0, .ref v), (1, .ref b)]) hX dX3_makeInto_98 (by rw [hn]; decide) rfl ?_
            refine j_iinc (v := nI (k + 1)) (lv' := [(4, .int (nI (k + 1))), (3, .int 1), (2, .ref lb), (0, .ref v), (1, .ref b)]) hX dX3_makeInto_99 1 rfl (nI_1 k) (by rw [hn]; decide) rfl ?_
            refine j_goto hX 13 dX3_makeInto_102 (by decide) ?_
            refine j_sub [0, 1, 2, 3, 4] rfl ?_
            exact ih (k + 1) g5 B9 (by omega) (fr3 hF hF4 hF5) hB5 (addB_good hGa h8) ⟨_, Fr.at hF5 H4_rw (nm3 n_b_rw.symm n_ca_rw.symm n_oa_rw.symm), hI4⟩ (by rw [← hRs, gr_yes hk9 (b01_t c_33) h8])
      · have hcb : cb < 4 := hby cb rfl
        refine j_iload hX dX3_makeInto_13 0 rfl ?_
        refine j_aload_n hX dX3_makeInto_15 2 rfl ?_
        refine j_getN (v := .int (nI L.length)) hX bg1.1 rfl wf_X0 2 (by decide) nk_X3_31 (fun _ h => h) rfl dX3_makeInto_16 ?_
        refine j_icmp_ge hX 105 dX3_makeInto_19 (by decide) (fun c_19 => absurd c_19 (nI_ge (a := k) (b := L.length) (by omega) (by omega))) (fun _ => ?_)
        refine j_iload_n hX dX3_makeInto_22 1 rfl ?_
        refine j_if_eq hX 105 dX3_makeInto_23 (by decide) (fun c_23 => absurd c_23 (show ¬ (1 : Int32) = 0 by decide)) (fun _ => ?_)
        refine j_aload_n hX dX3_makeInto_26 3 rfl ?_
        refine j_aload_n hX dX3_makeInto_27 2 rfl ?_
        refine j_iload hX dX3_makeInto_28 0 rfl ?_
        refine j_callV (As := [.ref lb, .int (nI k)]) (rest := []) hX (c_X3_isFirst (xl X) (xK X) g1 v lr rr rw dp (some cb) st c v1 lb lca loa L lf lt bg1 hLr gL hby k hk9) v1 rfl lk_X3_36 wI_X3_isFirst wV_X3_X3_isFirst wN_X3 wC_X3_isFirst hd_X3_isFirst rfl (by rw [hL]; decide) (by decide) rfl (Nat.le_of_ble_eq_true rfl) dX3_makeInto_30 (by rw [hR]; decide) (by rw [hR]; decide) jx_no ?_
        rintro _ _ ⟨rfl, rfl⟩
        show J X 0 0 g1 33 [(4, .int (nI k)), (3, .int 1), (2, .ref lb), (0, .ref v), (1, .ref b)] [.int (b01 (firstG (some cb) L k))]
        refine j_if_eq hX 99 dX3_makeInto_33 (by decide) (fun c_33 => ?_) (fun c_33 => ?_)
        · refine j_iinc (v := nI (k + 1)) (lv' := [(4, .int (nI (k + 1))), (3, .int 1), (2, .ref lb), (0, .ref v), (1, .ref b)]) hX dX3_makeInto_99 0 rfl (nI_1 k) (by rw [hn]; decide) rfl ?_
          refine j_goto hX 13 dX3_makeInto_102 (by decide) ?_
          refine j_sub [0, 1, 2, 3, 4] rfl ?_
          exact ih (k + 1) g1 acc (by omega) hF hI1 hGa ⟨rf1, rw1, hIr1⟩ (by rw [← hRs, gr_skip hk9 (b01_f c_33)])
        · refine j_aload_n hX dX3_makeInto_36 3 rfl ?_
          refine j_get (v := .ref rw) hX v1 rfl wf_X3 3 (by decide) lk_X3_40 (fun z h => u_same (hX.ts _ wz_14) z h) rfl dX3_makeInto_37 ?_
          refine j_iconst (v := nI 0) hX dX3_makeInto_40 (by decide) ?_
          refine j_aload_n hX dX3_makeInto_41 3 rfl ?_
          refine j_get (v := .int (nI cb)) hX v1 rfl wf_X3 4 (by decide) lk_X3_9 (fun _ h => h) rfl dX3_makeInto_42 ?_
          refine j_iconst (v := (-1)) hX dX3_makeInto_45 (by decide) ?_
          refine j_icmp_ne hX 53 dX3_makeInto_46 (by decide) (fun _ => ?_) (fun c_46 => absurd c_46 (nI_m1ne (c := cb) (by omega)))
          refine j_aload_n hX dX3_makeInto_53 2 rfl ?_
          refine j_iload hX dX3_makeInto_54 0 rfl ?_
          refine j_aload_n hX dX3_makeInto_56 3 rfl ?_
          refine j_get (v := .int (nI cb)) hX v1 rfl wf_X3 4 (by decide) lk_X3_9 (fun _ h => h) rfl dX3_makeInto_57 ?_
          refine j_callV (As := [.int (nI k), .int (nI cb)]) (rest := [.int (nI 0), .ref rw]) hX (c_X0_cellAt (xl X) (xK X) g1 lb lca loa L.length lf lt bg1 k cb (by omega) hcb) bg1.1 rfl lk_X3_44 wI_X0_cellAt wV_X0_X0_cellAt wN_X0 wC_X0_cellAt hd_X0_cellAt rfl (by rw [hL]; decide) (by decide) rfl (Nat.le_of_ble_eq_true rfl) dX3_makeInto_60 (by rw [hR]; decide) (by rw [hR]; decide) jx_no ?_
          rintro _ _ ⟨rfl, rfl⟩
          show J X 0 0 g1 63 [(4, .int (nI k)), (3, .int 1), (2, .ref lb), (0, .ref v), (1, .ref b)] [.int (lf (4 * k + cb)), .int (nI 0), .ref rw]
          refine j_eqi (y := cellR (L[k]).1 cb) (rep_cell hLr hk9 hcb) ?_
          refine j_iastN hX rw1 (0) (rfl) (by omega) (by decide) dX3_makeInto_63 ?_
          obtain ⟨g3, eg3⟩ : ∃ z : Wd, z = up g1 rw (aI (xK X) 4 (upd rf1 (0) (cellR (L[k]).1 cb))) := ⟨_, rfl⟩
          refine j_w eg3.symm ?_
          have H3_v := (congrFun eg3 v).trans ((up_n (n_v_rw)).trans (v1))
          have H3_rw : g3 rw = some (aI (xK X) 4 (upd rf1 (0) (cellR (L[k]).1 cb))) := by rw [eg3]; exact up_s _ _ _
          have H3_lr := (congrFun eg3 lr).trans ((up_n (n_lr_rw)).trans (lr1))
          have H3_lb := (congrFun eg3 lb).trans ((up_n (n_lb_rw)).trans (bg1.1))
          have H3_lca := (congrFun eg3 lca).trans ((up_n (n_lca_rw)).trans (bg1.2.1))
          have H3_loa := (congrFun eg3 loa).trans ((up_n (n_loa_rw)).trans (bg1.2.2))
          have H3_b := (congrFun eg3 b).trans ((up_n (n_b_rw)).trans (iB1.1))
          have bg3 : isBag (xK X) g3 lb lca loa L.length lf lt := ⟨H3_lb, H3_lca, H3_loa⟩
          refine j_aload_n hX dX3_makeInto_64 3 rfl ?_
          refine j_get (v := .ref rw) hX H3_v rfl wf_X3 3 (by decide) lk_X3_40 (fun z h => u_same (hX.ts _ wz_14) z h) rfl dX3_makeInto_65 ?_
          refine j_aload_n hX dX3_makeInto_68 3 rfl ?_
          refine j_get (v := .int (nI cb)) hX H3_v rfl wf_X3 4 (by decide) lk_X3_9 (fun _ h => h) rfl dX3_makeInto_69 ?_
          refine j_iconst (v := (-1)) hX dX3_makeInto_72 (by decide) ?_
          refine j_icmp_ne hX 80 dX3_makeInto_73 (by decide) (fun _ => ?_) (fun c_73 => absurd c_73 (nI_m1ne (c := cb) (by omega)))
          refine j_iconst (v := nI 1) hX dX3_makeInto_80 (by decide) ?_
          refine j_aload_n hX dX3_makeInto_81 3 rfl ?_
          refine j_aload_n hX dX3_makeInto_82 2 rfl ?_
          refine j_iload hX dX3_makeInto_83 0 rfl ?_
          refine j_callV (As := [.ref lb, .int (nI k)]) (rest := [.int (nI 1), .ref rw]) hX (c_X3_valueFrom (xl X) (xK X) g3 v lr rr rw dp (some cb) st c H3_v lb lca loa L lf lt bg3 hLr gL hby hst hc4 k hk9) H3_v rfl lk_X3_48 wI_X3_valueFrom wV_X3_X3_valueFrom wN_X3 wC_X3_valueFrom hd_X3_valueFrom rfl (by rw [hL]; decide) (by decide) rfl (Nat.le_of_ble_eq_true rfl) dX3_makeInto_85 (by rw [hR]; decide) (by rw [hR]; decide) jx_no ?_
          rintro _ _ ⟨rfl, rfl⟩
          show J X 0 0 g3 88 [(4, .int (nI k)), (3, .int 1), (2, .ref lb), (0, .ref v), (1, .ref b)] [.int (valueG (some cb) st c L k), .int (nI 1), .ref rw]
          refine j_iastN hX H3_rw (1) (rfl) (by omega) (by decide) dX3_makeInto_88 ?_
          obtain ⟨g4, eg4⟩ : ∃ z : Wd, z = up g3 rw (aI (xK X) 4 (upd (upd rf1 (0) (cellR (L[k]).1 cb)) (1) (valueG (some cb) st c L k))) := ⟨_, rfl⟩
          refine j_w eg4.symm ?_
          have H4_v := (congrFun eg4 v).trans ((up_n (n_v_rw)).trans (H3_v))
          have H4_rw : g4 rw = some (aI (xK X) 4 (upd (upd rf1 (0) (cellR (L[k]).1 cb)) (1) (valueG (some cb) st c L k))) := by rw [eg4]; exact up_s _ _ _
          have H4_lr := (congrFun eg4 lr).trans ((up_n (n_lr_rw)).trans (H3_lr))
          have H4_lb := (congrFun eg4 lb).trans ((up_n (n_lb_rw)).trans (H3_lb))
          have H4_lca := (congrFun eg4 lca).trans ((up_n (n_lca_rw)).trans (H3_lca))
          have H4_loa := (congrFun eg4 loa).trans ((up_n (n_loa_rw)).trans (H3_loa))
          have H4_b := (congrFun eg4 b).trans ((up_n (n_b_rw)).trans (H3_b))
          have hF4 : Fr g1 g4 [rw] := fun q hq => by rw [eg4, up_n (by simpa using hq), eg3, up_n (by simpa using hq)]
          have iR4 := bagR.at hI1 hF4 (nm1 n_b_rw) (nm1 n_ca_rw) (nm1 n_oa_rw)
          obtain ⟨if4, it4, iB4, iRp4⟩ := id iR4
          have hI4 : rowI (some cb) (upd (upd rf1 0 (cellR (L[k]).1 cb)) 1 (valueG (some cb) st c L k)) := ⟨by rw [pk_un (by decide), pk_un (by decide)]; exact hIr1.1, by rw [pk_un (by decide), pk_un (by decide)]; exact hIr1.2.1, fun q => by cases q⟩
          have hrow : rowAt (upd (upd rf1 0 (cellR (L[k]).1 cb)) 1 (valueG (some cb) st c L k)) 0 = growG (some cb) st c L k := rowAt_f (fun j hj => by
            rcases (show j = 0 ∨ j = 1 ∨ j = 2 ∨ j = 3 by omega) with rfl | rfl | rfl | rfl
            · rw [pk_un (by decide), pk_us]; show _ = cellR (rowG L k) cb; rw [rowG_at hk9]
            · exact pk_us
            · exact hI4.1
            · exact hI4.2.1)
          refine j_aload_n hX dX3_makeInto_89 4 rfl ?_
          refine j_aload_n hX dX3_makeInto_90 3 rfl ?_
          refine j_get (v := .ref rw) hX H4_v rfl wf_X3 3 (by decide) lk_X3_40 (fun z h => u_same (hX.ts _ wz_14) z h) rfl dX3_makeInto_91 ?_
          refine j_lconst (v := 1) hX dX3_makeInto_94 (by decide) ?_
          refine j_callV (As := [.ref rw, .long 1]) (rest := []) hX (c_X0_add (xl X) (xK X) g4 b ca oa acc iR4 hGa rw _ H4_rw 1 1 (by decide) (by decide) (by decide)) H4_b rfl lk_X3_52 wI_X0_add wV_X0_X0_add wN_X0 wC_X0_add hd_X0_add rfl (by rw [hL]; decide) (by decide) rfl (Nat.le_of_ble_eq_true rfl) dX3_makeInto_95 (by rw [hR]; decide) (by rw [hR]; decide) jx_no ?_
          intro v9 g5 h9
          rw [hrow] at h9
          rcases h8 : addB (growG (some cb) st c L k) 1 acc with _ | B9
          · rw [h8] at h9
            obtain ⟨rfl, rfl⟩ := h9
            show J X 0 0 g4 98 [(4, .int (nI k)), (3, .int 1), (2, .ref lb), (0, .ref v), (1, .ref b)] [.int 0]
            refine j_istore_n (lv' := [(3, .int 0), (4, .int (nI k)), (2, .ref lb), (0, .ref v), (1, .ref b)]) hX dX3_makeInto_98 (by rw [hn]; decide) rfl ?_
            refine j_iinc (v := nI (k + 1)) (lv' := [(4, .int (nI (k + 1))), (3, .int 0), (2, .ref lb), (0, .ref v), (1, .ref b)]) hX dX3_makeInto_99 1 rfl (nI_1 k) (by rw [hn]; decide) rfl ?_
            refine j_goto hX 13 dX3_makeInto_102 (by decide) ?_
            refine j_iload hX dX3_makeInto_13 0 rfl ?_
            refine j_aload_n hX dX3_makeInto_15 2 rfl ?_
            refine j_getN (v := .int (nI L.length)) hX H4_lb rfl wf_X0 2 (by decide) nk_X3_31 (fun _ h => h) rfl dX3_makeInto_16 ?_
            refine j_icmp_ge hX 105 dX3_makeInto_19 (by decide) (fun c_19 => ?_) (fun c_19 => ?_)
            · refine j_iload_n hX dX3_makeInto_105 1 rfl ?_
              exact j_zret hX hE dX3_makeInto_106 (by first | rfl | decide | assumption) (⟨fr2 hF hF4, ⟨_, H4_rw, hI4⟩, by rw [← hRs, gr_no hk9 (b01_t c_33) h8]; exact ⟨rfl, _, _, _, iB4⟩⟩) (by decide) (by decide)
            · refine j_iload_n hX dX3_makeInto_22 1 rfl ?_
              refine j_if_eq hX 105 dX3_makeInto_23 (by decide) (fun _ => ?_) (fun c_23 => absurd (show (0 : Int32) = 0 from rfl) c_23)
              refine j_iload_n hX dX3_makeInto_105 1 rfl ?_
              exact j_zret hX hE dX3_makeInto_106 (by first | rfl | decide | assumption) (⟨fr2 hF hF4, ⟨_, H4_rw, hI4⟩, by rw [← hRs, gr_no hk9 (b01_t c_33) h8]; exact ⟨rfl, _, _, _, iB4⟩⟩) (by decide) (by decide)
          · rw [h8] at h9
            obtain ⟨rfl, hB5, hF5⟩ := h9
            show J X 0 0 g5 98 [(4, .int (nI k)), (3, .int 1), (2, .ref lb), (0, .ref v), (1, .ref b)] [.int 1]
            refine j_istore_n (lv' := [(3, .int 1), (4, .int (nI k)), (2, .ref lb), (0, .ref v), (1, .ref b)]) hX dX3_makeInto_98 (by rw [hn]; decide) rfl ?_
            refine j_iinc (v := nI (k + 1)) (lv' := [(4, .int (nI (k + 1))), (3, .int 1), (2, .ref lb), (0, .ref v), (1, .ref b)]) hX dX3_makeInto_99 1 rfl (nI_1 k) (by rw [hn]; decide) rfl ?_
            refine j_goto hX 13 dX3_makeInto_102 (by decide) ?_
            refine j_sub [0, 1, 2, 3, 4] rfl ?_
            exact ih (k + 1) g5 B9 (by omega) (fr3 hF hF4 hF5) hB5 (addB_good hGa h8) ⟨_, Fr.at hF5 H4_rw (nm3 n_b_rw.symm n_ca_rw.symm n_oa_rw.symm), hI4⟩ (by rw [← hRs, gr_yes hk9 (b01_t c_33) h8])
  refine j_aload_n hX dX3_makeInto_0 0 rfl ?_
  refine j_get (v := .ref lr) hX hv rfl wf_X3 0 (by decide) lk_X3_21 (fun z h => u_same (hX.ts _ wz_13) z h) rfl dX3_makeInto_1 ?_
  refine j_callV (As := []) (rest := []) hX (c_X6_latest (xl X) (xK X) g lr nw nx p vw cc ch hlr hp) hlr rfl lk_X3_25 wI_X6_latest wV_X6_X6_latest wN_X6 wC_X6_latest hd_X6_latest rfl (by rw [hL]; decide) (by decide) rfl (Nat.le_of_ble_eq_true rfl) dX3_makeInto_4 (by rw [hR]; decide) (by rw [hR]; decide) jx_no ?_
  rintro _ _ ⟨rfl, rfl⟩
  rw [hlb]
  show J X 0 0 g 7 [(0, .ref v), (1, .ref b)] [.ref lb]
  refine j_astore_n (lv' := [(2, .ref lb), (0, .ref v), (1, .ref b)]) hX dX3_makeInto_7 (by rw [hn]; decide) rfl ?_
  refine j_iconst (v := 1) hX dX3_makeInto_8 (by decide) ?_
  refine j_istore_n (lv' := [(3, .int 1), (2, .ref lb), (0, .ref v), (1, .ref b)]) hX dX3_makeInto_9 (by rw [hn]; decide) rfl ?_
  refine j_iconst (v := nI 0) hX dX3_makeInto_10 (by decide) ?_
  refine j_istore (lv' := [(4, .int (nI 0)), (3, .int 1), (2, .ref lb), (0, .ref v), (1, .ref b)]) hX dX3_makeInto_11 (by rw [hn]; decide) rfl ?_
  refine j_sub [0, 1, 2, 3, 4] rfl ?_
  exact loop L.length 0 g [] (by omega) (Fr.rf _ _) hI good_nil ⟨_, hrw, hri⟩ rfl
end
section
set_option maxRecDepth 20000 in
set_option maxHeartbeats 600000 in
/-- begin(columns, view) -/
theorem c_X6_begin_n (l : Launch) (K : Cst) (g : Wd) (r nw nx : Nat) (w pd ch : Int32) (vw : Value) (co : Int32) (hr : g r = some (ob 6 [.ref nw, .ref nx, vw, .int w, .int pd, .int ch])) : Ct l K yX6_begin cX6_begin 3 none 0 [.ref r, .int co, .null] g (fun v9 g' => v9 = none ∧ up g r (ob 6 [.ref nw, .ref nx, .null, .int co, .int pd, .int 0]) = g') (fun _ _ => False) 0 0 := by
  refine ct_of (by decide) (Nat.le_of_ble_eq_true rfl) ?_
  intro X hl hK hX hE hn hL hR hm
  subst hl; subst hK
  show J X 0 0 g 0 [(0, .ref r), (1, .int co), (2, .null)] []
  refine j_aload_n hX dX6_begin_0 0 rfl ?_
  refine j_iload_n hX dX6_begin_1 1 rfl ?_
  refine j_put hX hr rfl wf_X6 tyX6_ok nmX6 3 (by decide) lk_X6_23 (fun _ h => h) rfl (tyX6_ok 3 (by decide)) rfl rfl (Nat.le_of_ble_eq_true rfl) dX6_begin_2 ?_
  obtain ⟨g1, eg1⟩ : ∃ z : Wd, z = up g r (ob 6 [.ref nw, .ref nx, vw, .int co, .int pd, .int ch]) := ⟨_, rfl⟩
  refine j_w eg1.symm ?_
  have k1_r : g1 r = some (ob 6 [.ref nw, .ref nx, vw, .int co, .int pd, .int ch]) := by rw [eg1]; exact up_s _ _ _
  refine j_aload_n hX dX6_begin_5 0 rfl ?_
  refine j_aload_nN hX dX6_begin_6 2 rfl ?_
  refine j_put hX k1_r rfl wf_X6 tyX6_ok nmX6 2 (by decide) lk_X6_19 (fun _ h => h) rfl (tyX6_ok 2 (by decide)) rfl rfl (Nat.le_of_ble_eq_true rfl) dX6_begin_7 ?_
  obtain ⟨g2, eg2⟩ : ∃ z : Wd, z = up g1 r (ob 6 [.ref nw, .ref nx, .null, .int co, .int pd, .int ch]) := ⟨_, rfl⟩
  refine j_w eg2.symm ?_
  have k2_r : g2 r = some (ob 6 [.ref nw, .ref nx, .null, .int co, .int pd, .int ch]) := by rw [eg2]; exact up_s _ _ _
  refine j_aload_n hX dX6_begin_10 0 rfl ?_
  refine j_iconst (v := 0) hX dX6_begin_11 (by decide) ?_
  refine j_put hX k2_r rfl wf_X6 tyX6_ok nmX6 5 (by decide) lk_X6_30 (fun _ h => h) rfl (tyX6_ok 5 (by decide)) rfl rfl (Nat.le_of_ble_eq_true rfl) dX6_begin_12 ?_
  obtain ⟨g3, eg3⟩ : ∃ z : Wd, z = up g2 r (ob 6 [.ref nw, .ref nx, .null, .int co, .int pd, .int 0]) := ⟨_, rfl⟩
  refine j_w eg3.symm ?_
  have k3_r : g3 r = some (ob 6 [.ref nw, .ref nx, .null, .int co, .int pd, .int 0]) := by rw [eg3]; exact up_s _ _ _
  exact j_vret hX hE dX6_begin_15 (⟨rfl, by rw [eg3, eg2, up_up, eg1, up_up]⟩) (by decide) (by decide)

set_option maxRecDepth 20000 in
set_option maxHeartbeats 600000 in
/-- begin(columns, view) -/
theorem c_X6_begin_r (l : Launch) (K : Cst) (g : Wd) (r nw nx : Nat) (w pd ch : Int32) (vw : Value) (co : Int32) (v : Nat) (hr : g r = some (ob 6 [.ref nw, .ref nx, vw, .int w, .int pd, .int ch])) : Ct l K yX6_begin cX6_begin 3 none 0 [.ref r, .int co, .ref v] g (fun v9 g' => v9 = none ∧ up g r (ob 6 [.ref nw, .ref nx, .ref v, .int co, .int pd, .int 0]) = g') (fun _ _ => False) 0 0 := by
  refine ct_of (by decide) (Nat.le_of_ble_eq_true rfl) ?_
  intro X hl hK hX hE hn hL hR hm
  subst hl; subst hK
  show J X 0 0 g 0 [(0, .ref r), (1, .int co), (2, .ref v)] []
  refine j_aload_n hX dX6_begin_0 0 rfl ?_
  refine j_iload_n hX dX6_begin_1 1 rfl ?_
  refine j_put hX hr rfl wf_X6 tyX6_ok nmX6 3 (by decide) lk_X6_23 (fun _ h => h) rfl (tyX6_ok 3 (by decide)) rfl rfl (Nat.le_of_ble_eq_true rfl) dX6_begin_2 ?_
  obtain ⟨g1, eg1⟩ : ∃ z : Wd, z = up g r (ob 6 [.ref nw, .ref nx, vw, .int co, .int pd, .int ch]) := ⟨_, rfl⟩
  refine j_w eg1.symm ?_
  have k1_r : g1 r = some (ob 6 [.ref nw, .ref nx, vw, .int co, .int pd, .int ch]) := by rw [eg1]; exact up_s _ _ _
  refine j_aload_n hX dX6_begin_5 0 rfl ?_
  refine j_aload_n hX dX6_begin_6 2 rfl ?_
  refine j_put hX k1_r rfl wf_X6 tyX6_ok nmX6 2 (by decide) lk_X6_19 (fun _ h => h) rfl (tyX6_ok 2 (by decide)) rfl rfl (Nat.le_of_ble_eq_true rfl) dX6_begin_7 ?_
  obtain ⟨g2, eg2⟩ : ∃ z : Wd, z = up g1 r (ob 6 [.ref nw, .ref nx, .ref v, .int co, .int pd, .int ch]) := ⟨_, rfl⟩
  refine j_w eg2.symm ?_
  have k2_r : g2 r = some (ob 6 [.ref nw, .ref nx, .ref v, .int co, .int pd, .int ch]) := by rw [eg2]; exact up_s _ _ _
  refine j_aload_n hX dX6_begin_10 0 rfl ?_
  refine j_iconst (v := 0) hX dX6_begin_11 (by decide) ?_
  refine j_put hX k2_r rfl wf_X6 tyX6_ok nmX6 5 (by decide) lk_X6_30 (fun _ h => h) rfl (tyX6_ok 5 (by decide)) rfl rfl (Nat.le_of_ble_eq_true rfl) dX6_begin_12 ?_
  obtain ⟨g3, eg3⟩ : ∃ z : Wd, z = up g2 r (ob 6 [.ref nw, .ref nx, .ref v, .int co, .int pd, .int 0]) := ⟨_, rfl⟩
  refine j_w eg3.symm ?_
  have k3_r : g3 r = some (ob 6 [.ref nw, .ref nx, .ref v, .int co, .int pd, .int 0]) := by rw [eg3]; exact up_s _ _ _
  exact j_vret hX hE dX6_begin_15 (⟨rfl, by rw [eg3, eg2, up_up, eg1, up_up]⟩) (by decide) (by decide)

set_option maxRecDepth 20000 in
set_option maxHeartbeats 600000 in
/-- end() -/
theorem c_X6_end (l : Launch) (K : Cst) (g : Wd) (r nw nx : Nat) (w pd ch : Int32) (vw : Value) (hr : g r = some (ob 6 [.ref nw, .ref nx, vw, .int w, .int pd, .int ch])) : Ct l K yX6_end cX6_end 1 none 0 [.ref r] g (fun v9 g' => v9 = none ∧ up g r (ob 6 [.ref nw, .ref nx, .null, .int 0, .int pd, .int ch]) = g') (fun _ _ => False) 0 0 := by
  refine ct_of (by decide) (Nat.le_of_ble_eq_true rfl) ?_
  intro X hl hK hX hE hn hL hR hm
  subst hl; subst hK
  show J X 0 0 g 0 [(0, .ref r)] []
  refine j_aload_n hX dX6_end_0 0 rfl ?_
  refine j_iconst (v := 0) hX dX6_end_1 (by decide) ?_
  refine j_put hX hr rfl wf_X6 tyX6_ok nmX6 3 (by decide) lk_X6_23 (fun _ h => h) rfl (tyX6_ok 3 (by decide)) rfl rfl (Nat.le_of_ble_eq_true rfl) dX6_end_2 ?_
  obtain ⟨g1, eg1⟩ : ∃ z : Wd, z = up g r (ob 6 [.ref nw, .ref nx, vw, .int 0, .int pd, .int ch]) := ⟨_, rfl⟩
  refine j_w eg1.symm ?_
  have k1_r : g1 r = some (ob 6 [.ref nw, .ref nx, vw, .int 0, .int pd, .int ch]) := by rw [eg1]; exact up_s _ _ _
  refine j_aload_n hX dX6_end_5 0 rfl ?_
  refine j_null hX dX6_end_6 ?_
  refine j_put hX k1_r rfl wf_X6 tyX6_ok nmX6 2 (by decide) lk_X6_19 (fun _ h => h) rfl (tyX6_ok 2 (by decide)) rfl rfl (Nat.le_of_ble_eq_true rfl) dX6_end_7 ?_
  obtain ⟨g2, eg2⟩ : ∃ z : Wd, z = up g1 r (ob 6 [.ref nw, .ref nx, .null, .int 0, .int pd, .int ch]) := ⟨_, rfl⟩
  refine j_w eg2.symm ?_
  have k2_r : g2 r = some (ob 6 [.ref nw, .ref nx, .null, .int 0, .int pd, .int ch]) := by rw [eg2]; exact up_s _ _ _
  exact j_vret hX hE dX6_end_10 (⟨rfl, by rw [eg2, eg1, up_up]⟩) (by decide) (by decide)

set_option maxRecDepth 20000 in
set_option maxHeartbeats 600000 in
/-- isThere() -/
theorem c_X6_isThere (l : Launch) (K : Cst) (g : Wd) (r nw nx w : Nat) (pd ch : Int32) (vw : Value) (hw : w < 2 ^ 31) (hr : g r = some (ob 6 [.ref nw, .ref nx, vw, .int (nI w), .int pd, .int ch])) : Ct l K yX6_isThere cX6_isThere 1 (some .boolean) 0 [.ref r] g (fun v g' => v = some (.int (b01 (decide (0 < w)))) ∧ g = g') (fun _ _ => False) 0 0 := by
  refine ct_of (by decide) (Nat.le_of_ble_eq_true rfl) ?_
  intro X hl hK hX hE hn hL hR hm
  subst hl; subst hK
  show J X 0 0 g 0 [(0, .ref r)] []
  refine j_aload_n hX dX6_isThere_0 0 rfl ?_
  refine j_get (v := .int (nI w)) hX hr rfl wf_X6 3 (by decide) lk_X6_23 (fun _ h => h) rfl dX6_isThere_1 ?_
  refine j_if_le hX 11 dX6_isThere_4 (by decide) (fun c_4 => ?_) (fun c_4 => ?_)
  · have c4 : ¬ 0 < w := fun q => nI_nle q hw c_4
    refine j_iconst (v := 0) hX dX6_isThere_11 (by decide) ?_
    exact j_zret hX hE dX6_isThere_12 (by first | rfl | decide | assumption) (⟨congrArg (fun z => some (Value.int z)) (b01_0 (decide_eq_false c4)), rfl⟩) (by decide) (by decide)
  · have c4 : 0 < w := Nat.pos_of_ne_zero (fun q => c_4 (by rw [q]; decide))
    refine j_iconst (v := 1) hX dX6_isThere_7 (by decide) ?_
    refine j_goto hX 12 dX6_isThere_8 (by decide) ?_
    exact j_zret hX hE dX6_isThere_12 (by first | rfl | decide | assumption) (⟨congrArg (fun z => some (Value.int z)) (b01_1 (decide_eq_true c4)), rfl⟩) (by decide) (by decide)

set_option maxRecDepth 20000 in
set_option maxHeartbeats 600000 in
/-- settle(fits) -/
theorem c_X6_settle_tp (l : Launch) (K : Cst) (g : Wd) (r nw nx : Nat) (w ch : Int32) (vw : Value) (p : Nat) (hp : p < 2 ^ 31) (hp0 : 0 < p) (hr : g r = some (ob 6 [.ref nw, .ref nx, vw, .int w, .int (nI p), .int ch])) : Ct l K yX6_settle cX6_settle 3 none 0 [.ref r, .int 1] g (fun v9 g' => v9 = none ∧ up g r (ob 6 [.ref nx, .ref nw, vw, .int w, .int 0, .int (nI p)]) = g') (fun _ _ => False) 0 0 := by
  refine ct_of (by decide) (Nat.le_of_ble_eq_true rfl) ?_
  intro X hl hK hX hE hn hL hR hm
  subst hl; subst hK
  show J X 0 0 g 0 [(0, .ref r), (1, .int 1)] []
  refine j_iload_n hX dX6_settle_0 1 rfl ?_
  refine j_if_eq hX 12 dX6_settle_1 (by decide) (fun c_1 => absurd c_1 (show ¬ (1 : Int32) = 0 by decide)) (fun _ => ?_)
  refine j_aload_n hX dX6_settle_4 0 rfl ?_
  refine j_aload_n hX dX6_settle_5 0 rfl ?_
  refine j_get (v := .int (nI p)) hX hr rfl wf_X6 4 (by decide) lk_X6_27 (fun _ h => h) rfl dX6_settle_6 ?_
  refine j_put hX hr rfl wf_X6 tyX6_ok nmX6 5 (by decide) lk_X6_30 (fun _ h => h) rfl (tyX6_ok 5 (by decide)) rfl rfl (Nat.le_of_ble_eq_true rfl) dX6_settle_9 ?_
  obtain ⟨g1, eg1⟩ : ∃ z : Wd, z = up g r (ob 6 [.ref nw, .ref nx, vw, .int w, .int (nI p), .int (nI p)]) := ⟨_, rfl⟩
  refine j_w eg1.symm ?_
  have k1_r : g1 r = some (ob 6 [.ref nw, .ref nx, vw, .int w, .int (nI p), .int (nI p)]) := by rw [eg1]; exact up_s _ _ _
  refine j_iload_n hX dX6_settle_12 1 rfl ?_
  refine j_if_eq hX 41 dX6_settle_13 (by decide) (fun c_13 => absurd c_13 (show ¬ (1 : Int32) = 0 by decide)) (fun _ => ?_)
  refine j_aload_n hX dX6_settle_16 0 rfl ?_
  refine j_get (v := .int (nI p)) hX k1_r rfl wf_X6 4 (by decide) lk_X6_27 (fun _ h => h) rfl dX6_settle_17 ?_
  refine j_if_le hX 41 dX6_settle_20 (by decide) (fun c_20 => absurd c_20 (nI_nle hp0 hp)) (fun _ => ?_)
  refine j_aload_n hX dX6_settle_23 0 rfl ?_
  refine j_get (v := .ref nw) hX k1_r rfl wf_X6 0 (by decide) lk_X6_10 (fun _ h => h) rfl dX6_settle_24 ?_
  refine j_astore_n (lv' := [(2, .ref nw), (0, .ref r), (1, .int 1)]) hX dX6_settle_27 (by rw [hn]; decide) rfl ?_
  refine j_aload_n hX dX6_settle_28 1 rfl ?_
  refine j_aload_n hX dX6_settle_29 1 rfl ?_
  refine j_get (v := .ref nx) hX k1_r rfl wf_X6 1 (by decide) lk_X6_16 (fun _ h => h) rfl dX6_settle_30 ?_
  refine j_put hX k1_r rfl wf_X6 tyX6_ok nmX6 0 (by decide) lk_X6_10 (fun _ h => h) rfl (tyX6_ok 0 (by decide)) rfl rfl (Nat.le_of_ble_eq_true rfl) dX6_settle_33 ?_
  obtain ⟨g2, eg2⟩ : ∃ z : Wd, z = up g1 r (ob 6 [.ref nx, .ref nx, vw, .int w, .int (nI p), .int (nI p)]) := ⟨_, rfl⟩
  refine j_w eg2.symm ?_
  have k2_r : g2 r = some (ob 6 [.ref nx, .ref nx, vw, .int w, .int (nI p), .int (nI p)]) := by rw [eg2]; exact up_s _ _ _
  refine j_aload_n hX dX6_settle_36 1 rfl ?_
  refine j_aload_n hX dX6_settle_37 0 rfl ?_
  refine j_put hX k2_r rfl wf_X6 tyX6_ok nmX6 1 (by decide) lk_X6_16 (fun _ h => h) rfl (tyX6_ok 1 (by decide)) rfl rfl (Nat.le_of_ble_eq_true rfl) dX6_settle_38 ?_
  obtain ⟨g3, eg3⟩ : ∃ z : Wd, z = up g2 r (ob 6 [.ref nx, .ref nw, vw, .int w, .int (nI p), .int (nI p)]) := ⟨_, rfl⟩
  refine j_w eg3.symm ?_
  have k3_r : g3 r = some (ob 6 [.ref nx, .ref nw, vw, .int w, .int (nI p), .int (nI p)]) := by rw [eg3]; exact up_s _ _ _
  refine j_aload_n hX dX6_settle_41 1 rfl ?_
  refine j_iconst (v := 0) hX dX6_settle_42 (by decide) ?_
  refine j_put hX k3_r rfl wf_X6 tyX6_ok nmX6 4 (by decide) lk_X6_27 (fun _ h => h) rfl (tyX6_ok 4 (by decide)) rfl rfl (Nat.le_of_ble_eq_true rfl) dX6_settle_43 ?_
  obtain ⟨g4, eg4⟩ : ∃ z : Wd, z = up g3 r (ob 6 [.ref nx, .ref nw, vw, .int w, .int 0, .int (nI p)]) := ⟨_, rfl⟩
  refine j_w eg4.symm ?_
  have k4_r : g4 r = some (ob 6 [.ref nx, .ref nw, vw, .int w, .int 0, .int (nI p)]) := by rw [eg4]; exact up_s _ _ _
  exact j_vret hX hE dX6_settle_46 (⟨rfl, by rw [eg4, eg3, up_up, eg2, up_up, eg1, up_up]⟩) (by decide) (by decide)

set_option maxRecDepth 20000 in
set_option maxHeartbeats 600000 in
/-- settle(fits) -/
theorem c_X6_settle_t0 (l : Launch) (K : Cst) (g : Wd) (r nw nx : Nat) (w ch : Int32) (vw : Value) (p : Nat) (hp : p < 2 ^ 31) (hp0 : p = 0) (hr : g r = some (ob 6 [.ref nw, .ref nx, vw, .int w, .int (nI p), .int ch])) : Ct l K yX6_settle cX6_settle 3 none 0 [.ref r, .int 1] g (fun v9 g' => v9 = none ∧ up g r (ob 6 [.ref nw, .ref nx, vw, .int w, .int 0, .int (nI p)]) = g') (fun _ _ => False) 0 0 := by
  refine ct_of (by decide) (Nat.le_of_ble_eq_true rfl) ?_
  intro X hl hK hX hE hn hL hR hm
  subst hl; subst hK
  show J X 0 0 g 0 [(0, .ref r), (1, .int 1)] []
  refine j_iload_n hX dX6_settle_0 1 rfl ?_
  refine j_if_eq hX 12 dX6_settle_1 (by decide) (fun c_1 => absurd c_1 (show ¬ (1 : Int32) = 0 by decide)) (fun _ => ?_)
  refine j_aload_n hX dX6_settle_4 0 rfl ?_
  refine j_aload_n hX dX6_settle_5 0 rfl ?_
  refine j_get (v := .int (nI p)) hX hr rfl wf_X6 4 (by decide) lk_X6_27 (fun _ h => h) rfl dX6_settle_6 ?_
  refine j_put hX hr rfl wf_X6 tyX6_ok nmX6 5 (by decide) lk_X6_30 (fun _ h => h) rfl (tyX6_ok 5 (by decide)) rfl rfl (Nat.le_of_ble_eq_true rfl) dX6_settle_9 ?_
  obtain ⟨g1, eg1⟩ : ∃ z : Wd, z = up g r (ob 6 [.ref nw, .ref nx, vw, .int w, .int (nI p), .int (nI p)]) := ⟨_, rfl⟩
  refine j_w eg1.symm ?_
  have k1_r : g1 r = some (ob 6 [.ref nw, .ref nx, vw, .int w, .int (nI p), .int (nI p)]) := by rw [eg1]; exact up_s _ _ _
  refine j_iload_n hX dX6_settle_12 1 rfl ?_
  refine j_if_eq hX 41 dX6_settle_13 (by decide) (fun c_13 => absurd c_13 (show ¬ (1 : Int32) = 0 by decide)) (fun _ => ?_)
  refine j_aload_n hX dX6_settle_16 0 rfl ?_
  refine j_get (v := .int (nI p)) hX k1_r rfl wf_X6 4 (by decide) lk_X6_27 (fun _ h => h) rfl dX6_settle_17 ?_
  refine j_if_le hX 41 dX6_settle_20 (by decide) (fun _ => ?_) (fun c_20 => absurd (show nI p ≤ 0 by rw [hp0]; decide) c_20)
  refine j_aload_n hX dX6_settle_41 0 rfl ?_
  refine j_iconst (v := 0) hX dX6_settle_42 (by decide) ?_
  refine j_put hX k1_r rfl wf_X6 tyX6_ok nmX6 4 (by decide) lk_X6_27 (fun _ h => h) rfl (tyX6_ok 4 (by decide)) rfl rfl (Nat.le_of_ble_eq_true rfl) dX6_settle_43 ?_
  obtain ⟨g2, eg2⟩ : ∃ z : Wd, z = up g1 r (ob 6 [.ref nw, .ref nx, vw, .int w, .int 0, .int (nI p)]) := ⟨_, rfl⟩
  refine j_w eg2.symm ?_
  have k2_r : g2 r = some (ob 6 [.ref nw, .ref nx, vw, .int w, .int 0, .int (nI p)]) := by rw [eg2]; exact up_s _ _ _
  exact j_vret hX hE dX6_settle_46 (⟨rfl, by rw [eg2, eg1, up_up]⟩) (by decide) (by decide)

set_option maxRecDepth 20000 in
set_option maxHeartbeats 600000 in
/-- settle(fits) -/
theorem c_X6_settle_f (l : Launch) (K : Cst) (g : Wd) (r nw nx : Nat) (w ch : Int32) (vw : Value) (p : Nat) (hp : p < 2 ^ 31) (hr : g r = some (ob 6 [.ref nw, .ref nx, vw, .int w, .int (nI p), .int ch])) : Ct l K yX6_settle cX6_settle 3 none 0 [.ref r, .int 0] g (fun v9 g' => v9 = none ∧ up g r (ob 6 [.ref nw, .ref nx, vw, .int w, .int 0, .int ch]) = g') (fun _ _ => False) 0 0 := by
  refine ct_of (by decide) (Nat.le_of_ble_eq_true rfl) ?_
  intro X hl hK hX hE hn hL hR hm
  subst hl; subst hK
  show J X 0 0 g 0 [(0, .ref r), (1, .int 0)] []
  refine j_iload_n hX dX6_settle_0 1 rfl ?_
  refine j_if_eq hX 12 dX6_settle_1 (by decide) (fun _ => ?_) (fun c_1 => absurd (show (0 : Int32) = 0 from rfl) c_1)
  refine j_iload_n hX dX6_settle_12 1 rfl ?_
  refine j_if_eq hX 41 dX6_settle_13 (by decide) (fun _ => ?_) (fun c_13 => absurd (show (0 : Int32) = 0 from rfl) c_13)
  refine j_aload_n hX dX6_settle_41 0 rfl ?_
  refine j_iconst (v := 0) hX dX6_settle_42 (by decide) ?_
  refine j_put hX hr rfl wf_X6 tyX6_ok nmX6 4 (by decide) lk_X6_27 (fun _ h => h) rfl (tyX6_ok 4 (by decide)) rfl rfl (Nat.le_of_ble_eq_true rfl) dX6_settle_43 ?_
  obtain ⟨g1, eg1⟩ : ∃ z : Wd, z = up g r (ob 6 [.ref nw, .ref nx, vw, .int w, .int 0, .int ch]) := ⟨_, rfl⟩
  refine j_w eg1.symm ?_
  have k1_r : g1 r = some (ob 6 [.ref nw, .ref nx, vw, .int w, .int 0, .int ch]) := by rw [eg1]; exact up_s _ _ _
  exact j_vret hX hE dX6_settle_46 (⟨rfl, by rw [eg1]⟩) (by decide) (by decide)

set_option maxRecDepth 20000 in
set_option maxHeartbeats 600000 in
/-- depth() of a view -/
theorem c_X6_depth_X1 (l : Launch) (K : Cst) (g : Wd) (r nw nx : Nat) (w pd ch : Int32) (v lr rr rw : Nat) (dp : Int32) (ck : Nat) (hr : g r = some (ob 6 [.ref nw, .ref nx, .ref v, .int w, .int pd, .int ch])) (hv : g v = some (ob 1 [.ref lr, .ref rr, .int dp, .ref rw, .ref ck])) : Ct l K yX6_depth cX6_depth 1 (some .int) 0 [.ref r] g (fun v g' => v = some (.int dp) ∧ g = g') (fun _ _ => False) 0 0 := by
  refine ct_of (by decide) (Nat.le_of_ble_eq_true rfl) ?_
  intro X hl hK hX hE hn hL hR hm
  subst hl; subst hK
  show J X 0 0 g 0 [(0, .ref r)] []
  refine j_aload_n hX dX6_depth_0 0 rfl ?_
  refine j_get (v := .ref v) hX hr rfl wf_X6 2 (by decide) lk_X6_19 (fun _ h => h) rfl dX6_depth_1 ?_
  refine j_ifnonnull_r hX 11 dX6_depth_4 (by decide) ?_
  refine j_aload_n hX dX6_depth_11 0 rfl ?_
  refine j_get (v := .ref v) hX hr rfl wf_X6 2 (by decide) lk_X6_19 (fun _ h => h) rfl dX6_depth_12 ?_
  refine j_get (v := .int dp) hX hv rfl wf_X1 2 (by decide) lk_X6_42 (fun _ h => h) rfl dX6_depth_15 ?_
  exact j_iret hX hE dX6_depth_18 (⟨rfl, rfl⟩) (by decide) (by decide)

set_option maxRecDepth 20000 in
set_option maxHeartbeats 600000 in
/-- isOf(source) of a view -/
theorem c_X6_isOf_X1 (l : Launch) (K : Cst) (g : Wd) (r nw nx : Nat) (w pd ch : Int32) (v lr rr rw sr : Nat) (dp : Int32) (ck : Nat) (hr : g r = some (ob 6 [.ref nw, .ref nx, .ref v, .int w, .int pd, .int ch])) (hv : g v = some (ob 1 [.ref lr, .ref rr, .int dp, .ref rw, .ref ck])) : Ct l K yX6_isOf cX6_isOf 2 (some .boolean) 0 [.ref r, .ref sr] g (fun v g' => v = some (.int (b01 (decide (lr = sr) || decide (rr = sr)))) ∧ g = g') (fun _ _ => False) 0 0 := by
  refine ct_of (by decide) (Nat.le_of_ble_eq_true rfl) ?_
  intro X hl hK hX hE hn hL hR hm
  subst hl; subst hK
  show J X 0 0 g 0 [(0, .ref r), (1, .ref sr)] []
  refine j_aload_n hX dX6_isOf_0 0 rfl ?_
  refine j_get (v := .ref v) hX hr rfl wf_X6 2 (by decide) lk_X6_19 (fun _ h => h) rfl dX6_isOf_1 ?_
  refine j_ifnull_r hX dX6_isOf_4 ?_
  refine j_aload_n hX dX6_isOf_7 0 rfl ?_
  refine j_get (v := .ref v) hX hr rfl wf_X6 2 (by decide) lk_X6_19 (fun _ h => h) rfl dX6_isOf_8 ?_
  refine j_get (v := .ref lr) hX hv rfl wf_X1 0 (by decide) lk_X6_33 (fun _ h => h) rfl dX6_isOf_11 ?_
  refine j_aload_n hX dX6_isOf_14 1 rfl ?_
  refine j_acmp_eq hX 29 dX6_isOf_15 (by decide) (fun c_15 => ?_) (fun c_15 => ?_)
  · refine j_iconst (v := 1) hX dX6_isOf_29 (by decide) ?_
    refine j_goto hX 34 dX6_isOf_30 (by decide) ?_
    exact j_zret hX hE dX6_isOf_34 (by first | rfl | decide | assumption) (⟨congrArg (fun z => some (Value.int z)) (b01_1 (by simp [c_15])), rfl⟩) (by decide) (by decide)
  · refine j_aload_n hX dX6_isOf_18 0 rfl ?_
    refine j_get (v := .ref v) hX hr rfl wf_X6 2 (by decide) lk_X6_19 (fun _ h => h) rfl dX6_isOf_19 ?_
    refine j_get (v := .ref rr) hX hv rfl wf_X1 1 (by decide) lk_X6_39 (fun _ h => h) rfl dX6_isOf_22 ?_
    refine j_aload_n hX dX6_isOf_25 1 rfl ?_
    refine j_acmp_ne hX 33 dX6_isOf_26 (by decide) (fun c_26 => ?_) (fun c_26 => ?_)
    · refine j_iconst (v := 0) hX dX6_isOf_33 (by decide) ?_
      exact j_zret hX hE dX6_isOf_34 (by first | rfl | decide | assumption) (⟨congrArg (fun z => some (Value.int z)) (b01_0 (by simp [c_15, c_26])), rfl⟩) (by decide) (by decide)
    · refine j_iconst (v := 1) hX dX6_isOf_29 (by decide) ?_
      refine j_goto hX 34 dX6_isOf_30 (by decide) ?_
      exact j_zret hX hE dX6_isOf_34 (by first | rfl | decide | assumption) (⟨congrArg (fun z => some (Value.int z)) (b01_1 (by simp [c_26])), rfl⟩) (by decide) (by decide)

set_option maxRecDepth 20000 in
set_option maxHeartbeats 600000 in
/-- isTouched() -/
theorem c_X9_isTouched_X1 (l : Launch) (K : Cst) (g : Wd) (v lr rr rw nw nx nwB nxB p pB : Nat) (vw vwB : Value) (w ch wB chB dp : Int32) (ck : Nat) (hv : g v = some (ob 1 [.ref lr, .ref rr, .int dp, .ref rw, .ref ck])) (hl9 : g lr = some (ob 6 [.ref nw, .ref nx, vw, .int w, .int (nI p), .int ch])) (hr9 : g rr = some (ob 6 [.ref nwB, .ref nxB, vwB, .int wB, .int (nI pB), .int chB])) (hp : p < 2 ^ 31) (hpB : pB < 2 ^ 31) : Ct l K yX9_isTouched cX9_isTouched 1 (some .boolean) 0 [.ref v] g (fun v g' => v = some (.int (b01 (decide (0 < p) || decide (0 < pB)))) ∧ g = g') (fun _ _ => False) 0 0 := by
  refine ct_of (by decide) (Nat.le_of_ble_eq_true rfl) ?_
  intro X hl hK hX hE hn hL hR hm
  subst hl; subst hK
  show J X 0 0 g 0 [(0, .ref v)] []
  refine j_aload_n hX dX9_isTouched_0 0 rfl ?_
  refine j_get (v := .ref lr) hX hv rfl wf_X1 0 (by decide) lk_X9_15 (fun _ h => h) rfl dX9_isTouched_1 ?_
  refine j_getN (v := .int (nI p)) hX hl9 rfl wf_X6 4 (by decide) nk_X9_37 (fun _ h => h) rfl dX9_isTouched_4 ?_
  refine j_if_gt hX 20 dX9_isTouched_7 (by decide) (fun c_7 => ?_) (fun c_7 => ?_)
  · have c7 : 0 < p := Nat.pos_of_ne_zero (fun q => by rw [q] at c_7; exact absurd c_7 (by decide))
    refine j_iconst (v := 1) hX dX9_isTouched_20 (by decide) ?_
    refine j_goto hX 25 dX9_isTouched_21 (by decide) ?_
    exact j_zret hX hE dX9_isTouched_25 (by first | rfl | decide | assumption) (⟨congrArg (fun z => some (Value.int z)) (b01_1 (by simp [c7])), rfl⟩) (by decide) (by decide)
  · have c7 : ¬ 0 < p := fun q => c_7 (by have := nI_nle q hp; exact Int32.not_le.mp this)
    refine j_aload_n hX dX9_isTouched_10 0 rfl ?_
    refine j_get (v := .ref rr) hX hv rfl wf_X1 1 (by decide) lk_X9_19 (fun _ h => h) rfl dX9_isTouched_11 ?_
    refine j_getN (v := .int (nI pB)) hX hr9 rfl wf_X6 4 (by decide) nk_X9_37 (fun _ h => h) rfl dX9_isTouched_14 ?_
    refine j_if_le hX 24 dX9_isTouched_17 (by decide) (fun c_17 => ?_) (fun c_17 => ?_)
    · have c17 : ¬ 0 < pB := fun q => nI_nle q hpB c_17
      refine j_iconst (v := 0) hX dX9_isTouched_24 (by decide) ?_
      exact j_zret hX hE dX9_isTouched_25 (by first | rfl | decide | assumption) (⟨congrArg (fun z => some (Value.int z)) (b01_0 (by simp; omega)), rfl⟩) (by decide) (by decide)
    · have c17 : 0 < pB := Nat.pos_of_ne_zero (fun q => c_17 (by rw [q]; decide))
      refine j_iconst (v := 1) hX dX9_isTouched_20 (by decide) ?_
      refine j_goto hX 25 dX9_isTouched_21 (by decide) ?_
      exact j_zret hX hE dX9_isTouched_25 (by first | rfl | decide | assumption) (⟨congrArg (fun z => some (Value.int z)) (b01_1 (by simp [c17])), rfl⟩) (by decide) (by decide)

set_option maxRecDepth 20000 in
set_option maxHeartbeats 600000 in
/-- depth() of a view -/
theorem c_X6_depth_X2 (l : Launch) (K : Cst) (g : Wd) (r nw nx : Nat) (w pd ch : Int32) (v lr rr rw : Nat) (dp : Int32) (hr : g r = some (ob 6 [.ref nw, .ref nx, .ref v, .int w, .int pd, .int ch])) (hv : g v = some (ob 2 [.ref lr, .ref rr, .int dp, .ref rw])) : Ct l K yX6_depth cX6_depth 1 (some .int) 0 [.ref r] g (fun v g' => v = some (.int dp) ∧ g = g') (fun _ _ => False) 0 0 := by
  refine ct_of (by decide) (Nat.le_of_ble_eq_true rfl) ?_
  intro X hl hK hX hE hn hL hR hm
  subst hl; subst hK
  show J X 0 0 g 0 [(0, .ref r)] []
  refine j_aload_n hX dX6_depth_0 0 rfl ?_
  refine j_get (v := .ref v) hX hr rfl wf_X6 2 (by decide) lk_X6_19 (fun _ h => h) rfl dX6_depth_1 ?_
  refine j_ifnonnull_r hX 11 dX6_depth_4 (by decide) ?_
  refine j_aload_n hX dX6_depth_11 0 rfl ?_
  refine j_get (v := .ref v) hX hr rfl wf_X6 2 (by decide) lk_X6_19 (fun _ h => h) rfl dX6_depth_12 ?_
  refine j_get (v := .int dp) hX hv rfl wf_X2 2 (by decide) lk_X6_42 (fun _ h => h) rfl dX6_depth_15 ?_
  exact j_iret hX hE dX6_depth_18 (⟨rfl, rfl⟩) (by decide) (by decide)

set_option maxRecDepth 20000 in
set_option maxHeartbeats 600000 in
/-- isOf(source) of a view -/
theorem c_X6_isOf_X2 (l : Launch) (K : Cst) (g : Wd) (r nw nx : Nat) (w pd ch : Int32) (v lr rr rw sr : Nat) (dp : Int32) (hr : g r = some (ob 6 [.ref nw, .ref nx, .ref v, .int w, .int pd, .int ch])) (hv : g v = some (ob 2 [.ref lr, .ref rr, .int dp, .ref rw])) : Ct l K yX6_isOf cX6_isOf 2 (some .boolean) 0 [.ref r, .ref sr] g (fun v g' => v = some (.int (b01 (decide (lr = sr) || decide (rr = sr)))) ∧ g = g') (fun _ _ => False) 0 0 := by
  refine ct_of (by decide) (Nat.le_of_ble_eq_true rfl) ?_
  intro X hl hK hX hE hn hL hR hm
  subst hl; subst hK
  show J X 0 0 g 0 [(0, .ref r), (1, .ref sr)] []
  refine j_aload_n hX dX6_isOf_0 0 rfl ?_
  refine j_get (v := .ref v) hX hr rfl wf_X6 2 (by decide) lk_X6_19 (fun _ h => h) rfl dX6_isOf_1 ?_
  refine j_ifnull_r hX dX6_isOf_4 ?_
  refine j_aload_n hX dX6_isOf_7 0 rfl ?_
  refine j_get (v := .ref v) hX hr rfl wf_X6 2 (by decide) lk_X6_19 (fun _ h => h) rfl dX6_isOf_8 ?_
  refine j_get (v := .ref lr) hX hv rfl wf_X2 0 (by decide) lk_X6_33 (fun _ h => h) rfl dX6_isOf_11 ?_
  refine j_aload_n hX dX6_isOf_14 1 rfl ?_
  refine j_acmp_eq hX 29 dX6_isOf_15 (by decide) (fun c_15 => ?_) (fun c_15 => ?_)
  · refine j_iconst (v := 1) hX dX6_isOf_29 (by decide) ?_
    refine j_goto hX 34 dX6_isOf_30 (by decide) ?_
    exact j_zret hX hE dX6_isOf_34 (by first | rfl | decide | assumption) (⟨congrArg (fun z => some (Value.int z)) (b01_1 (by simp [c_15])), rfl⟩) (by decide) (by decide)
  · refine j_aload_n hX dX6_isOf_18 0 rfl ?_
    refine j_get (v := .ref v) hX hr rfl wf_X6 2 (by decide) lk_X6_19 (fun _ h => h) rfl dX6_isOf_19 ?_
    refine j_get (v := .ref rr) hX hv rfl wf_X2 1 (by decide) lk_X6_39 (fun _ h => h) rfl dX6_isOf_22 ?_
    refine j_aload_n hX dX6_isOf_25 1 rfl ?_
    refine j_acmp_ne hX 33 dX6_isOf_26 (by decide) (fun c_26 => ?_) (fun c_26 => ?_)
    · refine j_iconst (v := 0) hX dX6_isOf_33 (by decide) ?_
      exact j_zret hX hE dX6_isOf_34 (by first | rfl | decide | assumption) (⟨congrArg (fun z => some (Value.int z)) (b01_0 (by simp [c_15, c_26])), rfl⟩) (by decide) (by decide)
    · refine j_iconst (v := 1) hX dX6_isOf_29 (by decide) ?_
      refine j_goto hX 34 dX6_isOf_30 (by decide) ?_
      exact j_zret hX hE dX6_isOf_34 (by first | rfl | decide | assumption) (⟨congrArg (fun z => some (Value.int z)) (b01_1 (by simp [c_26])), rfl⟩) (by decide) (by decide)

set_option maxRecDepth 20000 in
set_option maxHeartbeats 600000 in
/-- isTouched() -/
theorem c_X9_isTouched_X2 (l : Launch) (K : Cst) (g : Wd) (v lr rr rw nw nx nwB nxB p pB : Nat) (vw vwB : Value) (w ch wB chB dp : Int32) (hv : g v = some (ob 2 [.ref lr, .ref rr, .int dp, .ref rw])) (hl9 : g lr = some (ob 6 [.ref nw, .ref nx, vw, .int w, .int (nI p), .int ch])) (hr9 : g rr = some (ob 6 [.ref nwB, .ref nxB, vwB, .int wB, .int (nI pB), .int chB])) (hp : p < 2 ^ 31) (hpB : pB < 2 ^ 31) : Ct l K yX9_isTouched cX9_isTouched 1 (some .boolean) 0 [.ref v] g (fun v g' => v = some (.int (b01 (decide (0 < p) || decide (0 < pB)))) ∧ g = g') (fun _ _ => False) 0 0 := by
  refine ct_of (by decide) (Nat.le_of_ble_eq_true rfl) ?_
  intro X hl hK hX hE hn hL hR hm
  subst hl; subst hK
  show J X 0 0 g 0 [(0, .ref v)] []
  refine j_aload_n hX dX9_isTouched_0 0 rfl ?_
  refine j_get (v := .ref lr) hX hv rfl wf_X2 0 (by decide) lk_X9_15 (fun _ h => h) rfl dX9_isTouched_1 ?_
  refine j_getN (v := .int (nI p)) hX hl9 rfl wf_X6 4 (by decide) nk_X9_37 (fun _ h => h) rfl dX9_isTouched_4 ?_
  refine j_if_gt hX 20 dX9_isTouched_7 (by decide) (fun c_7 => ?_) (fun c_7 => ?_)
  · have c7 : 0 < p := Nat.pos_of_ne_zero (fun q => by rw [q] at c_7; exact absurd c_7 (by decide))
    refine j_iconst (v := 1) hX dX9_isTouched_20 (by decide) ?_
    refine j_goto hX 25 dX9_isTouched_21 (by decide) ?_
    exact j_zret hX hE dX9_isTouched_25 (by first | rfl | decide | assumption) (⟨congrArg (fun z => some (Value.int z)) (b01_1 (by simp [c7])), rfl⟩) (by decide) (by decide)
  · have c7 : ¬ 0 < p := fun q => c_7 (by have := nI_nle q hp; exact Int32.not_le.mp this)
    refine j_aload_n hX dX9_isTouched_10 0 rfl ?_
    refine j_get (v := .ref rr) hX hv rfl wf_X2 1 (by decide) lk_X9_19 (fun _ h => h) rfl dX9_isTouched_11 ?_
    refine j_getN (v := .int (nI pB)) hX hr9 rfl wf_X6 4 (by decide) nk_X9_37 (fun _ h => h) rfl dX9_isTouched_14 ?_
    refine j_if_le hX 24 dX9_isTouched_17 (by decide) (fun c_17 => ?_) (fun c_17 => ?_)
    · have c17 : ¬ 0 < pB := fun q => nI_nle q hpB c_17
      refine j_iconst (v := 0) hX dX9_isTouched_24 (by decide) ?_
      exact j_zret hX hE dX9_isTouched_25 (by first | rfl | decide | assumption) (⟨congrArg (fun z => some (Value.int z)) (b01_0 (by simp; omega)), rfl⟩) (by decide) (by decide)
    · have c17 : 0 < pB := Nat.pos_of_ne_zero (fun q => c_17 (by rw [q]; decide))
      refine j_iconst (v := 1) hX dX9_isTouched_20 (by decide) ?_
      refine j_goto hX 25 dX9_isTouched_21 (by decide) ?_
      exact j_zret hX hE dX9_isTouched_25 (by first | rfl | decide | assumption) (⟨congrArg (fun z => some (Value.int z)) (b01_1 (by simp [c17])), rfl⟩) (by decide) (by decide)

set_option maxRecDepth 20000 in
set_option maxHeartbeats 600000 in
/-- depth() of a view -/
theorem c_X6_depth_X3 (l : Launch) (K : Cst) (g : Wd) (r nw nx : Nat) (w pd ch : Int32) (v lr rr rw : Nat) (dp : Int32) (e1 e2 e3 : Int32) (hr : g r = some (ob 6 [.ref nw, .ref nx, .ref v, .int w, .int pd, .int ch])) (hv : g v = some (ob 3 [.ref lr, .ref rr, .int dp, .ref rw, .int e1, .int e2, .int e3])) : Ct l K yX6_depth cX6_depth 1 (some .int) 0 [.ref r] g (fun v g' => v = some (.int dp) ∧ g = g') (fun _ _ => False) 0 0 := by
  refine ct_of (by decide) (Nat.le_of_ble_eq_true rfl) ?_
  intro X hl hK hX hE hn hL hR hm
  subst hl; subst hK
  show J X 0 0 g 0 [(0, .ref r)] []
  refine j_aload_n hX dX6_depth_0 0 rfl ?_
  refine j_get (v := .ref v) hX hr rfl wf_X6 2 (by decide) lk_X6_19 (fun _ h => h) rfl dX6_depth_1 ?_
  refine j_ifnonnull_r hX 11 dX6_depth_4 (by decide) ?_
  refine j_aload_n hX dX6_depth_11 0 rfl ?_
  refine j_get (v := .ref v) hX hr rfl wf_X6 2 (by decide) lk_X6_19 (fun _ h => h) rfl dX6_depth_12 ?_
  refine j_get (v := .int dp) hX hv rfl wf_X3 2 (by decide) lk_X6_42 (fun _ h => h) rfl dX6_depth_15 ?_
  exact j_iret hX hE dX6_depth_18 (⟨rfl, rfl⟩) (by decide) (by decide)

set_option maxRecDepth 20000 in
set_option maxHeartbeats 600000 in
/-- isOf(source) of a view -/
theorem c_X6_isOf_X3 (l : Launch) (K : Cst) (g : Wd) (r nw nx : Nat) (w pd ch : Int32) (v lr rr rw sr : Nat) (dp : Int32) (e1 e2 e3 : Int32) (hr : g r = some (ob 6 [.ref nw, .ref nx, .ref v, .int w, .int pd, .int ch])) (hv : g v = some (ob 3 [.ref lr, .ref rr, .int dp, .ref rw, .int e1, .int e2, .int e3])) : Ct l K yX6_isOf cX6_isOf 2 (some .boolean) 0 [.ref r, .ref sr] g (fun v g' => v = some (.int (b01 (decide (lr = sr) || decide (rr = sr)))) ∧ g = g') (fun _ _ => False) 0 0 := by
  refine ct_of (by decide) (Nat.le_of_ble_eq_true rfl) ?_
  intro X hl hK hX hE hn hL hR hm
  subst hl; subst hK
  show J X 0 0 g 0 [(0, .ref r), (1, .ref sr)] []
  refine j_aload_n hX dX6_isOf_0 0 rfl ?_
  refine j_get (v := .ref v) hX hr rfl wf_X6 2 (by decide) lk_X6_19 (fun _ h => h) rfl dX6_isOf_1 ?_
  refine j_ifnull_r hX dX6_isOf_4 ?_
  refine j_aload_n hX dX6_isOf_7 0 rfl ?_
  refine j_get (v := .ref v) hX hr rfl wf_X6 2 (by decide) lk_X6_19 (fun _ h => h) rfl dX6_isOf_8 ?_
  refine j_get (v := .ref lr) hX hv rfl wf_X3 0 (by decide) lk_X6_33 (fun _ h => h) rfl dX6_isOf_11 ?_
  refine j_aload_n hX dX6_isOf_14 1 rfl ?_
  refine j_acmp_eq hX 29 dX6_isOf_15 (by decide) (fun c_15 => ?_) (fun c_15 => ?_)
  · refine j_iconst (v := 1) hX dX6_isOf_29 (by decide) ?_
    refine j_goto hX 34 dX6_isOf_30 (by decide) ?_
    exact j_zret hX hE dX6_isOf_34 (by first | rfl | decide | assumption) (⟨congrArg (fun z => some (Value.int z)) (b01_1 (by simp [c_15])), rfl⟩) (by decide) (by decide)
  · refine j_aload_n hX dX6_isOf_18 0 rfl ?_
    refine j_get (v := .ref v) hX hr rfl wf_X6 2 (by decide) lk_X6_19 (fun _ h => h) rfl dX6_isOf_19 ?_
    refine j_get (v := .ref rr) hX hv rfl wf_X3 1 (by decide) lk_X6_39 (fun _ h => h) rfl dX6_isOf_22 ?_
    refine j_aload_n hX dX6_isOf_25 1 rfl ?_
    refine j_acmp_ne hX 33 dX6_isOf_26 (by decide) (fun c_26 => ?_) (fun c_26 => ?_)
    · refine j_iconst (v := 0) hX dX6_isOf_33 (by decide) ?_
      exact j_zret hX hE dX6_isOf_34 (by first | rfl | decide | assumption) (⟨congrArg (fun z => some (Value.int z)) (b01_0 (by simp [c_15, c_26])), rfl⟩) (by decide) (by decide)
    · refine j_iconst (v := 1) hX dX6_isOf_29 (by decide) ?_
      refine j_goto hX 34 dX6_isOf_30 (by decide) ?_
      exact j_zret hX hE dX6_isOf_34 (by first | rfl | decide | assumption) (⟨congrArg (fun z => some (Value.int z)) (b01_1 (by simp [c_26])), rfl⟩) (by decide) (by decide)

set_option maxRecDepth 20000 in
set_option maxHeartbeats 600000 in
/-- isTouched() -/
theorem c_X9_isTouched_X3 (l : Launch) (K : Cst) (g : Wd) (v lr rr rw nw nx nwB nxB p pB : Nat) (vw vwB : Value) (w ch wB chB dp : Int32) (e1 e2 e3 : Int32) (hv : g v = some (ob 3 [.ref lr, .ref rr, .int dp, .ref rw, .int e1, .int e2, .int e3])) (hl9 : g lr = some (ob 6 [.ref nw, .ref nx, vw, .int w, .int (nI p), .int ch])) (hr9 : g rr = some (ob 6 [.ref nwB, .ref nxB, vwB, .int wB, .int (nI pB), .int chB])) (hp : p < 2 ^ 31) (hpB : pB < 2 ^ 31) : Ct l K yX9_isTouched cX9_isTouched 1 (some .boolean) 0 [.ref v] g (fun v g' => v = some (.int (b01 (decide (0 < p) || decide (0 < pB)))) ∧ g = g') (fun _ _ => False) 0 0 := by
  refine ct_of (by decide) (Nat.le_of_ble_eq_true rfl) ?_
  intro X hl hK hX hE hn hL hR hm
  subst hl; subst hK
  show J X 0 0 g 0 [(0, .ref v)] []
  refine j_aload_n hX dX9_isTouched_0 0 rfl ?_
  refine j_get (v := .ref lr) hX hv rfl wf_X3 0 (by decide) lk_X9_15 (fun _ h => h) rfl dX9_isTouched_1 ?_
  refine j_getN (v := .int (nI p)) hX hl9 rfl wf_X6 4 (by decide) nk_X9_37 (fun _ h => h) rfl dX9_isTouched_4 ?_
  refine j_if_gt hX 20 dX9_isTouched_7 (by decide) (fun c_7 => ?_) (fun c_7 => ?_)
  · have c7 : 0 < p := Nat.pos_of_ne_zero (fun q => by rw [q] at c_7; exact absurd c_7 (by decide))
    refine j_iconst (v := 1) hX dX9_isTouched_20 (by decide) ?_
    refine j_goto hX 25 dX9_isTouched_21 (by decide) ?_
    exact j_zret hX hE dX9_isTouched_25 (by first | rfl | decide | assumption) (⟨congrArg (fun z => some (Value.int z)) (b01_1 (by simp [c7])), rfl⟩) (by decide) (by decide)
  · have c7 : ¬ 0 < p := fun q => c_7 (by have := nI_nle q hp; exact Int32.not_le.mp this)
    refine j_aload_n hX dX9_isTouched_10 0 rfl ?_
    refine j_get (v := .ref rr) hX hv rfl wf_X3 1 (by decide) lk_X9_19 (fun _ h => h) rfl dX9_isTouched_11 ?_
    refine j_getN (v := .int (nI pB)) hX hr9 rfl wf_X6 4 (by decide) nk_X9_37 (fun _ h => h) rfl dX9_isTouched_14 ?_
    refine j_if_le hX 24 dX9_isTouched_17 (by decide) (fun c_17 => ?_) (fun c_17 => ?_)
    · have c17 : ¬ 0 < pB := fun q => nI_nle q hpB c_17
      refine j_iconst (v := 0) hX dX9_isTouched_24 (by decide) ?_
      exact j_zret hX hE dX9_isTouched_25 (by first | rfl | decide | assumption) (⟨congrArg (fun z => some (Value.int z)) (b01_0 (by simp; omega)), rfl⟩) (by decide) (by decide)
    · have c17 : 0 < pB := Nat.pos_of_ne_zero (fun q => c_17 (by rw [q]; decide))
      refine j_iconst (v := 1) hX dX9_isTouched_20 (by decide) ?_
      refine j_goto hX 25 dX9_isTouched_21 (by decide) ?_
      exact j_zret hX hE dX9_isTouched_25 (by first | rfl | decide | assumption) (⟨congrArg (fun z => some (Value.int z)) (b01_1 (by simp [c17])), rfl⟩) (by decide) (by decide)

set_option maxRecDepth 20000 in
set_option maxHeartbeats 600000 in
/-- depth() of a view -/
theorem c_X6_depth_X4 (l : Launch) (K : Cst) (g : Wd) (r nw nx : Nat) (w pd ch : Int32) (v lr rr rw : Nat) (dp : Int32) (e1 e2 : Int32) (hr : g r = some (ob 6 [.ref nw, .ref nx, .ref v, .int w, .int pd, .int ch])) (hv : g v = some (ob 4 [.ref lr, .ref rr, .int dp, .ref rw, .int e1, .int e2])) : Ct l K yX6_depth cX6_depth 1 (some .int) 0 [.ref r] g (fun v g' => v = some (.int dp) ∧ g = g') (fun _ _ => False) 0 0 := by
  refine ct_of (by decide) (Nat.le_of_ble_eq_true rfl) ?_
  intro X hl hK hX hE hn hL hR hm
  subst hl; subst hK
  show J X 0 0 g 0 [(0, .ref r)] []
  refine j_aload_n hX dX6_depth_0 0 rfl ?_
  refine j_get (v := .ref v) hX hr rfl wf_X6 2 (by decide) lk_X6_19 (fun _ h => h) rfl dX6_depth_1 ?_
  refine j_ifnonnull_r hX 11 dX6_depth_4 (by decide) ?_
  refine j_aload_n hX dX6_depth_11 0 rfl ?_
  refine j_get (v := .ref v) hX hr rfl wf_X6 2 (by decide) lk_X6_19 (fun _ h => h) rfl dX6_depth_12 ?_
  refine j_get (v := .int dp) hX hv rfl wf_X4 2 (by decide) lk_X6_42 (fun _ h => h) rfl dX6_depth_15 ?_
  exact j_iret hX hE dX6_depth_18 (⟨rfl, rfl⟩) (by decide) (by decide)

set_option maxRecDepth 20000 in
set_option maxHeartbeats 600000 in
/-- isOf(source) of a view -/
theorem c_X6_isOf_X4 (l : Launch) (K : Cst) (g : Wd) (r nw nx : Nat) (w pd ch : Int32) (v lr rr rw sr : Nat) (dp : Int32) (e1 e2 : Int32) (hr : g r = some (ob 6 [.ref nw, .ref nx, .ref v, .int w, .int pd, .int ch])) (hv : g v = some (ob 4 [.ref lr, .ref rr, .int dp, .ref rw, .int e1, .int e2])) : Ct l K yX6_isOf cX6_isOf 2 (some .boolean) 0 [.ref r, .ref sr] g (fun v g' => v = some (.int (b01 (decide (lr = sr) || decide (rr = sr)))) ∧ g = g') (fun _ _ => False) 0 0 := by
  refine ct_of (by decide) (Nat.le_of_ble_eq_true rfl) ?_
  intro X hl hK hX hE hn hL hR hm
  subst hl; subst hK
  show J X 0 0 g 0 [(0, .ref r), (1, .ref sr)] []
  refine j_aload_n hX dX6_isOf_0 0 rfl ?_
  refine j_get (v := .ref v) hX hr rfl wf_X6 2 (by decide) lk_X6_19 (fun _ h => h) rfl dX6_isOf_1 ?_
  refine j_ifnull_r hX dX6_isOf_4 ?_
  refine j_aload_n hX dX6_isOf_7 0 rfl ?_
  refine j_get (v := .ref v) hX hr rfl wf_X6 2 (by decide) lk_X6_19 (fun _ h => h) rfl dX6_isOf_8 ?_
  refine j_get (v := .ref lr) hX hv rfl wf_X4 0 (by decide) lk_X6_33 (fun _ h => h) rfl dX6_isOf_11 ?_
  refine j_aload_n hX dX6_isOf_14 1 rfl ?_
  refine j_acmp_eq hX 29 dX6_isOf_15 (by decide) (fun c_15 => ?_) (fun c_15 => ?_)
  · refine j_iconst (v := 1) hX dX6_isOf_29 (by decide) ?_
    refine j_goto hX 34 dX6_isOf_30 (by decide) ?_
    exact j_zret hX hE dX6_isOf_34 (by first | rfl | decide | assumption) (⟨congrArg (fun z => some (Value.int z)) (b01_1 (by simp [c_15])), rfl⟩) (by decide) (by decide)
  · refine j_aload_n hX dX6_isOf_18 0 rfl ?_
    refine j_get (v := .ref v) hX hr rfl wf_X6 2 (by decide) lk_X6_19 (fun _ h => h) rfl dX6_isOf_19 ?_
    refine j_get (v := .ref rr) hX hv rfl wf_X4 1 (by decide) lk_X6_39 (fun _ h => h) rfl dX6_isOf_22 ?_
    refine j_aload_n hX dX6_isOf_25 1 rfl ?_
    refine j_acmp_ne hX 33 dX6_isOf_26 (by decide) (fun c_26 => ?_) (fun c_26 => ?_)
    · refine j_iconst (v := 0) hX dX6_isOf_33 (by decide) ?_
      exact j_zret hX hE dX6_isOf_34 (by first | rfl | decide | assumption) (⟨congrArg (fun z => some (Value.int z)) (b01_0 (by simp [c_15, c_26])), rfl⟩) (by decide) (by decide)
    · refine j_iconst (v := 1) hX dX6_isOf_29 (by decide) ?_
      refine j_goto hX 34 dX6_isOf_30 (by decide) ?_
      exact j_zret hX hE dX6_isOf_34 (by first | rfl | decide | assumption) (⟨congrArg (fun z => some (Value.int z)) (b01_1 (by simp [c_26])), rfl⟩) (by decide) (by decide)

set_option maxRecDepth 20000 in
set_option maxHeartbeats 600000 in
/-- isTouched() -/
theorem c_X9_isTouched_X4 (l : Launch) (K : Cst) (g : Wd) (v lr rr rw nw nx nwB nxB p pB : Nat) (vw vwB : Value) (w ch wB chB dp : Int32) (e1 e2 : Int32) (hv : g v = some (ob 4 [.ref lr, .ref rr, .int dp, .ref rw, .int e1, .int e2])) (hl9 : g lr = some (ob 6 [.ref nw, .ref nx, vw, .int w, .int (nI p), .int ch])) (hr9 : g rr = some (ob 6 [.ref nwB, .ref nxB, vwB, .int wB, .int (nI pB), .int chB])) (hp : p < 2 ^ 31) (hpB : pB < 2 ^ 31) : Ct l K yX9_isTouched cX9_isTouched 1 (some .boolean) 0 [.ref v] g (fun v g' => v = some (.int (b01 (decide (0 < p) || decide (0 < pB)))) ∧ g = g') (fun _ _ => False) 0 0 := by
  refine ct_of (by decide) (Nat.le_of_ble_eq_true rfl) ?_
  intro X hl hK hX hE hn hL hR hm
  subst hl; subst hK
  show J X 0 0 g 0 [(0, .ref v)] []
  refine j_aload_n hX dX9_isTouched_0 0 rfl ?_
  refine j_get (v := .ref lr) hX hv rfl wf_X4 0 (by decide) lk_X9_15 (fun _ h => h) rfl dX9_isTouched_1 ?_
  refine j_getN (v := .int (nI p)) hX hl9 rfl wf_X6 4 (by decide) nk_X9_37 (fun _ h => h) rfl dX9_isTouched_4 ?_
  refine j_if_gt hX 20 dX9_isTouched_7 (by decide) (fun c_7 => ?_) (fun c_7 => ?_)
  · have c7 : 0 < p := Nat.pos_of_ne_zero (fun q => by rw [q] at c_7; exact absurd c_7 (by decide))
    refine j_iconst (v := 1) hX dX9_isTouched_20 (by decide) ?_
    refine j_goto hX 25 dX9_isTouched_21 (by decide) ?_
    exact j_zret hX hE dX9_isTouched_25 (by first | rfl | decide | assumption) (⟨congrArg (fun z => some (Value.int z)) (b01_1 (by simp [c7])), rfl⟩) (by decide) (by decide)
  · have c7 : ¬ 0 < p := fun q => c_7 (by have := nI_nle q hp; exact Int32.not_le.mp this)
    refine j_aload_n hX dX9_isTouched_10 0 rfl ?_
    refine j_get (v := .ref rr) hX hv rfl wf_X4 1 (by decide) lk_X9_19 (fun _ h => h) rfl dX9_isTouched_11 ?_
    refine j_getN (v := .int (nI pB)) hX hr9 rfl wf_X6 4 (by decide) nk_X9_37 (fun _ h => h) rfl dX9_isTouched_14 ?_
    refine j_if_le hX 24 dX9_isTouched_17 (by decide) (fun c_17 => ?_) (fun c_17 => ?_)
    · have c17 : ¬ 0 < pB := fun q => nI_nle q hpB c_17
      refine j_iconst (v := 0) hX dX9_isTouched_24 (by decide) ?_
      exact j_zret hX hE dX9_isTouched_25 (by first | rfl | decide | assumption) (⟨congrArg (fun z => some (Value.int z)) (b01_0 (by simp; omega)), rfl⟩) (by decide) (by decide)
    · have c17 : 0 < pB := Nat.pos_of_ne_zero (fun q => c_17 (by rw [q]; decide))
      refine j_iconst (v := 1) hX dX9_isTouched_20 (by decide) ?_
      refine j_goto hX 25 dX9_isTouched_21 (by decide) ?_
      exact j_zret hX hE dX9_isTouched_25 (by first | rfl | decide | assumption) (⟨congrArg (fun z => some (Value.int z)) (b01_1 (by simp [c17])), rfl⟩) (by decide) (by decide)

set_option maxRecDepth 20000 in
set_option maxHeartbeats 600000 in
/-- depth() of a view -/
theorem c_X6_depth_X5 (l : Launch) (K : Cst) (g : Wd) (r nw nx : Nat) (w pd ch : Int32) (v lr rr rw : Nat) (dp : Int32) (hr : g r = some (ob 6 [.ref nw, .ref nx, .ref v, .int w, .int pd, .int ch])) (hv : g v = some (ob 5 [.ref lr, .ref rr, .int dp, .ref rw])) : Ct l K yX6_depth cX6_depth 1 (some .int) 0 [.ref r] g (fun v g' => v = some (.int dp) ∧ g = g') (fun _ _ => False) 0 0 := by
  refine ct_of (by decide) (Nat.le_of_ble_eq_true rfl) ?_
  intro X hl hK hX hE hn hL hR hm
  subst hl; subst hK
  show J X 0 0 g 0 [(0, .ref r)] []
  refine j_aload_n hX dX6_depth_0 0 rfl ?_
  refine j_get (v := .ref v) hX hr rfl wf_X6 2 (by decide) lk_X6_19 (fun _ h => h) rfl dX6_depth_1 ?_
  refine j_ifnonnull_r hX 11 dX6_depth_4 (by decide) ?_
  refine j_aload_n hX dX6_depth_11 0 rfl ?_
  refine j_get (v := .ref v) hX hr rfl wf_X6 2 (by decide) lk_X6_19 (fun _ h => h) rfl dX6_depth_12 ?_
  refine j_get (v := .int dp) hX hv rfl wf_X5 2 (by decide) lk_X6_42 (fun _ h => h) rfl dX6_depth_15 ?_
  exact j_iret hX hE dX6_depth_18 (⟨rfl, rfl⟩) (by decide) (by decide)

set_option maxRecDepth 20000 in
set_option maxHeartbeats 600000 in
/-- isOf(source) of a view -/
theorem c_X6_isOf_X5 (l : Launch) (K : Cst) (g : Wd) (r nw nx : Nat) (w pd ch : Int32) (v lr rr rw sr : Nat) (dp : Int32) (hr : g r = some (ob 6 [.ref nw, .ref nx, .ref v, .int w, .int pd, .int ch])) (hv : g v = some (ob 5 [.ref lr, .ref rr, .int dp, .ref rw])) : Ct l K yX6_isOf cX6_isOf 2 (some .boolean) 0 [.ref r, .ref sr] g (fun v g' => v = some (.int (b01 (decide (lr = sr) || decide (rr = sr)))) ∧ g = g') (fun _ _ => False) 0 0 := by
  refine ct_of (by decide) (Nat.le_of_ble_eq_true rfl) ?_
  intro X hl hK hX hE hn hL hR hm
  subst hl; subst hK
  show J X 0 0 g 0 [(0, .ref r), (1, .ref sr)] []
  refine j_aload_n hX dX6_isOf_0 0 rfl ?_
  refine j_get (v := .ref v) hX hr rfl wf_X6 2 (by decide) lk_X6_19 (fun _ h => h) rfl dX6_isOf_1 ?_
  refine j_ifnull_r hX dX6_isOf_4 ?_
  refine j_aload_n hX dX6_isOf_7 0 rfl ?_
  refine j_get (v := .ref v) hX hr rfl wf_X6 2 (by decide) lk_X6_19 (fun _ h => h) rfl dX6_isOf_8 ?_
  refine j_get (v := .ref lr) hX hv rfl wf_X5 0 (by decide) lk_X6_33 (fun _ h => h) rfl dX6_isOf_11 ?_
  refine j_aload_n hX dX6_isOf_14 1 rfl ?_
  refine j_acmp_eq hX 29 dX6_isOf_15 (by decide) (fun c_15 => ?_) (fun c_15 => ?_)
  · refine j_iconst (v := 1) hX dX6_isOf_29 (by decide) ?_
    refine j_goto hX 34 dX6_isOf_30 (by decide) ?_
    exact j_zret hX hE dX6_isOf_34 (by first | rfl | decide | assumption) (⟨congrArg (fun z => some (Value.int z)) (b01_1 (by simp [c_15])), rfl⟩) (by decide) (by decide)
  · refine j_aload_n hX dX6_isOf_18 0 rfl ?_
    refine j_get (v := .ref v) hX hr rfl wf_X6 2 (by decide) lk_X6_19 (fun _ h => h) rfl dX6_isOf_19 ?_
    refine j_get (v := .ref rr) hX hv rfl wf_X5 1 (by decide) lk_X6_39 (fun _ h => h) rfl dX6_isOf_22 ?_
    refine j_aload_n hX dX6_isOf_25 1 rfl ?_
    refine j_acmp_ne hX 33 dX6_isOf_26 (by decide) (fun c_26 => ?_) (fun c_26 => ?_)
    · refine j_iconst (v := 0) hX dX6_isOf_33 (by decide) ?_
      exact j_zret hX hE dX6_isOf_34 (by first | rfl | decide | assumption) (⟨congrArg (fun z => some (Value.int z)) (b01_0 (by simp [c_15, c_26])), rfl⟩) (by decide) (by decide)
    · refine j_iconst (v := 1) hX dX6_isOf_29 (by decide) ?_
      refine j_goto hX 34 dX6_isOf_30 (by decide) ?_
      exact j_zret hX hE dX6_isOf_34 (by first | rfl | decide | assumption) (⟨congrArg (fun z => some (Value.int z)) (b01_1 (by simp [c_26])), rfl⟩) (by decide) (by decide)

set_option maxRecDepth 20000 in
set_option maxHeartbeats 600000 in
/-- isTouched() -/
theorem c_X9_isTouched_X5 (l : Launch) (K : Cst) (g : Wd) (v lr rr rw nw nx nwB nxB p pB : Nat) (vw vwB : Value) (w ch wB chB dp : Int32) (hv : g v = some (ob 5 [.ref lr, .ref rr, .int dp, .ref rw])) (hl9 : g lr = some (ob 6 [.ref nw, .ref nx, vw, .int w, .int (nI p), .int ch])) (hr9 : g rr = some (ob 6 [.ref nwB, .ref nxB, vwB, .int wB, .int (nI pB), .int chB])) (hp : p < 2 ^ 31) (hpB : pB < 2 ^ 31) : Ct l K yX9_isTouched cX9_isTouched 1 (some .boolean) 0 [.ref v] g (fun v g' => v = some (.int (b01 (decide (0 < p) || decide (0 < pB)))) ∧ g = g') (fun _ _ => False) 0 0 := by
  refine ct_of (by decide) (Nat.le_of_ble_eq_true rfl) ?_
  intro X hl hK hX hE hn hL hR hm
  subst hl; subst hK
  show J X 0 0 g 0 [(0, .ref v)] []
  refine j_aload_n hX dX9_isTouched_0 0 rfl ?_
  refine j_get (v := .ref lr) hX hv rfl wf_X5 0 (by decide) lk_X9_15 (fun _ h => h) rfl dX9_isTouched_1 ?_
  refine j_getN (v := .int (nI p)) hX hl9 rfl wf_X6 4 (by decide) nk_X9_37 (fun _ h => h) rfl dX9_isTouched_4 ?_
  refine j_if_gt hX 20 dX9_isTouched_7 (by decide) (fun c_7 => ?_) (fun c_7 => ?_)
  · have c7 : 0 < p := Nat.pos_of_ne_zero (fun q => by rw [q] at c_7; exact absurd c_7 (by decide))
    refine j_iconst (v := 1) hX dX9_isTouched_20 (by decide) ?_
    refine j_goto hX 25 dX9_isTouched_21 (by decide) ?_
    exact j_zret hX hE dX9_isTouched_25 (by first | rfl | decide | assumption) (⟨congrArg (fun z => some (Value.int z)) (b01_1 (by simp [c7])), rfl⟩) (by decide) (by decide)
  · have c7 : ¬ 0 < p := fun q => c_7 (by have := nI_nle q hp; exact Int32.not_le.mp this)
    refine j_aload_n hX dX9_isTouched_10 0 rfl ?_
    refine j_get (v := .ref rr) hX hv rfl wf_X5 1 (by decide) lk_X9_19 (fun _ h => h) rfl dX9_isTouched_11 ?_
    refine j_getN (v := .int (nI pB)) hX hr9 rfl wf_X6 4 (by decide) nk_X9_37 (fun _ h => h) rfl dX9_isTouched_14 ?_
    refine j_if_le hX 24 dX9_isTouched_17 (by decide) (fun c_17 => ?_) (fun c_17 => ?_)
    · have c17 : ¬ 0 < pB := fun q => nI_nle q hpB c_17
      refine j_iconst (v := 0) hX dX9_isTouched_24 (by decide) ?_
      exact j_zret hX hE dX9_isTouched_25 (by first | rfl | decide | assumption) (⟨congrArg (fun z => some (Value.int z)) (b01_0 (by simp; omega)), rfl⟩) (by decide) (by decide)
    · have c17 : 0 < pB := Nat.pos_of_ne_zero (fun q => c_17 (by rw [q]; decide))
      refine j_iconst (v := 1) hX dX9_isTouched_20 (by decide) ?_
      refine j_goto hX 25 dX9_isTouched_21 (by decide) ?_
      exact j_zret hX hE dX9_isTouched_25 (by first | rfl | decide | assumption) (⟨congrArg (fun z => some (Value.int z)) (b01_1 (by simp [c17])), rfl⟩) (by decide) (by decide)

set_option maxRecDepth 20000 in
set_option maxHeartbeats 600000 in
/-- depth() of a view -/
theorem c_X6_depth_X7 (l : Launch) (K : Cst) (g : Wd) (r nw nx : Nat) (w pd ch : Int32) (v lr rr rw : Nat) (dp : Int32) (e1 e2 e3 e4 : Int32) (hr : g r = some (ob 6 [.ref nw, .ref nx, .ref v, .int w, .int pd, .int ch])) (hv : g v = some (ob 7 [.ref lr, .ref rr, .int dp, .ref rw, .int e1, .int e2, .int e3, .int e4])) : Ct l K yX6_depth cX6_depth 1 (some .int) 0 [.ref r] g (fun v g' => v = some (.int dp) ∧ g = g') (fun _ _ => False) 0 0 := by
  refine ct_of (by decide) (Nat.le_of_ble_eq_true rfl) ?_
  intro X hl hK hX hE hn hL hR hm
  subst hl; subst hK
  show J X 0 0 g 0 [(0, .ref r)] []
  refine j_aload_n hX dX6_depth_0 0 rfl ?_
  refine j_get (v := .ref v) hX hr rfl wf_X6 2 (by decide) lk_X6_19 (fun _ h => h) rfl dX6_depth_1 ?_
  refine j_ifnonnull_r hX 11 dX6_depth_4 (by decide) ?_
  refine j_aload_n hX dX6_depth_11 0 rfl ?_
  refine j_get (v := .ref v) hX hr rfl wf_X6 2 (by decide) lk_X6_19 (fun _ h => h) rfl dX6_depth_12 ?_
  refine j_get (v := .int dp) hX hv rfl wf_X7 2 (by decide) lk_X6_42 (fun _ h => h) rfl dX6_depth_15 ?_
  exact j_iret hX hE dX6_depth_18 (⟨rfl, rfl⟩) (by decide) (by decide)

set_option maxRecDepth 20000 in
set_option maxHeartbeats 600000 in
/-- isOf(source) of a view -/
theorem c_X6_isOf_X7 (l : Launch) (K : Cst) (g : Wd) (r nw nx : Nat) (w pd ch : Int32) (v lr rr rw sr : Nat) (dp : Int32) (e1 e2 e3 e4 : Int32) (hr : g r = some (ob 6 [.ref nw, .ref nx, .ref v, .int w, .int pd, .int ch])) (hv : g v = some (ob 7 [.ref lr, .ref rr, .int dp, .ref rw, .int e1, .int e2, .int e3, .int e4])) : Ct l K yX6_isOf cX6_isOf 2 (some .boolean) 0 [.ref r, .ref sr] g (fun v g' => v = some (.int (b01 (decide (lr = sr) || decide (rr = sr)))) ∧ g = g') (fun _ _ => False) 0 0 := by
  refine ct_of (by decide) (Nat.le_of_ble_eq_true rfl) ?_
  intro X hl hK hX hE hn hL hR hm
  subst hl; subst hK
  show J X 0 0 g 0 [(0, .ref r), (1, .ref sr)] []
  refine j_aload_n hX dX6_isOf_0 0 rfl ?_
  refine j_get (v := .ref v) hX hr rfl wf_X6 2 (by decide) lk_X6_19 (fun _ h => h) rfl dX6_isOf_1 ?_
  refine j_ifnull_r hX dX6_isOf_4 ?_
  refine j_aload_n hX dX6_isOf_7 0 rfl ?_
  refine j_get (v := .ref v) hX hr rfl wf_X6 2 (by decide) lk_X6_19 (fun _ h => h) rfl dX6_isOf_8 ?_
  refine j_get (v := .ref lr) hX hv rfl wf_X7 0 (by decide) lk_X6_33 (fun _ h => h) rfl dX6_isOf_11 ?_
  refine j_aload_n hX dX6_isOf_14 1 rfl ?_
  refine j_acmp_eq hX 29 dX6_isOf_15 (by decide) (fun c_15 => ?_) (fun c_15 => ?_)
  · refine j_iconst (v := 1) hX dX6_isOf_29 (by decide) ?_
    refine j_goto hX 34 dX6_isOf_30 (by decide) ?_
    exact j_zret hX hE dX6_isOf_34 (by first | rfl | decide | assumption) (⟨congrArg (fun z => some (Value.int z)) (b01_1 (by simp [c_15])), rfl⟩) (by decide) (by decide)
  · refine j_aload_n hX dX6_isOf_18 0 rfl ?_
    refine j_get (v := .ref v) hX hr rfl wf_X6 2 (by decide) lk_X6_19 (fun _ h => h) rfl dX6_isOf_19 ?_
    refine j_get (v := .ref rr) hX hv rfl wf_X7 1 (by decide) lk_X6_39 (fun _ h => h) rfl dX6_isOf_22 ?_
    refine j_aload_n hX dX6_isOf_25 1 rfl ?_
    refine j_acmp_ne hX 33 dX6_isOf_26 (by decide) (fun c_26 => ?_) (fun c_26 => ?_)
    · refine j_iconst (v := 0) hX dX6_isOf_33 (by decide) ?_
      exact j_zret hX hE dX6_isOf_34 (by first | rfl | decide | assumption) (⟨congrArg (fun z => some (Value.int z)) (b01_0 (by simp [c_15, c_26])), rfl⟩) (by decide) (by decide)
    · refine j_iconst (v := 1) hX dX6_isOf_29 (by decide) ?_
      refine j_goto hX 34 dX6_isOf_30 (by decide) ?_
      exact j_zret hX hE dX6_isOf_34 (by first | rfl | decide | assumption) (⟨congrArg (fun z => some (Value.int z)) (b01_1 (by simp [c_26])), rfl⟩) (by decide) (by decide)

set_option maxRecDepth 20000 in
set_option maxHeartbeats 600000 in
/-- isTouched() -/
theorem c_X9_isTouched_X7 (l : Launch) (K : Cst) (g : Wd) (v lr rr rw nw nx nwB nxB p pB : Nat) (vw vwB : Value) (w ch wB chB dp : Int32) (e1 e2 e3 e4 : Int32) (hv : g v = some (ob 7 [.ref lr, .ref rr, .int dp, .ref rw, .int e1, .int e2, .int e3, .int e4])) (hl9 : g lr = some (ob 6 [.ref nw, .ref nx, vw, .int w, .int (nI p), .int ch])) (hr9 : g rr = some (ob 6 [.ref nwB, .ref nxB, vwB, .int wB, .int (nI pB), .int chB])) (hp : p < 2 ^ 31) (hpB : pB < 2 ^ 31) : Ct l K yX9_isTouched cX9_isTouched 1 (some .boolean) 0 [.ref v] g (fun v g' => v = some (.int (b01 (decide (0 < p) || decide (0 < pB)))) ∧ g = g') (fun _ _ => False) 0 0 := by
  refine ct_of (by decide) (Nat.le_of_ble_eq_true rfl) ?_
  intro X hl hK hX hE hn hL hR hm
  subst hl; subst hK
  show J X 0 0 g 0 [(0, .ref v)] []
  refine j_aload_n hX dX9_isTouched_0 0 rfl ?_
  refine j_get (v := .ref lr) hX hv rfl wf_X7 0 (by decide) lk_X9_15 (fun _ h => h) rfl dX9_isTouched_1 ?_
  refine j_getN (v := .int (nI p)) hX hl9 rfl wf_X6 4 (by decide) nk_X9_37 (fun _ h => h) rfl dX9_isTouched_4 ?_
  refine j_if_gt hX 20 dX9_isTouched_7 (by decide) (fun c_7 => ?_) (fun c_7 => ?_)
  · have c7 : 0 < p := Nat.pos_of_ne_zero (fun q => by rw [q] at c_7; exact absurd c_7 (by decide))
    refine j_iconst (v := 1) hX dX9_isTouched_20 (by decide) ?_
    refine j_goto hX 25 dX9_isTouched_21 (by decide) ?_
    exact j_zret hX hE dX9_isTouched_25 (by first | rfl | decide | assumption) (⟨congrArg (fun z => some (Value.int z)) (b01_1 (by simp [c7])), rfl⟩) (by decide) (by decide)
  · have c7 : ¬ 0 < p := fun q => c_7 (by have := nI_nle q hp; exact Int32.not_le.mp this)
    refine j_aload_n hX dX9_isTouched_10 0 rfl ?_
    refine j_get (v := .ref rr) hX hv rfl wf_X7 1 (by decide) lk_X9_19 (fun _ h => h) rfl dX9_isTouched_11 ?_
    refine j_getN (v := .int (nI pB)) hX hr9 rfl wf_X6 4 (by decide) nk_X9_37 (fun _ h => h) rfl dX9_isTouched_14 ?_
    refine j_if_le hX 24 dX9_isTouched_17 (by decide) (fun c_17 => ?_) (fun c_17 => ?_)
    · have c17 : ¬ 0 < pB := fun q => nI_nle q hpB c_17
      refine j_iconst (v := 0) hX dX9_isTouched_24 (by decide) ?_
      exact j_zret hX hE dX9_isTouched_25 (by first | rfl | decide | assumption) (⟨congrArg (fun z => some (Value.int z)) (b01_0 (by simp; omega)), rfl⟩) (by decide) (by decide)
    · have c17 : 0 < pB := Nat.pos_of_ne_zero (fun q => c_17 (by rw [q]; decide))
      refine j_iconst (v := 1) hX dX9_isTouched_20 (by decide) ?_
      refine j_goto hX 25 dX9_isTouched_21 (by decide) ?_
      exact j_zret hX hE dX9_isTouched_25 (by first | rfl | decide | assumption) (⟨congrArg (fun z => some (Value.int z)) (b01_1 (by simp [c17])), rfl⟩) (by decide) (by decide)

set_option maxRecDepth 20000 in
set_option maxHeartbeats 600000 in
/-- depth() of a view -/
theorem c_X6_depth_X8 (l : Launch) (K : Cst) (g : Wd) (r nw nx : Nat) (w pd ch : Int32) (v lr rr rw : Nat) (dp : Int32) (hr : g r = some (ob 6 [.ref nw, .ref nx, .ref v, .int w, .int pd, .int ch])) (hv : g v = some (ob 8 [.ref lr, .ref rr, .int dp, .ref rw])) : Ct l K yX6_depth cX6_depth 1 (some .int) 0 [.ref r] g (fun v g' => v = some (.int dp) ∧ g = g') (fun _ _ => False) 0 0 := by
  refine ct_of (by decide) (Nat.le_of_ble_eq_true rfl) ?_
  intro X hl hK hX hE hn hL hR hm
  subst hl; subst hK
  show J X 0 0 g 0 [(0, .ref r)] []
  refine j_aload_n hX dX6_depth_0 0 rfl ?_
  refine j_get (v := .ref v) hX hr rfl wf_X6 2 (by decide) lk_X6_19 (fun _ h => h) rfl dX6_depth_1 ?_
  refine j_ifnonnull_r hX 11 dX6_depth_4 (by decide) ?_
  refine j_aload_n hX dX6_depth_11 0 rfl ?_
  refine j_get (v := .ref v) hX hr rfl wf_X6 2 (by decide) lk_X6_19 (fun _ h => h) rfl dX6_depth_12 ?_
  refine j_get (v := .int dp) hX hv rfl wf_X8 2 (by decide) lk_X6_42 (fun _ h => h) rfl dX6_depth_15 ?_
  exact j_iret hX hE dX6_depth_18 (⟨rfl, rfl⟩) (by decide) (by decide)

set_option maxRecDepth 20000 in
set_option maxHeartbeats 600000 in
/-- isOf(source) of a view -/
theorem c_X6_isOf_X8 (l : Launch) (K : Cst) (g : Wd) (r nw nx : Nat) (w pd ch : Int32) (v lr rr rw sr : Nat) (dp : Int32) (hr : g r = some (ob 6 [.ref nw, .ref nx, .ref v, .int w, .int pd, .int ch])) (hv : g v = some (ob 8 [.ref lr, .ref rr, .int dp, .ref rw])) : Ct l K yX6_isOf cX6_isOf 2 (some .boolean) 0 [.ref r, .ref sr] g (fun v g' => v = some (.int (b01 (decide (lr = sr) || decide (rr = sr)))) ∧ g = g') (fun _ _ => False) 0 0 := by
  refine ct_of (by decide) (Nat.le_of_ble_eq_true rfl) ?_
  intro X hl hK hX hE hn hL hR hm
  subst hl; subst hK
  show J X 0 0 g 0 [(0, .ref r), (1, .ref sr)] []
  refine j_aload_n hX dX6_isOf_0 0 rfl ?_
  refine j_get (v := .ref v) hX hr rfl wf_X6 2 (by decide) lk_X6_19 (fun _ h => h) rfl dX6_isOf_1 ?_
  refine j_ifnull_r hX dX6_isOf_4 ?_
  refine j_aload_n hX dX6_isOf_7 0 rfl ?_
  refine j_get (v := .ref v) hX hr rfl wf_X6 2 (by decide) lk_X6_19 (fun _ h => h) rfl dX6_isOf_8 ?_
  refine j_get (v := .ref lr) hX hv rfl wf_X8 0 (by decide) lk_X6_33 (fun _ h => h) rfl dX6_isOf_11 ?_
  refine j_aload_n hX dX6_isOf_14 1 rfl ?_
  refine j_acmp_eq hX 29 dX6_isOf_15 (by decide) (fun c_15 => ?_) (fun c_15 => ?_)
  · refine j_iconst (v := 1) hX dX6_isOf_29 (by decide) ?_
    refine j_goto hX 34 dX6_isOf_30 (by decide) ?_
    exact j_zret hX hE dX6_isOf_34 (by first | rfl | decide | assumption) (⟨congrArg (fun z => some (Value.int z)) (b01_1 (by simp [c_15])), rfl⟩) (by decide) (by decide)
  · refine j_aload_n hX dX6_isOf_18 0 rfl ?_
    refine j_get (v := .ref v) hX hr rfl wf_X6 2 (by decide) lk_X6_19 (fun _ h => h) rfl dX6_isOf_19 ?_
    refine j_get (v := .ref rr) hX hv rfl wf_X8 1 (by decide) lk_X6_39 (fun _ h => h) rfl dX6_isOf_22 ?_
    refine j_aload_n hX dX6_isOf_25 1 rfl ?_
    refine j_acmp_ne hX 33 dX6_isOf_26 (by decide) (fun c_26 => ?_) (fun c_26 => ?_)
    · refine j_iconst (v := 0) hX dX6_isOf_33 (by decide) ?_
      exact j_zret hX hE dX6_isOf_34 (by first | rfl | decide | assumption) (⟨congrArg (fun z => some (Value.int z)) (b01_0 (by simp [c_15, c_26])), rfl⟩) (by decide) (by decide)
    · refine j_iconst (v := 1) hX dX6_isOf_29 (by decide) ?_
      refine j_goto hX 34 dX6_isOf_30 (by decide) ?_
      exact j_zret hX hE dX6_isOf_34 (by first | rfl | decide | assumption) (⟨congrArg (fun z => some (Value.int z)) (b01_1 (by simp [c_26])), rfl⟩) (by decide) (by decide)

set_option maxRecDepth 20000 in
set_option maxHeartbeats 600000 in
/-- isTouched() -/
theorem c_X9_isTouched_X8 (l : Launch) (K : Cst) (g : Wd) (v lr rr rw nw nx nwB nxB p pB : Nat) (vw vwB : Value) (w ch wB chB dp : Int32) (hv : g v = some (ob 8 [.ref lr, .ref rr, .int dp, .ref rw])) (hl9 : g lr = some (ob 6 [.ref nw, .ref nx, vw, .int w, .int (nI p), .int ch])) (hr9 : g rr = some (ob 6 [.ref nwB, .ref nxB, vwB, .int wB, .int (nI pB), .int chB])) (hp : p < 2 ^ 31) (hpB : pB < 2 ^ 31) : Ct l K yX9_isTouched cX9_isTouched 1 (some .boolean) 0 [.ref v] g (fun v g' => v = some (.int (b01 (decide (0 < p) || decide (0 < pB)))) ∧ g = g') (fun _ _ => False) 0 0 := by
  refine ct_of (by decide) (Nat.le_of_ble_eq_true rfl) ?_
  intro X hl hK hX hE hn hL hR hm
  subst hl; subst hK
  show J X 0 0 g 0 [(0, .ref v)] []
  refine j_aload_n hX dX9_isTouched_0 0 rfl ?_
  refine j_get (v := .ref lr) hX hv rfl wf_X8 0 (by decide) lk_X9_15 (fun _ h => h) rfl dX9_isTouched_1 ?_
  refine j_getN (v := .int (nI p)) hX hl9 rfl wf_X6 4 (by decide) nk_X9_37 (fun _ h => h) rfl dX9_isTouched_4 ?_
  refine j_if_gt hX 20 dX9_isTouched_7 (by decide) (fun c_7 => ?_) (fun c_7 => ?_)
  · have c7 : 0 < p := Nat.pos_of_ne_zero (fun q => by rw [q] at c_7; exact absurd c_7 (by decide))
    refine j_iconst (v := 1) hX dX9_isTouched_20 (by decide) ?_
    refine j_goto hX 25 dX9_isTouched_21 (by decide) ?_
    exact j_zret hX hE dX9_isTouched_25 (by first | rfl | decide | assumption) (⟨congrArg (fun z => some (Value.int z)) (b01_1 (by simp [c7])), rfl⟩) (by decide) (by decide)
  · have c7 : ¬ 0 < p := fun q => c_7 (by have := nI_nle q hp; exact Int32.not_le.mp this)
    refine j_aload_n hX dX9_isTouched_10 0 rfl ?_
    refine j_get (v := .ref rr) hX hv rfl wf_X8 1 (by decide) lk_X9_19 (fun _ h => h) rfl dX9_isTouched_11 ?_
    refine j_getN (v := .int (nI pB)) hX hr9 rfl wf_X6 4 (by decide) nk_X9_37 (fun _ h => h) rfl dX9_isTouched_14 ?_
    refine j_if_le hX 24 dX9_isTouched_17 (by decide) (fun c_17 => ?_) (fun c_17 => ?_)
    · have c17 : ¬ 0 < pB := fun q => nI_nle q hpB c_17
      refine j_iconst (v := 0) hX dX9_isTouched_24 (by decide) ?_
      exact j_zret hX hE dX9_isTouched_25 (by first | rfl | decide | assumption) (⟨congrArg (fun z => some (Value.int z)) (b01_0 (by simp; omega)), rfl⟩) (by decide) (by decide)
    · have c17 : 0 < pB := Nat.pos_of_ne_zero (fun q => c_17 (by rw [q]; decide))
      refine j_iconst (v := 1) hX dX9_isTouched_20 (by decide) ?_
      refine j_goto hX 25 dX9_isTouched_21 (by decide) ?_
      exact j_zret hX hE dX9_isTouched_25 (by first | rfl | decide | assumption) (⟨congrArg (fun z => some (Value.int z)) (b01_1 (by simp [c17])), rfl⟩) (by decide) (by decide)

set_option maxRecDepth 20000 in
set_option maxHeartbeats 600000 in
/-- depth() of no view -/
theorem c_X6_depth_n (l : Launch) (K : Cst) (g : Wd) (r nw nx : Nat) (w pd ch : Int32) (hr : g r = some (ob 6 [.ref nw, .ref nx, .null, .int w, .int pd, .int ch])) : Ct l K yX6_depth cX6_depth 1 (some .int) 0 [.ref r] g (fun v g' => v = some (.int 0) ∧ g = g') (fun _ _ => False) 0 0 := by
  refine ct_of (by decide) (Nat.le_of_ble_eq_true rfl) ?_
  intro X hl hK hX hE hn hL hR hm
  subst hl; subst hK
  show J X 0 0 g 0 [(0, .ref r)] []
  refine j_aload_n hX dX6_depth_0 0 rfl ?_
  refine j_get (v := .null) hX hr rfl wf_X6 2 (by decide) lk_X6_19 (fun _ h => h) rfl dX6_depth_1 ?_
  refine j_ifnonnull_n hX dX6_depth_4 ?_
  refine j_iconst (v := 0) hX dX6_depth_7 (by decide) ?_
  refine j_goto hX 18 dX6_depth_8 (by decide) ?_
  exact j_iret hX hE dX6_depth_18 (⟨rfl, rfl⟩) (by decide) (by decide)

set_option maxRecDepth 20000 in
set_option maxHeartbeats 600000 in
/-- isOf(source) of no view -/
theorem c_X6_isOf_n (l : Launch) (K : Cst) (g : Wd) (r nw nx : Nat) (w pd ch : Int32) (sr : Nat) (hr : g r = some (ob 6 [.ref nw, .ref nx, .null, .int w, .int pd, .int ch])) : Ct l K yX6_isOf cX6_isOf 2 (some .boolean) 0 [.ref r, .ref sr] g (fun v g' => v = some (.int 0) ∧ g = g') (fun _ _ => False) 0 0 := by
  refine ct_of (by decide) (Nat.le_of_ble_eq_true rfl) ?_
  intro X hl hK hX hE hn hL hR hm
  subst hl; subst hK
  show J X 0 0 g 0 [(0, .ref r), (1, .ref sr)] []
  refine j_aload_n hX dX6_isOf_0 0 rfl ?_
  refine j_get (v := .null) hX hr rfl wf_X6 2 (by decide) lk_X6_19 (fun _ h => h) rfl dX6_isOf_1 ?_
  refine j_ifnull_n hX 33 dX6_isOf_4 (by decide) ?_
  refine j_iconst (v := 0) hX dX6_isOf_33 (by decide) ?_
  exact j_zret hX hE dX6_isOf_34 (by first | rfl | decide | assumption) (⟨rfl, rfl⟩) (by decide) (by decide)
end
section
/-! A VIEW BY ITS KIND: 2 selection, 3 columns, 4 join, 5 union, 6 difference, 7 once, 8 group; n: its numbers, ot: by a column -/
def vnat (x : Int32) : Nat := x.toNatClampNeg
def chO (x : Int32) : Option Nat := if x < 0 then none else some x.toNatClampNeg
theorem vnat_nI {c : Nat} (h : c < 2 ^ 31) : vnat (nI c) = c := nI_clamp h
theorem chO_n : chO (-1) = none := by decide
theorem chO_s {c : Nat} (h : c < 2 ^ 31) : chO (nI c) = some c := by unfold chO; rw [if_neg (nI_pos h), nI_clamp h]
def selF1 (cm c tc : Nat) (x : Row × Nat) : Option (Row × Int) := if selH cm (cellR x.1 c) (cellR x.1 tc) = true then some (x.1, (x.2 : Int)) else none
def selF0 (cm c : Nat) (th : Int32) (x : Row × Nat) : Option (Row × Int) := if selH cm (cellR x.1 c) th = true then some (x.1, (x.2 : Int)) else none
def evalV (kd wl : Nat) (n : Nat → Int32) (ot : Bool) (L R : Bg) : Option Bg := match kd with
  | 2 => if ot = true then fldB (fun x : Row × Nat => if selH (vnat (n 1)) (cellR x.1 (vnat (n 0))) (cellR x.1 (vnat (n 2))) = true then some (x.1, (x.2 : Int)) else none) L [] else fldB (fun x : Row × Nat => if selH (vnat (n 1)) (cellR x.1 (vnat (n 0))) (n 2) = true then some (x.1, (x.2 : Int)) else none) L []
  | 3 => fldB (fun x : Row × Nat => some (pickR (fun i => chO (n i)) x.1, (x.2 : Int))) L []
  | 4 => fldB (jnF (vnat (n 0)) (vnat (n 1)) wl) (prs L R) []
  | 5 => fldB (fun x : Row × Nat => some (x.1, (x.2 : Int))) R L
  | 6 => fldB (fun x : Row × Nat => some (x.1, (x.2 : Int) - (tms R x.1 : Int))) L []
  | 7 => fldB (fun x : Row × Nat => some (x.1, (1 : Int))) L []
  | 8 => fldB (grF (chO (n 0)) (vnat (n 1)) (vnat (n 2)) L) (List.range L.length) []
  | _ => none
def vpOK (kd wl : Nat) (n : Nat → Int32) (ot : Bool) : Prop := match kd with
  | 2 => (∃ c, c < 4 ∧ n 0 = nI c) ∧ (∃ cm, cm ≤ 5 ∧ n 1 = nI cm) ∧ (ot = true → ∃ tc, tc < 4 ∧ n 2 = nI tc)
  | 3 => ∀ i, n i = -1 ∨ ∃ c, c < 4 ∧ n i = nI c
  | 4 => (∃ c, c < 4 ∧ n 0 = nI c) ∧ (∃ d, d < 4 ∧ n 1 = nI d) ∧ wl ≤ 4
  | 8 => (n 0 = -1 ∨ ∃ c, c < 4 ∧ n 0 = nI c) ∧ (∃ st, st ≤ 3 ∧ n 1 = nI st) ∧ ∃ c, c < 4 ∧ n 2 = nI c
  | _ => True
def rowIv (kd : Nat) (n rf : Nat → Int32) : Prop := kd = 8 → rowI (chO (n 0)) rf
def vwAt (K : Cst) (g : Wd) (v kd lr rr dp rw ck : Nat) (n : Nat → Int32) (ot : Bool) : Prop := match kd with
  | 2 => g v = some (ob 7 [.ref lr, .ref rr, .int (nI dp), .ref rw, .int (n 0), .int (n 1), .int (n 2), .int (b01 ot)])
  | 3 => g v = some (ob 1 [.ref lr, .ref rr, .int (nI dp), .ref rw, .ref ck]) ∧ g ck = some (aI K 4 n) ∧ ck ≠ rw
  | 4 => g v = some (ob 4 [.ref lr, .ref rr, .int (nI dp), .ref rw, .int (n 0), .int (n 1)])
  | 5 => g v = some (ob 8 [.ref lr, .ref rr, .int (nI dp), .ref rw])
  | 6 => g v = some (ob 2 [.ref lr, .ref rr, .int (nI dp), .ref rw])
  | 7 => g v = some (ob 5 [.ref lr, .ref rr, .int (nI dp), .ref rw])
  | 8 => g v = some (ob 3 [.ref lr, .ref rr, .int (nI dp), .ref rw, .int (n 0), .int (n 1), .int (n 2)])
  | _ => False
theorem mkP.mono {K : Cst} {g : Wd} {b ca oa rw : Nat} {I I' : (Nat → Int32) → Prop} {o : Option Bg} {v : Option Value} {g' : Wd} (h : mkP K g b ca oa rw I o v g') (hI : ∀ rf, I rf → I' rf) : mkP K g b ca oa rw I' o v g' := by
  obtain ⟨h1, ⟨rf, h2, h3⟩, h4⟩ := h
  exact ⟨h1, ⟨rf, h2, hI rf h3⟩, h4⟩
abbrev yVmk : MethodName := ⟨"BagViews$View", "makeInto", "(LBagViews$Bag;)Z"⟩
abbrev yVto : MethodName := ⟨"BagViews$View", "isTouched", "()Z"⟩
set_option maxRecDepth 20000 in
set_option maxHeartbeats 1000000 in
theorem j_make {X : Cx} {cc : ByteArray} {own : String} {kc ks : Nat} {g : Wd} {pc : Nat} {lv : List (Nat × Value)} {rest : List Value} (hX : OK X cc own) {idx : Nat} (wk : Cond.methodLink own idx yVmk ∈ wsL_law) {v kd lr rr dp rw ck : Nat} {n : Nat → Int32} {ot : Bool} (hv : vwAt (xK X) g v kd lr rr dp rw ck n ot) {rf0 : Nat → Int32} (hrw : g rw = some (aI (xK X) 4 rf0)) (hri : rowIv kd n rf0) {b ca oa : Nat} (hI : bagR (xK X) g b ca oa []) (nw nx p : Nat) (vw : Value) (wl : Nat) (ch : Int32) (hlr : g lr = some (ob 6 [.ref nw, .ref nx, vw, .int (nI wl), .int (nI p), .int ch])) (hp : p < 2 ^ 31) (lb lca loa : Nat) (L : Bg) (hlb : (if 0 < p then nx else nw) = lb) (hL : bagR (xK X) g lb lca loa L) (gL : good L) (nb : lb ≠ b) (nca : lca ≠ ca) (noa : loa ≠ oa) (nwB nxB pB : Nat) (vwB : Value) (wr : Nat) (chB : Int32) (hlrB : g rr = some (ob 6 [.ref nwB, .ref nxB, vwB, .int (nI wr), .int (nI pB), .int chB])) (hpB : pB < 2 ^ 31) (lbB lcaB loaB : Nat) (LB : Bg) (hlbB : (if 0 < pB then nxB else nwB) = lbB) (hLB : bagR (xK X) g lbB lcaB loaB LB) (gLB : good LB) (nbB : lbB ≠ b) (ncaB : lcaB ≠ ca) (noaB : loaB ≠ oa) (hvp : vpOK kd wl n ot) (hlev : 5 ≤ xlev X) (hrest : (rest.map fun v => v.category).sum ≤ 8) (hkc : kc ≤ (xR X).cells) (hks : ks ≤ (xR X).slots) (d : decode cc pc = .ok (.invokevirtual idx, 3))
    (kk : ∀ o g', mkP (xK X) g b ca oa rw (rowIv kd n) (evalV kd wl n ot L LB) o g' → J X kc ks g' (pc + 3) lv (o.toList ++ rest)) : J X kc ks g pc lv (.ref b :: .ref v :: rest) := by
  match kd, hv, hri, hvp, kk with
  | 2, hv, hri, hvp, kk =>
    obtain ⟨⟨c, hc, e0⟩, ⟨cm, hcm, e1⟩, ht⟩ := hvp
    simp only [vwAt] at hv
    simp only [evalV, e0, e1, vnat_nI (show c < 2 ^ 31 by omega), vnat_nI (show cm < 2 ^ 31 by omega)] at kk
    rw [e0, e1] at hv
    rcases hot : ot with _ | _
    · rw [hot] at hv kk
      refine j_callA (na := 1) (As := [.ref b]) (rest := rest) hX (c_X7_makeInto_f (xl X) (xK X) g b ca oa rw rf0 hI hrw v rr (nI dp) c cm (n 2) hc hcm lr nw nx p vw (nI wl) ch hlr hp lb lca loa L hlb hL gL nb nca noa hv) hv rfl wk wz_5 nd_31 wI_X7_makeInto wV_X7_X7_makeInto wN_X7 wC_X7_makeInto rfl (by decide +kernel) rfl hlev (by decide) rfl hrest d (by omega) (by omega) (fun o9 g9 h9 => kk o9 g9 ?_)
      exact mkP.mono h9 (fun rf _ => fun q => absurd q (by decide))
    · obtain ⟨tc, htc, e2⟩ := ht hot
      rw [hot, e2] at hv
      simp only [hot, e2, vnat_nI (show tc < 2 ^ 31 by omega), if_true] at kk
      refine j_callA (na := 1) (As := [.ref b]) (rest := rest) hX (c_X7_makeInto_t (xl X) (xK X) g b ca oa rw rf0 hI hrw v rr (nI dp) c cm tc hc hcm htc lr nw nx p vw (nI wl) ch hlr hp lb lca loa L hlb hL gL nb nca noa hv) hv rfl wk wz_5 nd_31 wI_X7_makeInto wV_X7_X7_makeInto wN_X7 wC_X7_makeInto rfl (by decide +kernel) rfl hlev (by decide) rfl hrest d (by omega) (by omega) (fun o9 g9 h9 => kk o9 g9 ?_)
      exact mkP.mono h9 (fun rf _ => fun q => absurd q (by decide))
  | 3, hv, hri, hvp, kk =>
    obtain ⟨hv, hck, nck⟩ := hv
    have en : n = fun i => chv (chO (n i)) := funext fun i => by
      rcases hvp i with e | ⟨c, hc, e⟩
      · rw [e, chO_n]; rfl
      · rw [e, chO_s (by omega)]; rfl
    refine j_callA (na := 1) (As := [.ref b]) (rest := rest) hX (c_X1_makeInto (xl X) (xK X) g b ca oa rw rf0 hI hrw v rr ck (nI dp) (fun i => chO (n i)) (fun i _ c e => by
        rcases hvp i with q | ⟨c9, hc9, q⟩
        · rw [q, chO_n] at e; cases e
        · rw [q, chO_s (by omega)] at e; cases e; exact hc9) (by rw [← en]; exact hck) nck lr nw nx p vw (nI wl) ch hlr hp lb lca loa L hlb hL gL nb nca noa hv) hv rfl wk wz_5 nd_31 wI_X1_makeInto wV_X1_X1_makeInto wN_X1 wC_X1_makeInto rfl (by decide +kernel) rfl hlev (by decide) rfl hrest d (by omega) (by omega) (fun o9 g9 h9 => kk o9 g9 ?_)
    exact mkP.mono h9 (fun rf _ => fun q => absurd q (by decide))
  | 4, hv, hri, hvp, kk =>
    obtain ⟨⟨c, hc, e0⟩, ⟨d9, hd9, e1⟩, hwl⟩ := hvp
    simp only [vwAt] at hv
    rw [e0, e1] at hv
    simp only [evalV, e0, e1, vnat_nI (show c < 2 ^ 31 by omega), vnat_nI (show d9 < 2 ^ 31 by omega)] at kk
    refine j_callA (na := 1) (As := [.ref b]) (rest := rest) hX (c_X4_makeInto (xl X) (xK X) g b ca oa rw rf0 hI hrw v (nI dp) c d9 wl hc hd9 hwl lr nw nx p vw ch hlr hp lb lca loa L hlb hL gL nb nca noa rr nwB nxB pB vwB (nI wr) chB hlrB hpB lbB lcaB loaB LB hlbB hLB gLB nbB ncaB noaB hv) hv rfl wk wz_5 nd_31 wI_X4_makeInto wV_X4_X4_makeInto wN_X4 wC_X4_makeInto rfl (by decide +kernel) rfl hlev (by decide) rfl hrest d (by omega) (by omega) (fun o9 g9 h9 => kk o9 g9 ?_)
    exact mkP.mono h9 (fun rf _ => fun q => absurd q (by decide))
  | 5, hv, hri, hvp, kk =>
    refine j_callA (na := 1) (As := [.ref b]) (rest := rest) hX (c_X8_makeInto (xl X) (xK X) g b ca oa rw rf0 hI hrw v (nI dp) lr nw nx p vw (nI wl) ch hlr hp lb lca loa L hlb hL gL nb nca noa rr nwB nxB pB vwB (nI wr) chB hlrB hpB lbB lcaB loaB LB hlbB hLB gLB nbB ncaB noaB hv) (show g v = some (ob _ _) from hv) rfl wk wz_5 nd_31 wI_X8_makeInto wV_X8_X8_makeInto wN_X8 wC_X8_makeInto rfl (by decide +kernel) rfl hlev (by decide) rfl hrest d (by omega) (by omega) (fun o9 g9 h9 => kk o9 g9 ?_)
    exact mkP.mono h9 (fun rf _ => fun q => absurd q (by decide))
  | 6, hv, hri, hvp, kk =>
    refine j_callA (na := 1) (As := [.ref b]) (rest := rest) hX (c_X2_makeInto (xl X) (xK X) g b ca oa rw rf0 hI hrw v (nI dp) lr nw nx p vw (nI wl) ch hlr hp lb lca loa L hlb hL gL nb nca noa rr nwB nxB pB vwB (nI wr) chB hlrB hpB lbB lcaB loaB LB hlbB hLB gLB nbB ncaB noaB hv) (show g v = some (ob _ _) from hv) rfl wk wz_5 nd_31 wI_X2_makeInto wV_X2_X2_makeInto wN_X2 wC_X2_makeInto rfl (by decide +kernel) rfl hlev (by decide) rfl hrest d (by omega) (by omega) (fun o9 g9 h9 => kk o9 g9 ?_)
    exact mkP.mono h9 (fun rf _ => fun q => absurd q (by decide))
  | 7, hv, hri, hvp, kk =>
    refine j_callA (na := 1) (As := [.ref b]) (rest := rest) hX (c_X5_makeInto (xl X) (xK X) g b ca oa rw rf0 hI hrw v rr (nI dp) lr nw nx p vw (nI wl) ch hlr hp lb lca loa L hlb hL gL nb nca noa hv) (show g v = some (ob _ _) from hv) rfl wk wz_5 nd_31 wI_X5_makeInto wV_X5_X5_makeInto wN_X5 wC_X5_makeInto rfl (by decide +kernel) rfl hlev (by decide) rfl hrest d (by omega) (by omega) (fun o9 g9 h9 => kk o9 g9 ?_)
    exact mkP.mono h9 (fun rf _ => fun q => absurd q (by decide))
  | 8, hv, hri, hvp, kk =>
    obtain ⟨e0, ⟨st, hst, e1⟩, ⟨c, hc, e2⟩⟩ := hvp
    simp only [vwAt] at hv
    rw [e1, e2] at hv
    simp only [evalV, e1, e2, vnat_nI (show c < 2 ^ 31 by omega), vnat_nI (show st < 2 ^ 31 by omega)] at kk
    have en : n 0 = chv (chO (n 0)) := by
      rcases e0 with e | ⟨c9, hc9, e⟩
      · rw [e, chO_n]; rfl
      · rw [e, chO_s (by omega)]; rfl
    rw [en] at hv
    refine j_callA (na := 1) (As := [.ref b]) (rest := rest) hX (c_X3_makeInto (xl X) (xK X) g b ca oa rw rf0 hI hrw v rr (nI dp) (chO (n 0)) st c (fun cb e => by
        rcases e0 with q | ⟨c9, hc9, q⟩
        · rw [q, chO_n] at e; cases e
        · rw [q, chO_s (by omega)] at e; cases e; exact hc9) hst hc (hri rfl) lr nw nx p vw (nI wl) ch hlr hp lb lca loa L hlb hL gL nb nca noa hv) hv rfl wk wz_5 nd_31 wI_X3_makeInto wV_X3_X3_makeInto wN_X3 wC_X3_makeInto rfl (by decide +kernel) rfl hlev (by decide) rfl hrest d (by omega) (by omega) (fun o9 g9 h9 => kk o9 g9 ?_)
    exact mkP.mono h9 (fun rf h _ => h)
  | 0, hv, _, _, _ => exact hv.elim
  | 1, hv, _, _, _ => exact hv.elim
  | _ + 9, hv, _, _, _ => exact hv.elim
set_option maxRecDepth 20000 in
set_option maxHeartbeats 1000000 in
theorem j_touch {X : Cx} {cc : ByteArray} {own : String} {kc ks : Nat} {g : Wd} {pc : Nat} {lv : List (Nat × Value)} {rest : List Value} (hX : OK X cc own) {idx : Nat} (wk : Cond.methodLink own idx yVto ∈ wsL_law) {v kd lr rr dp rw ck : Nat} {n : Nat → Int32} {ot : Bool} (hv : vwAt (xK X) g v kd lr rr dp rw ck n ot) (nw nx nwB nxB p pB : Nat) (vw vwB : Value) (w ch wB chB : Int32) (hl9 : g lr = some (ob 6 [.ref nw, .ref nx, vw, .int w, .int (nI p), .int ch])) (hr9 : g rr = some (ob 6 [.ref nwB, .ref nxB, vwB, .int wB, .int (nI pB), .int chB])) (hp : p < 2 ^ 31) (hpB : pB < 2 ^ 31) (hlev : 1 ≤ xlev X) (hrest : (rest.map fun v => v.category).sum ≤ 8) (hkc : kc ≤ (xR X).cells) (hks : ks ≤ (xR X).slots) (d : decode cc pc = .ok (.invokevirtual idx, 3))
    (kk : J X kc ks g (pc + 3) lv (.int (b01 (decide (0 < p) || decide (0 < pB))) :: rest)) : J X kc ks g pc lv (.ref v :: rest) := by
  match kd, hv with
  | 2, hv =>
    refine j_callU (na := 0) (As := []) (rest := rest) hX (c_X9_isTouched_X7 (xl X) (xK X) g v lr rr rw nw nx nwB nxB p pB vw vwB w ch wB chB (nI dp) (n 0) (n 1) (n 2) (b01 ot) hv hl9 hr9 hp hpB) (show g v = some (ob _ _) from hv) rfl wk wz_27 rfl wI_X9_isTouched wV_X7_X9_isTouched wN_X9 wC_X9_isTouched (by decide +kernel) rfl hlev (by decide) rfl hrest d (by omega) (by omega) ?_
    rintro _ _ ⟨rfl, rfl⟩
    exact kk
  | 3, hv =>
    refine j_callU (na := 0) (As := []) (rest := rest) hX (c_X9_isTouched_X1 (xl X) (xK X) g v lr rr rw nw nx nwB nxB p pB vw vwB w ch wB chB (nI dp) ck hv.1 hl9 hr9 hp hpB) (show g v = some (ob _ _) from hv.1) rfl wk wz_27 rfl wI_X9_isTouched wV_X1_X9_isTouched wN_X9 wC_X9_isTouched (by decide +kernel) rfl hlev (by decide) rfl hrest d (by omega) (by omega) ?_
    rintro _ _ ⟨rfl, rfl⟩
    exact kk
  | 4, hv =>
    refine j_callU (na := 0) (As := []) (rest := rest) hX (c_X9_isTouched_X4 (xl X) (xK X) g v lr rr rw nw nx nwB nxB p pB vw vwB w ch wB chB (nI dp) (n 0) (n 1) hv hl9 hr9 hp hpB) (show g v = some (ob _ _) from hv) rfl wk wz_27 rfl wI_X9_isTouched wV_X4_X9_isTouched wN_X9 wC_X9_isTouched (by decide +kernel) rfl hlev (by decide) rfl hrest d (by omega) (by omega) ?_
    rintro _ _ ⟨rfl, rfl⟩
    exact kk
  | 5, hv =>
    refine j_callU (na := 0) (As := []) (rest := rest) hX (c_X9_isTouched_X8 (xl X) (xK X) g v lr rr rw nw nx nwB nxB p pB vw vwB w ch wB chB (nI dp)  hv hl9 hr9 hp hpB) (show g v = some (ob _ _) from hv) rfl wk wz_27 rfl wI_X9_isTouched wV_X8_X9_isTouched wN_X9 wC_X9_isTouched (by decide +kernel) rfl hlev (by decide) rfl hrest d (by omega) (by omega) ?_
    rintro _ _ ⟨rfl, rfl⟩
    exact kk
  | 6, hv =>
    refine j_callU (na := 0) (As := []) (rest := rest) hX (c_X9_isTouched_X2 (xl X) (xK X) g v lr rr rw nw nx nwB nxB p pB vw vwB w ch wB chB (nI dp)  hv hl9 hr9 hp hpB) (show g v = some (ob _ _) from hv) rfl wk wz_27 rfl wI_X9_isTouched wV_X2_X9_isTouched wN_X9 wC_X9_isTouched (by decide +kernel) rfl hlev (by decide) rfl hrest d (by omega) (by omega) ?_
    rintro _ _ ⟨rfl, rfl⟩
    exact kk
  | 7, hv =>
    refine j_callU (na := 0) (As := []) (rest := rest) hX (c_X9_isTouched_X5 (xl X) (xK X) g v lr rr rw nw nx nwB nxB p pB vw vwB w ch wB chB (nI dp)  hv hl9 hr9 hp hpB) (show g v = some (ob _ _) from hv) rfl wk wz_27 rfl wI_X9_isTouched wV_X5_X9_isTouched wN_X9 wC_X9_isTouched (by decide +kernel) rfl hlev (by decide) rfl hrest d (by omega) (by omega) ?_
    rintro _ _ ⟨rfl, rfl⟩
    exact kk
  | 8, hv =>
    refine j_callU (na := 0) (As := []) (rest := rest) hX (c_X9_isTouched_X3 (xl X) (xK X) g v lr rr rw nw nx nwB nxB p pB vw vwB w ch wB chB (nI dp) (n 0) (n 1) (n 2) hv hl9 hr9 hp hpB) (show g v = some (ob _ _) from hv) rfl wk wz_27 rfl wI_X9_isTouched wV_X3_X9_isTouched wN_X9 wC_X9_isTouched (by decide +kernel) rfl hlev (by decide) rfl hrest d (by omega) (by omega) ?_
    rintro _ _ ⟨rfl, rfl⟩
    exact kk
  | 0, hv => exact hv.elim
  | 1, hv => exact hv.elim
  | _ + 9, hv => exact hv.elim
theorem c_X6_depth (l : Launch) (K : Cst) (g : Wd) (r nw nx : Nat) (w pd ch : Int32) (v kd lr rr dp rw ck : Nat) (n : Nat → Int32) (ot : Bool) (hr : g r = some (ob 6 [.ref nw, .ref nx, .ref v, .int w, .int pd, .int ch])) (hv : vwAt K g v kd lr rr dp rw ck n ot) : Ct l K yX6_depth cX6_depth 1 (some .int) 0 [.ref r] g (fun v g' => v = some (.int (nI dp)) ∧ g = g') (fun _ _ => False) 0 0 := by
  match kd, hv with
  | 2, hv => exact c_X6_depth_X7 l K g r nw nx w pd ch v lr rr rw  (nI dp) (n 0) (n 1) (n 2) (b01 ot) hr hv
  | 3, hv => exact c_X6_depth_X1 l K g r nw nx w pd ch v lr rr rw  (nI dp) ck hr hv.1
  | 4, hv => exact c_X6_depth_X4 l K g r nw nx w pd ch v lr rr rw  (nI dp) (n 0) (n 1) hr hv
  | 5, hv => exact c_X6_depth_X8 l K g r nw nx w pd ch v lr rr rw  (nI dp)  hr hv
  | 6, hv => exact c_X6_depth_X2 l K g r nw nx w pd ch v lr rr rw  (nI dp)  hr hv
  | 7, hv => exact c_X6_depth_X5 l K g r nw nx w pd ch v lr rr rw  (nI dp)  hr hv
  | 8, hv => exact c_X6_depth_X3 l K g r nw nx w pd ch v lr rr rw  (nI dp) (n 0) (n 1) (n 2) hr hv
  | 0, hv => exact hv.elim
  | 1, hv => exact hv.elim
  | _ + 9, hv => exact hv.elim
theorem c_X6_isOf (l : Launch) (K : Cst) (g : Wd) (r nw nx : Nat) (w pd ch : Int32) (v kd lr rr dp rw ck : Nat) (n : Nat → Int32) (ot : Bool) (sr : Nat) (hr : g r = some (ob 6 [.ref nw, .ref nx, .ref v, .int w, .int pd, .int ch])) (hv : vwAt K g v kd lr rr dp rw ck n ot) : Ct l K yX6_isOf cX6_isOf 2 (some .boolean) 0 [.ref r, .ref sr] g (fun v g' => v = some (.int (b01 (decide (lr = sr) || decide (rr = sr)))) ∧ g = g') (fun _ _ => False) 0 0 := by
  match kd, hv with
  | 2, hv => exact c_X6_isOf_X7 l K g r nw nx w pd ch v lr rr rw sr (nI dp) (n 0) (n 1) (n 2) (b01 ot) hr hv
  | 3, hv => exact c_X6_isOf_X1 l K g r nw nx w pd ch v lr rr rw sr (nI dp) ck hr hv.1
  | 4, hv => exact c_X6_isOf_X4 l K g r nw nx w pd ch v lr rr rw sr (nI dp) (n 0) (n 1) hr hv
  | 5, hv => exact c_X6_isOf_X8 l K g r nw nx w pd ch v lr rr rw sr (nI dp)  hr hv
  | 6, hv => exact c_X6_isOf_X2 l K g r nw nx w pd ch v lr rr rw sr (nI dp)  hr hv
  | 7, hv => exact c_X6_isOf_X5 l K g r nw nx w pd ch v lr rr rw sr (nI dp)  hr hv
  | 8, hv => exact c_X6_isOf_X3 l K g r nw nx w pd ch v lr rr rw sr (nI dp) (n 0) (n 1) (n 2) hr hv
  | 0, hv => exact hv.elim
  | 1, hv => exact hv.elim
  | _ + 9, hv => exact hv.elim
end
section
theorem vwAt.at {K : Cst} {g g' : Wd} {ad : List Nat} {v kd lr rr dp rw ck : Nat} {n : Nat → Int32} {ot : Bool} (h : vwAt K g v kd lr rr dp rw ck n ot) (hF : Fr g g' ad) (h1 : v ∉ ad) (h2 : kd = 3 → ck ∉ ad) : vwAt K g' v kd lr rr dp rw ck n ot := by
  match kd, h, h2 with
  | 2, h, _ => exact hF.at h h1
  | 3, h, h2 => exact ⟨hF.at h.1 h1, hF.at h.2.1 (h2 rfl), h.2.2⟩
  | 4, h, _ => exact hF.at h h1
  | 5, h, _ => exact hF.at h h1
  | 6, h, _ => exact hF.at h h1
  | 7, h, _ => exact hF.at h h1
  | 8, h, _ => exact hF.at h h1
  | 0, h, _ => exact h.elim
  | 1, h, _ => exact h.elim
  | _ + 9, h, _ => exact h.elim
theorem vwAt.ne {K : Cst} {g : Wd} {v kd lr rr dp rw ck q : Nat} {n : Nat → Int32} {ot : Bool} {e : va_E} (h : vwAt K g v kd lr rr dp rw ck n ot) (hq : g q = some e) (he : (∀ fs, e = ob 0 fs → True) ∧ (∀ ci fs, e = ob ci fs → ci = 0 ∨ ci = 6 ∨ ci = 9 ∨ ci = 10)) : v ≠ q := by
  have key9 : ∀ {ci : Nat} {fs : List Value}, g v = some (ob ci fs) → (ci ≠ 0 ∧ ci ≠ 6 ∧ ci ≠ 9 ∧ ci ≠ 10) → v ≠ q := fun {ci fs} hv hn z => by
    rw [z, hq] at hv
    rcases he.2 ci fs (Option.some.inj hv) with r | r | r | r
    · exact hn.1 r
    · exact hn.2.1 r
    · exact hn.2.2.1 r
    · exact hn.2.2.2 r
  match kd, h with
  | 2, h => exact key9 h (by decide)
  | 3, h => exact key9 h.1 (by decide)
  | 4, h => exact key9 h (by decide)
  | 5, h => exact key9 h (by decide)
  | 6, h => exact key9 h (by decide)
  | 7, h => exact key9 h (by decide)
  | 8, h => exact key9 h (by decide)
  | 0, h => exact h.elim
  | 1, h => exact h.elim
  | _ + 9, h => exact h.elim
/-- what remake leaves: t: the view is touched, o: its rows made anew, C: what it had -/
def remP (K : Cst) (g : Wd) (r nw nx xc xo rw v : Nat) (w ch : Int32) (I : (Nat → Int32) → Prop) (t : Bool) (o : Option Bg) (C : Bg) (a : Option Value) (g' : Wd) : Prop :=
  if t = true then Fr g g' [nx, xc, xo, rw, r] ∧ (∃ rf, g' rw = some (aI K 4 rf) ∧ I rf) ∧ (match o with
    | none => a = some (.int 0) ∧ (∃ n cf tf, isBag K g' nx xc xo n cf tf) ∧ g' r = g r
    | some B' => a = some (.int 1) ∧ bagR K g' nx xc xo B' ∧ good B' ∧ g' r = some (ob 6 [.ref nw, .ref nx, .ref v, .int w, .int (nI (dif B' C)), .int ch]))
  else a = some (.int 1) ∧ g = g'
set_option maxRecDepth 20000 in
set_option maxHeartbeats 600000 in
/-- remake() of no view -/
theorem c_X6_remake_n (l : Launch) (K : Cst) (g : Wd) (r nw nx : Nat) (w pd ch : Int32) (hr : g r = some (ob 6 [.ref nw, .ref nx, .null, .int w, .int pd, .int ch])) : Ct l K yX6_remake cX6_remake 1 (some .boolean) 6 [.ref r] g (fun v g' => v = some (.int 1) ∧ g = g') (fun _ _ => False) 0 0 := by
  refine ct_of (by decide) (Nat.le_of_ble_eq_true rfl) ?_
  intro X hl hK hX hE hn hL hR hm
  subst hl; subst hK
  show J X 0 0 g 0 [(0, .ref r)] []
  refine j_aload_n hX dX6_remake_0 0 rfl ?_
  refine j_get (v := .null) hX hr rfl wf_X6 2 (by decide) lk_X6_19 (fun _ h => h) rfl dX6_remake_1 ?_
  refine j_ifnull_n hX 17 dX6_remake_4 (by decide) ?_
  refine j_iconst (v := 1) hX dX6_remake_17 (by decide) ?_
  exact j_zret hX hE dX6_remake_18 (by first | rfl | decide | assumption) (⟨rfl, rfl⟩) (by decide) (by decide)

set_option maxRecDepth 20000 in
set_option maxHeartbeats 600000 in
/-- remake() -/
theorem c_X6_remake (l : Launch) (K : Cst) (g : Wd) (r nw nx : Nat) (w ch : Int32) (v kd lr rr dp rw ck : Nat) (n : Nat → Int32) (ot : Bool) (hr : g r = some (ob 6 [.ref nw, .ref nx, .ref v, .int w, .int 0, .int ch])) (hv : vwAt K g v kd lr rr dp rw ck n ot) (rf0 : Nat → Int32) (hrw : g rw = some (aI K 4 rf0)) (hri : rowIv kd n rf0)
    (xc xo xn : Nat) (xcf xtf : Nat → Int32) (hXB : isBag K g nx xc xo xn xcf xtf) (nc no : Nat) (C : Bg) (hNB : bagR K g nw nc no C) (gC : good C) (n1 : nw ≠ nx) (n2 : nc ≠ xc) (n3 : no ≠ xo)
    (nwL nxL pL : Nat) (vwL : Value) (wl : Nat) (chL : Int32) (hlr : g lr = some (ob 6 [.ref nwL, .ref nxL, vwL, .int (nI wl), .int (nI pL), .int chL])) (hpL : pL < 2 ^ 31) (lb lca loa : Nat) (L : Bg) (hlb : (if 0 < pL then nxL else nwL) = lb) (hL9 : bagR K g lb lca loa L) (gL : good L) (nb : lb ≠ nx) (nca : lca ≠ xc) (noa : loa ≠ xo)
    (nwB nxB pB : Nat) (vwB : Value) (wr : Nat) (chB : Int32) (hrr : g rr = some (ob 6 [.ref nwB, .ref nxB, vwB, .int (nI wr), .int (nI pB), .int chB])) (hpB : pB < 2 ^ 31) (lbB lcaB loaB : Nat) (LB : Bg) (hlbB : (if 0 < pB then nxB else nwB) = lbB) (hLB9 : bagR K g lbB lcaB loaB LB) (gLB : good LB) (nbB : lbB ≠ nx) (ncaB : lcaB ≠ xc) (noaB : loaB ≠ xo) (hvp : vpOK kd wl n ot) : Ct l K yX6_remake cX6_remake 1 (some .boolean) 6 [.ref r] g (remP K g r nw nx xc xo rw v w ch (rowIv kd n) (decide (0 < pL) || decide (0 < pB)) (evalV kd wl n ot L LB) C) (fun _ _ => False) 0 0 := by
  refine ct_of (by decide) (Nat.le_of_ble_eq_true rfl) ?_
  intro X hl hK hX hE hn hL hR hm
  subst hl; subst hK
  show J X 0 0 g 0 [(0, .ref r)] []
  have n_nx_rw : nx ≠ rw := ne_ob hXB.1 hrw (by simp)
  have n_xc_rw : xc ≠ rw := ne_ob hXB.2.1 hrw (by simp)
  have n_xo_rw : xo ≠ rw := ne_ob hXB.2.2 hrw (by simp)
  have n_r_nx : r ≠ nx := ne_ob hr hXB.1 (by simp)
  have n_r_xc : r ≠ xc := ne_ob hr hXB.2.1 (by simp)
  have n_r_xo : r ≠ xo := ne_ob hr hXB.2.2 (by simp)
  have n_r_rw : r ≠ rw := ne_ob hr hrw (by simp)
  have n_v_nx : v ≠ nx := hv.ne hXB.1 ⟨fun _ _ => trivial, fun ci fs e => by simp at e; omega⟩
  have n_v_r : v ≠ r := hv.ne hr ⟨fun _ _ => trivial, fun ci fs e => by simp at e; omega⟩
  have n_lr_nx : lr ≠ nx := ne_ob hlr hXB.1 (by simp)
  have n_rr_nx : rr ≠ nx := ne_ob hrr hXB.1 (by simp)
  have n_rw_nx := n_nx_rw.symm
  refine j_aload_n hX dX6_remake_0 0 rfl ?_
  refine j_get (v := .ref v) hX hr rfl wf_X6 2 (by decide) lk_X6_19 (fun _ h => h) rfl dX6_remake_1 ?_
  refine j_ifnull_r hX dX6_remake_4 ?_
  refine j_aload_n hX dX6_remake_7 0 rfl ?_
  refine j_get (v := .ref v) hX hr rfl wf_X6 2 (by decide) lk_X6_19 (fun _ h => h) rfl dX6_remake_8 ?_
  refine j_touch hX lk_X6_45 hv nwL nxL nwB nxB pL pB vwL vwB (nI wl) chL (nI wr) chB hlr hrr hpL hpB (by rw [hL]; decide) (by decide) (by rw [hR]; decide) (by rw [hR]; decide) dX6_remake_11 ?_
  show J X 0 0 g 14 [(0, .ref r)] [.int (b01 (decide (0 < pL) || decide (0 < pB)))]
  refine j_if_ne hX 19 dX6_remake_14 (by decide) (fun c_14 => ?_) (fun c_14 => ?_)
  · have c14 : (decide (0 < pL) || decide (0 < pB)) = true := b01_t c_14
    refine j_aload_n hX dX6_remake_19 0 rfl ?_
    refine j_get (v := .ref nx) hX hr rfl wf_X6 1 (by decide) lk_X6_16 (fun _ h => h) rfl dX6_remake_20 ?_
    refine j_callV (As := []) (rest := []) hX (c_X0_clear (xl X) (xK X) g nx xc xo xn xcf xtf hXB) hXB.1 rfl lk_X6_49 wI_X0_clear wV_X0_X0_clear wN_X0 wC_X0_clear hd_X0_clear rfl (by rw [hL]; decide) (by decide) rfl (Nat.le_of_ble_eq_true rfl) dX6_remake_23 (by rw [hR]; decide) (by rw [hR]; decide) jx_no ?_
    rintro _ g1 ⟨rfl, XB1, hF1⟩
    have r1 := Fr.at hF1 hr (nm1 n_r_nx)
    have rw1 := Fr.at hF1 hrw (nm1 n_rw_nx)
    have v1 := vwAt.at hv hF1 (nm1 n_v_nx) (fun q => by subst q; exact nm1 (ne_ob hv.2.1 hXB.1 (by simp)))
    have lr1 := Fr.at hF1 hlr (nm1 n_lr_nx)
    have rr1 := Fr.at hF1 hrr (nm1 n_rr_nx)
    obtain ⟨lf0, lt0, hl0, hlr0⟩ := id hL9
    obtain ⟨lf1, lt1, hl1, hlr1⟩ := id hLB9
    obtain ⟨nf0, nt0, hNB0, hNr0⟩ := id hNB
    have L1 := bagR.at hL9 hF1 (nm1 nb) (nm1 (ne_ob hl0.2.1 hXB.1 (by simp))) (nm1 (ne_ob hl0.2.2 hXB.1 (by simp)))
    have LB1 := bagR.at hLB9 hF1 (nm1 nbB) (nm1 (ne_ob hl1.2.1 hXB.1 (by simp))) (nm1 (ne_ob hl1.2.2 hXB.1 (by simp)))
    have NB1 := bagR.at hNB hF1 (nm1 n1) (nm1 (ne_ob hNB0.2.1 hXB.1 (by simp))) (nm1 (ne_ob hNB0.2.2 hXB.1 (by simp)))
    have I1 : bagR (xK X) g1 nx xc xo [] := ⟨xcf, xtf, XB1, fun k x h => by simp at h⟩
    show J X 0 0 g1 26 [(0, .ref r)] []
    refine j_aload_n hX dX6_remake_26 0 rfl ?_
    refine j_get (v := .ref v) hX r1 rfl wf_X6 2 (by decide) lk_X6_19 (fun _ h => h) rfl dX6_remake_27 ?_
    refine j_aload_n hX dX6_remake_30 0 rfl ?_
    refine j_get (v := .ref nx) hX r1 rfl wf_X6 1 (by decide) lk_X6_16 (fun _ h => h) rfl dX6_remake_31 ?_
    refine j_make hX lk_X6_52 v1 rw1 hri I1 nwL nxL pL vwL wl chL lr1 hpL lb lca loa L hlb L1 gL nb nca noa nwB nxB pB vwB wr chB rr1 hpB lbB lcaB loaB LB hlbB LB1 gLB nbB ncaB noaB hvp (by rw [hL]; decide) (by decide) (by rw [hR]; decide) (by rw [hR]; decide) dX6_remake_34 ?_
    intro o9 g2 h9
    obtain ⟨hF2, ⟨rf2, rw2, hri2⟩, h8⟩ := h9
    have r2 := Fr.at hF2 r1 (nm4 n_r_nx n_r_xc n_r_xo n_r_rw)
    rcases h7 : evalV kd wl n ot L LB with _ | B9
    · rw [h7] at h8
      obtain ⟨rfl, hbf⟩ := h8
      obtain ⟨ifn, if2, it2, iB2⟩ := id hbf
      show J X 0 0 g2 37 [(0, .ref r)] [.int 0]
      refine j_if_ne hX 42 dX6_remake_37 (by decide) (fun c_37 => absurd c_37 (show ¬ ¬ (0 : Int32) = 0 from fun q => q rfl)) (fun _ => ?_)
      refine j_iconst (v := 0) hX dX6_remake_40 (by decide) ?_
      exact j_zret hX hE dX6_remake_41 (by first | rfl | decide | assumption) (by unfold remP; rw [if_pos c14]; exact ⟨(fun q hq => by simp only [List.mem_cons, List.not_mem_nil, or_false, not_or] at hq; rw [hF2 q (by simp [hq.1, hq.2.1, hq.2.2.1, hq.2.2.2.1]), hF1 q (by simp [hq.1])]), ⟨rf2, rw2, hri2⟩, by rw [h7]; exact ⟨rfl, hbf, (r2.trans hr.symm)⟩⟩) (by decide) (by decide)
    · rw [h7] at h8
      obtain ⟨rfl, hB2, gB2⟩ := h8
      obtain ⟨if2, it2, iB2, iRp2⟩ := id hB2
      have NB2 := bagR.at NB1 hF2 (nm4 n1 (ne_ob hNB0.1 hXB.2.1 (by simp)) (ne_ob hNB0.1 hXB.2.2 (by simp)) (ne_ob hNB0.1 hrw (by simp))) (nm4 (ne_ob hNB0.2.1 hXB.1 (by simp)) n2 (ne_ob hNB0.2.1 hXB.2.2 (by simp)) (ne_ob hNB0.2.1 hrw (by simp))) (nm4 (ne_ob hNB0.2.2 hXB.1 (by simp)) (ne_ob hNB0.2.2 hXB.2.1 (by simp)) n3 (ne_ob hNB0.2.2 hrw (by simp)))
      obtain ⟨nf2, nt2, nB2, nRp2⟩ := id NB2
      show J X 0 0 g2 37 [(0, .ref r)] [.int 1]
      refine j_if_ne hX 42 dX6_remake_37 (by decide) (fun _ => ?_) (fun c_37 => absurd c_37 (show ¬ (1 : Int32) = 0 by decide))
      refine j_aload_n hX dX6_remake_42 0 rfl ?_
      refine j_aload_n hX dX6_remake_43 0 rfl ?_
      refine j_get (v := .ref nx) hX r2 rfl wf_X6 1 (by decide) lk_X6_16 (fun _ h => h) rfl dX6_remake_44 ?_
      refine j_aload_n hX dX6_remake_47 0 rfl ?_
      refine j_get (v := .ref nw) hX r2 rfl wf_X6 0 (by decide) lk_X6_10 (fun _ h => h) rfl dX6_remake_48 ?_
      refine j_callV (As := [.ref nw]) (rest := [.ref r]) hX (c_X0_countDifferent (xl X) (xK X) g2 nx xc xo nw nc no B9 C hB2 NB2 gB2 gC) iB2.1 rfl lk_X6_56 wI_X0_countDifferent wV_X0_X0_countDifferent wN_X0 wC_X0_countDifferent hd_X0_countDifferent rfl (by rw [hL]; decide) (by decide) rfl (Nat.le_of_ble_eq_true rfl) dX6_remake_51 (by rw [hR]; decide) (by rw [hR]; decide) jx_no ?_
      rintro _ _ ⟨rfl, rfl⟩
      show J X 0 0 g2 54 [(0, .ref r)] [.int (nI (dif B9 C)), .ref r]
      refine j_put hX r2 rfl wf_X6 tyX6_ok nmX6 4 (by decide) lk_X6_27 (fun _ h => h) rfl (tyX6_ok 4 (by decide)) rfl rfl (Nat.le_of_ble_eq_true rfl) dX6_remake_54 ?_
      obtain ⟨g3, eg3⟩ : ∃ z : Wd, z = up g2 r (ob 6 [.ref nw, .ref nx, .ref v, .int w, .int (nI (dif B9 C)), .int ch]) := ⟨_, rfl⟩
      refine j_w eg3.symm ?_
      have H3_r : g3 r = some (ob 6 [.ref nw, .ref nx, .ref v, .int w, .int (nI (dif B9 C)), .int ch]) := by rw [eg3]; exact up_s _ _ _
      have H3_nx := (congrFun eg3 nx).trans ((up_n (n_r_nx.symm)).trans (iB2.1))
      have H3_nw := (congrFun eg3 nw).trans ((up_n ((ne_ob nB2.1 r2 (by simp)))).trans (nB2.1))
      refine j_iconst (v := 1) hX dX6_remake_57 (by decide) ?_
      exact j_zret hX hE dX6_remake_58 (by first | rfl | decide | assumption) (by unfold remP; rw [if_pos c14]; exact ⟨(fun q hq => by simp only [List.mem_cons, List.not_mem_nil, or_false, not_or] at hq; rw [eg3, up_n hq.2.2.2.2, hF2 q (by simp [hq.1, hq.2.1, hq.2.2.1, hq.2.2.2.1]), hF1 q (by simp [hq.1])]), ⟨rf2, by rw [eg3, up_n n_r_rw.symm]; exact rw2, hri2⟩, by rw [h7]; exact ⟨rfl, bagR.at hB2 (fun q hq => by rw [eg3, up_n (by simpa using hq)]) (nm1 n_r_nx.symm) (nm1 n_r_xc.symm) (nm1 n_r_xo.symm), gB2, H3_r⟩⟩) (by decide) (by decide)
  · have c14 := b01_f c_14
    refine j_iconst (v := 1) hX dX6_remake_17 (by decide) ?_
    exact j_zret hX hE dX6_remake_18 (by first | rfl | decide | assumption) (by unfold remP; rw [if_neg c14]; exact ⟨rfl, rfl⟩) (by decide) (by decide)
end
section
/-- the relations' objects: by their places -/
def relsAt (g : Wd) (R nw nx : Nat → Nat) (vw : Nat → Value) (w : Nat → Nat) (pd ch : Nat → Int32) : Prop := ∀ i, i < 8 → g (R i) = some (ob 6 [.ref (nw i), .ref (nx i), vw i, .int (nI (w i)), .int (pd i), .int (ch i)])
/-- the object itself: its relations, its row -/
def bvAt (K : Cst) (g : Wd) (x ra ta : Nat) (R : Nat → Nat) : Prop := g x = some (ob 9 [.ref ra, .ref ta]) ∧ ∃ f, g ra = some (aQ K 8 f) ∧ ∀ i, i < 8 → f i = some (R i)
theorem i32_in (r : Int32) (n : Nat) (hn : n < 2 ^ 31) : (r < 0 ∨ nI n ≤ r) ∨ ∃ i, i < n ∧ r = nI i := by
  rcases pk_ix r hn with h | h | h
  · exact Or.inl (Or.inl h)
  · exact Or.inl (Or.inr h)
  · exact Or.inr h
theorem i32_out {r : Int32} {n : Nat} (hn : n < 2 ^ 31) (h : r < 0 ∨ nI n ≤ r) : ¬ ∃ i, i < n ∧ r = nI i := by
  rintro ⟨i, hi, rfl⟩
  rcases h with h | h
  · exact nI_pos (by omega) h
  · exact nI_ge hi hn h
set_option maxRecDepth 20000 in
set_option maxHeartbeats 600000 in
/-- placeAt(r) -/
theorem c_X10_placeAt (l : Launch) (K : Cst) (g : Wd) (hlt : l.stackTraces = false) (x ra ta : Nat) (R : Nat → Nat) (hx : bvAt K g x ra ta R) (r : Int32) : Ct l K yX10_placeAt cX10_placeAt 2 (some (.object "BagViews$Relation")) 6 [.ref x, .int r] g (fun v g' => ∃ i, i < 8 ∧ r = nI i ∧ v = some (.ref (R i)) ∧ g = g') (fun E g' => E = "java/lang/IndexOutOfBoundsException" ∧ g = g' ∧ ¬ ∃ i, i < 8 ∧ r = nI i) 1 6 := by
  refine ct_of (by decide) (Nat.le_of_ble_eq_true rfl) ?_
  intro X hl hK hX hE hn hL hR hm
  subst hl; subst hK
  show J X 0 0 g 0 [(0, .ref x), (1, .int r)] []
  obtain ⟨f, hra, hf⟩ := hx.2
  rcases i32_in r 8 (by decide) with h9 | ⟨i, hi, rfl⟩
  · refine j_iload_n hX dX10_placeAt_0 1 rfl ?_
    refine j_if_lt hX 10 dX10_placeAt_1 (by decide) (fun c_1 => ?_) (fun c_1 => ?_)
    · exact j_IOO hX hE hlt sk_X10_194 (by rw [hL]; decide) (Nat.le_of_ble_eq_true rfl) dX10_placeAt_10 dX10_placeAt_13 dX10_placeAt_14 dX10_placeAt_16 dX10_placeAt_19 (⟨rfl, rfl, i32_out (by decide) h9⟩) (by decide) (by decide) (by rw [hR]; decide) (by rw [hR]; decide)
    · refine j_iload_n hX dX10_placeAt_4 1 rfl ?_
      refine j_bipush (v := nI 8) hX dX10_placeAt_5 (by decide) ?_
      refine j_icmp_lt hX 20 dX10_placeAt_7 (by decide) (fun c_7 => absurd c_7 (fun q => (h9.resolve_left c_1) |> fun z => absurd q (Int32.not_lt.mpr z))) (fun _ => ?_)
      exact j_IOO hX hE hlt sk_X10_194 (by rw [hL]; decide) (Nat.le_of_ble_eq_true rfl) dX10_placeAt_10 dX10_placeAt_13 dX10_placeAt_14 dX10_placeAt_16 dX10_placeAt_19 (⟨rfl, rfl, i32_out (by decide) h9⟩) (by decide) (by decide) (by rw [hR]; decide) (by rw [hR]; decide)
  · refine j_iload_n hX dX10_placeAt_0 1 rfl ?_
    refine j_if_lt hX 10 dX10_placeAt_1 (by decide) (fun c_1 => absurd c_1 (nI_pos (n := i) (by omega))) (fun _ => ?_)
    refine j_iload_n hX dX10_placeAt_4 1 rfl ?_
    refine j_bipush (v := nI 8) hX dX10_placeAt_5 (by decide) ?_
    refine j_icmp_lt hX 20 dX10_placeAt_7 (by decide) (fun _ => ?_) (fun c_7 => absurd (nI_lt hi (by decide)) c_7)
    refine j_aload_n hX dX10_placeAt_20 0 rfl ?_
    refine j_get (v := .ref ra) hX hx.1 rfl wf_X10 0 (by decide) lk_X10_11 (fun _ h => h) rfl dX10_placeAt_21 ?_
    refine j_iload_n hX dX10_placeAt_24 1 rfl ?_
    refine j_aaldN hX hra (i) (rfl) (hi) (by decide) (hf i hi) dX10_placeAt_25 ?_
    exact j_aret hX hE dX10_placeAt_26 (⟨i, hi, rfl, rfl, rfl⟩) (by decide) (by decide)

set_option maxRecDepth 20000 in
set_option maxHeartbeats 600000 in
/-- relationAt(r) -/
theorem c_X10_relationAt (l : Launch) (K : Cst) (g : Wd) (hlt : l.stackTraces = false) (x ra ta : Nat) (R : Nat → Nat) (hx : bvAt K g x ra ta R) (nw nx : Nat → Nat) (vw : Nat → Value) (w : Nat → Nat) (pd ch : Nat → Int32) (hrel : relsAt g R nw nx vw w pd ch) (hw : ∀ i, i < 8 → w i ≤ 4) (r : Int32) : Ct l K yX10_relationAt cX10_relationAt 3 (some (.object "BagViews$Relation")) 7 [.ref x, .int r] g (fun v g' => ∃ i, i < 8 ∧ r = nI i ∧ 0 < w i ∧ v = some (.ref (R i)) ∧ g = g') (fun E g' => E = "java/lang/IndexOutOfBoundsException" ∧ g = g' ∧ ¬ ∃ i, i < 8 ∧ r = nI i ∧ 0 < w i) 2 12 := by
  refine ct_of (by decide) (Nat.le_of_ble_eq_true rfl) ?_
  intro X hl hK hX hE hn hL hR hm
  subst hl; subst hK
  show J X 0 0 g 0 [(0, .ref x), (1, .int r)] []
  refine j_aload_n hX dX10_relationAt_0 0 rfl ?_
  refine j_iload_n hX dX10_relationAt_1 1 rfl ?_
  refine j_callV (As := [.int r]) (rest := []) hX (c_X10_placeAt (xl X) (xK X) g hlt x ra ta R hx r) hx.1 rfl lk_X10_20 wI_X10_placeAt wV_X10_X10_placeAt wN_X10 wC_X10_placeAt hd_X10_placeAt rfl (by rw [hL]; decide) (by decide) rfl (Nat.le_of_ble_eq_true rfl) dX10_relationAt_2 (by rw [hR]; decide) (by rw [hR]; decide) (fun E g9 h9 => jx_out hX hE ⟨h9.1, h9.2.1, fun ⟨i, h1, h2, _⟩ => h9.2.2 ⟨i, h1, h2⟩⟩ (by decide) (by decide)) ?_
  rintro _ _ ⟨i, hi, hri, rfl, rfl⟩
  show J X 1 6 g 5 [(0, .ref x), (1, .int r)] [.ref (R i)]
  refine j_astore_n (lv' := [(2, .ref (R i)), (0, .ref x), (1, .int r)]) hX dX10_relationAt_5 (by rw [hn]; decide) rfl ?_
  refine j_aload_n hX dX10_relationAt_6 0 rfl ?_
  refine j_callV (As := []) (rest := []) hX (c_X6_isThere (xl X) (xK X) g (R i) (nw i) (nx i) (w i) (pd i) (ch i) (vw i) (by have := hw i hi; omega) (hrel i hi)) (hrel i hi) rfl lk_X10_182 wI_X6_isThere wV_X6_X6_isThere wN_X6 wC_X6_isThere hd_X6_isThere rfl (by rw [hL]; decide) (by decide) rfl (Nat.le_of_ble_eq_true rfl) dX10_relationAt_7 (by rw [hR]; decide) (by rw [hR]; decide) jx_no ?_
  rintro _ _ ⟨rfl, rfl⟩
  show J X 1 6 g 10 [(2, .ref (R i)), (0, .ref x), (1, .int r)] [.int (b01 (decide (0 < w i)))]
  refine j_if_ne hX 23 dX10_relationAt_10 (by decide) (fun c_10 => ?_) (fun c_10 => ?_)
  · have c10 := of_decide_eq_true (b01_t c_10)
    refine j_aload_n hX dX10_relationAt_23 0 rfl ?_
    exact j_aret hX hE dX10_relationAt_24 (⟨i, hi, hri, c10, rfl, rfl⟩) (by decide) (by decide)
  · have c10 : ¬ 0 < w i := fun q => b01_f c_10 (decide_eq_true q)
    exact j_IOO hX hE hlt sk_X10_196 (by rw [hL]; decide) (Nat.le_of_ble_eq_true rfl) dX10_relationAt_13 dX10_relationAt_16 dX10_relationAt_17 dX10_relationAt_19 dX10_relationAt_22 (⟨rfl, rfl, fun ⟨j, h1, h2, h3⟩ => c10 (by rw [(nI_eq (by omega) (by omega)).mp (hri.symm.trans h2)]; exact h3)⟩) (by decide) (by decide) (by rw [hR]; decide) (by rw [hR]; decide)

set_option maxRecDepth 20000 in
set_option maxHeartbeats 600000 in
/-- tableAt(r) -/
theorem c_X10_tableAt (l : Launch) (K : Cst) (g : Wd) (hlt : l.stackTraces = false) (x ra ta : Nat) (R : Nat → Nat) (hx : bvAt K g x ra ta R) (nw nx : Nat → Nat) (vw : Nat → Value) (w : Nat → Nat) (pd ch : Nat → Int32) (hrel : relsAt g R nw nx vw w pd ch) (hw : ∀ i, i < 8 → w i ≤ 4) (hvw : ∀ i, i < 8 → vw i = .null ∨ ∃ v, vw i = .ref v) (r : Int32) : Ct l K yX10_tableAt cX10_tableAt 3 (some (.object "BagViews$Relation")) 8 [.ref x, .int r] g (fun v g' => ∃ i, i < 8 ∧ r = nI i ∧ 0 < w i ∧ vw i = .null ∧ v = some (.ref (R i)) ∧ g = g') (fun E g' => (E = "java/lang/IndexOutOfBoundsException" ∧ g = g' ∧ ¬ ∃ i, i < 8 ∧ r = nI i ∧ 0 < w i) ∨ (E = "java/lang/IllegalStateException" ∧ g = g' ∧ ∃ i, i < 8 ∧ r = nI i ∧ 0 < w i ∧ ∃ v, vw i = .ref v)) 3 18 := by
  refine ct_of (by decide) (Nat.le_of_ble_eq_true rfl) ?_
  intro X hl hK hX hE hn hL hR hm
  subst hl; subst hK
  show J X 0 0 g 0 [(0, .ref x), (1, .int r)] []
  refine j_aload_n hX dX10_tableAt_0 0 rfl ?_
  refine j_iload_n hX dX10_tableAt_1 1 rfl ?_
  refine j_callV (As := [.int r]) (rest := []) hX (c_X10_relationAt (xl X) (xK X) g hlt x ra ta R hx nw nx vw w pd ch hrel hw r) hx.1 rfl lk_X10_48 wI_X10_relationAt wV_X10_X10_relationAt wN_X10 wC_X10_relationAt hd_X10_relationAt rfl (by rw [hL]; decide) (by decide) rfl (Nat.le_of_ble_eq_true rfl) dX10_tableAt_2 (by rw [hR]; decide) (by rw [hR]; decide) (fun E g9 h9 => jx_out hX hE (Or.inl ⟨h9.1, h9.2.1, h9.2.2⟩) (by decide) (by decide)) ?_
  rintro _ _ ⟨i, hi, hri, hw9, rfl, rfl⟩
  show J X 2 12 g 5 [(0, .ref x), (1, .int r)] [.ref (R i)]
  refine j_astore_n (lv' := [(2, .ref (R i)), (0, .ref x), (1, .int r)]) hX dX10_tableAt_5 (by rw [hn]; decide) rfl ?_
  refine j_aload_n hX dX10_tableAt_6 0 rfl ?_
  refine j_getN (v := vw i) hX (hrel i hi) rfl wf_X6 2 (by decide) nk_X10_190 (fun _ h => h) rfl dX10_tableAt_7 ?_
  rcases hvw i hi with h9 | ⟨v9, h9⟩
  · rw [h9]
    refine j_ifnull_n hX 23 dX10_tableAt_10 (by decide) ?_
    refine j_aload_n hX dX10_tableAt_23 0 rfl ?_
    exact j_aret hX hE dX10_tableAt_24 (⟨i, hi, hri, hw9, h9, rfl, rfl⟩) (by decide) (by decide)
  · rw [h9]
    refine j_ifnull_r hX dX10_tableAt_10 ?_
    exact j_ISE hX hE hlt sk_X10_198 (by rw [hL]; decide) (Nat.le_of_ble_eq_true rfl) dX10_tableAt_13 dX10_tableAt_16 dX10_tableAt_17 dX10_tableAt_19 dX10_tableAt_22 (Or.inr ⟨rfl, rfl, i, hi, hri, hw9, v9, h9⟩) (by decide) (by decide) (by rw [hR]; decide) (by rw [hR]; decide)

set_option maxRecDepth 20000 in
set_option maxHeartbeats 600000 in
/-- needFree(made) -/
theorem c_X10_needFree (l : Launch) (K : Cst) (g : Wd) (hlt : l.stackTraces = false) (r nw nx : Nat) (vw : Value) (w : Nat) (pd ch : Int32) (hr : g r = some (ob 6 [.ref nw, .ref nx, vw, .int (nI w), .int pd, .int ch])) (hw : w ≤ 4) : Ct l K yX10_needFree cX10_needFree 1 none 6 [.ref r] g (fun v g' => v = none ∧ w = 0 ∧ g = g') (fun E g' => E = "java/lang/IllegalStateException" ∧ g = g' ∧ 0 < w) 1 6 := by
  refine ct_of (by decide) (Nat.le_of_ble_eq_true rfl) ?_
  intro X hl hK hX hE hn hL hR hm
  subst hl; subst hK
  show J X 0 0 g 0 [(0, .ref r)] []
  refine j_aload_n hX dX10_needFree_0 0 rfl ?_
  refine j_callV (As := []) (rest := []) hX (c_X6_isThere (xl X) (xK X) g r nw nx w pd ch vw (by omega) hr) hr rfl lk_X10_182 wI_X6_isThere wV_X6_X6_isThere wN_X6 wC_X6_isThere hd_X6_isThere rfl (by rw [hL]; decide) (by decide) rfl (Nat.le_of_ble_eq_true rfl) dX10_needFree_1 (by rw [hR]; decide) (by rw [hR]; decide) jx_no ?_
  rintro _ _ ⟨rfl, rfl⟩
  show J X 0 0 g 4 [(0, .ref r)] [.int (b01 (decide (0 < w)))]
  refine j_if_eq hX 17 dX10_needFree_4 (by decide) (fun c_4 => ?_) (fun c_4 => ?_)
  · have c4 : w = 0 := by have := b01_f c_4; simp at this; omega
    exact j_vret hX hE dX10_needFree_17 (⟨rfl, c4, rfl⟩) (by decide) (by decide)
  · have c4 := of_decide_eq_true (b01_t c_4)
    exact j_ISE hX hE hlt sk_X10_200 (by rw [hL]; decide) (Nat.le_of_ble_eq_true rfl) dX10_needFree_7 dX10_needFree_10 dX10_needFree_11 dX10_needFree_13 dX10_needFree_16 (⟨rfl, rfl, c4⟩) (by decide) (by decide) (by rw [hR]; decide) (by rw [hR]; decide)

set_option maxRecDepth 20000 in
set_option maxHeartbeats 600000 in
/-- needColumn(relation, column) -/
theorem c_X10_needColumn (l : Launch) (K : Cst) (g : Wd) (hlt : l.stackTraces = false) (r nw nx : Nat) (vw : Value) (w : Nat) (pd ch : Int32) (hr : g r = some (ob 6 [.ref nw, .ref nx, vw, .int (nI w), .int pd, .int ch])) (hw : w ≤ 4) (co : Int32) : Ct l K yX10_needColumn cX10_needColumn 2 none 6 [.ref r, .int co] g (fun v g' => v = none ∧ g = g' ∧ ∃ c, c < w ∧ co = nI c) (fun E g' => E = "java/lang/IndexOutOfBoundsException" ∧ g = g' ∧ ¬ ∃ c, c < w ∧ co = nI c) 1 6 := by
  refine ct_of (by decide) (Nat.le_of_ble_eq_true rfl) ?_
  intro X hl hK hX hE hn hL hR hm
  subst hl; subst hK
  show J X 0 0 g 0 [(0, .ref r), (1, .int co)] []
  rcases i32_in co w (by omega) with h9 | ⟨c, hc, rfl⟩
  · refine j_iload_n hX dX10_needColumn_0 1 rfl ?_
    refine j_if_lt hX 12 dX10_needColumn_1 (by decide) (fun c_1 => ?_) (fun c_1 => ?_)
    · exact j_IOO hX hE hlt sk_X10_202 (by rw [hL]; decide) (Nat.le_of_ble_eq_true rfl) dX10_needColumn_12 dX10_needColumn_15 dX10_needColumn_16 dX10_needColumn_18 dX10_needColumn_21 (⟨rfl, rfl, i32_out (by omega) h9⟩) (by decide) (by decide) (by rw [hR]; decide) (by rw [hR]; decide)
    · refine j_iload_n hX dX10_needColumn_4 1 rfl ?_
      refine j_aload_n hX dX10_needColumn_5 0 rfl ?_
      refine j_getN (v := .int (nI w)) hX hr rfl wf_X6 3 (by decide) nk_X10_57 (fun _ h => h) rfl dX10_needColumn_6 ?_
      refine j_icmp_lt hX 22 dX10_needColumn_9 (by decide) (fun c_9 => absurd c_9 (fun q => absurd q (Int32.not_lt.mpr (h9.resolve_left c_1)))) (fun _ => ?_)
      exact j_IOO hX hE hlt sk_X10_202 (by rw [hL]; decide) (Nat.le_of_ble_eq_true rfl) dX10_needColumn_12 dX10_needColumn_15 dX10_needColumn_16 dX10_needColumn_18 dX10_needColumn_21 (⟨rfl, rfl, i32_out (by omega) h9⟩) (by decide) (by decide) (by rw [hR]; decide) (by rw [hR]; decide)
  · refine j_iload_n hX dX10_needColumn_0 1 rfl ?_
    refine j_if_lt hX 12 dX10_needColumn_1 (by decide) (fun c_1 => absurd c_1 (nI_pos (n := c) (by omega))) (fun _ => ?_)
    refine j_iload_n hX dX10_needColumn_4 1 rfl ?_
    refine j_aload_n hX dX10_needColumn_5 0 rfl ?_
    refine j_getN (v := .int (nI w)) hX hr rfl wf_X6 3 (by decide) nk_X10_57 (fun _ h => h) rfl dX10_needColumn_6 ?_
    refine j_icmp_lt hX 22 dX10_needColumn_9 (by decide) (fun _ => ?_) (fun c_9 => absurd (nI_lt hc (by omega)) c_9)
    exact j_vret hX hE dX10_needColumn_22 (⟨rfl, rfl, c, hc, rfl⟩) (by decide) (by decide)

set_option maxRecDepth 20000 in
set_option maxHeartbeats 600000 in
/-- needColumnOrNone(relation, column) -/
theorem c_X10_needColumnOrNone (l : Launch) (K : Cst) (g : Wd) (hlt : l.stackTraces = false) (r nw nx : Nat) (vw : Value) (w : Nat) (pd ch : Int32) (hr : g r = some (ob 6 [.ref nw, .ref nx, vw, .int (nI w), .int pd, .int ch])) (hw : w ≤ 4) (co : Int32) : Ct l K yX10_needColumnOrNone cX10_needColumnOrNone 2 none 7 [.ref r, .int co] g (fun v g' => v = none ∧ g = g' ∧ (co = -1 ∨ ∃ c, c < w ∧ co = nI c)) (fun E g' => E = "java/lang/IndexOutOfBoundsException" ∧ g = g' ∧ ¬ (co = -1 ∨ ∃ c, c < w ∧ co = nI c)) 1 6 := by
  refine ct_of (by decide) (Nat.le_of_ble_eq_true rfl) ?_
  intro X hl hK hX hE hn hL hR hm
  subst hl; subst hK
  show J X 0 0 g 0 [(0, .ref r), (1, .int co)] []
  refine j_iload_n hX dX10_needColumnOrNone_0 1 rfl ?_
  refine j_iconst (v := (-1)) hX dX10_needColumnOrNone_1 (by decide) ?_
  refine j_icmp_eq hX 10 dX10_needColumnOrNone_2 (by decide) (fun c_2 => ?_) (fun c_2 => ?_)
  · exact j_vret hX hE dX10_needColumnOrNone_10 (⟨rfl, rfl, Or.inl c_2⟩) (by decide) (by decide)
  · refine j_aload_n hX dX10_needColumnOrNone_5 0 rfl ?_
    refine j_iload_n hX dX10_needColumnOrNone_6 1 rfl ?_
    refine j_callS (As := [.ref r, .int co]) (rest := []) hX (c_X10_needColumn (xl X) (xK X) g hlt r nw nx vw w pd ch hr hw co) lk_X10_51 wS_X10_needColumn wN_X10 wC_X10_needColumn hd_X10_needColumn rfl (by rw [hL]; decide) (by decide) rfl (Nat.le_of_ble_eq_true rfl) dX10_needColumnOrNone_7 (by rw [hR]; decide) (by rw [hR]; decide) (fun E g9 h9 => jx_out hX hE ⟨h9.1, h9.2.1, fun q => q.elim c_2 h9.2.2⟩ (by decide) (by decide)) ?_
    rintro _ _ ⟨rfl, rfl, hco⟩
    show J X 1 6 g 10 [(0, .ref r), (1, .int co)] []
    exact j_vret hX hE dX10_needColumnOrNone_10 (⟨rfl, rfl, Or.inr hco⟩) (by decide) (by decide)

set_option maxRecDepth 20000 in
set_option maxHeartbeats 600000 in
/-- countChosen(chosen) -/
theorem c_X10_countChosen (l : Launch) (K : Cst) (g : Wd) (hlt : l.stackTraces = false) (ck : Nat) (cf : Nat → Int32) (hck : g ck = some (aI K 4 cf)) : Ct l K yX10_countChosen cX10_countChosen 3 (some .int) 6 [.ref ck] g (fun v g' => ∃ k, 0 < k ∧ k ≤ 4 ∧ v = some (.int (nI k)) ∧ g = g' ∧ (∀ q, q < k → ¬ cf q = -1) ∧ ∀ q, k ≤ q → q < 4 → cf q = -1) (fun E g' => E = "java/lang/IllegalArgumentException" ∧ g = g' ∧ ¬ ∃ k, 0 < k ∧ k ≤ 4 ∧ (∀ q, q < k → ¬ cf q = -1) ∧ ∀ q, k ≤ q → q < 4 → cf q = -1) 1 6 := by
  refine ct_of (by decide) (Nat.le_of_ble_eq_true rfl) ?_
  intro X hl hK hX hE hn hL hR hm
  subst hl; subst hK
  show J X 0 0 g 0 [(0, .ref ck)] []
  have tail : ∀ k, k ≤ 4 → (∀ q, q < k → ¬ cf q = -1) → (4 ≤ k ∨ cf k = -1) → J X 0 0 g 21 [(1, .int (nI k)), (0, .ref ck)] [] := by
    intro k hk4 hpre hnx
    have loop2 : 0 < k → ∀ (m j : Nat), j + m = 4 → k ≤ j → (∀ q, k ≤ q → q < j → cf q = -1) → J X 0 0 g 37 [(2, .int (nI j)), (1, .int (nI k)), (0, .ref ck)] [] := by
      intro hk0 m
      induction m with
      | zero =>
        intro j hj hkj hmid
        refine j_iload_n hX dX10_countChosen_37 0 rfl ?_
        refine j_aload_n hX dX10_countChosen_38 2 rfl ?_
        refine j_alenI hX hck dX10_countChosen_39 ?_
        refine j_icmp_ge hX 66 dX10_countChosen_40 (by decide) (fun _ => ?_) (fun c_40 => absurd (nI_le (a := 4) (b := j) (by omega) (by omega)) c_40)
        refine j_iload_n hX dX10_countChosen_66 1 rfl ?_
        exact j_iret hX hE dX10_countChosen_67 (⟨k, by omega, hk4, rfl, rfl, hpre, fun q h1 h2 => hmid q h1 (by omega)⟩) (by decide) (by decide)
      | succ m ih =>
        intro j hj hkj hmid
        refine j_iload_n hX dX10_countChosen_37 0 rfl ?_
        refine j_aload_n hX dX10_countChosen_38 2 rfl ?_
        refine j_alenI hX hck dX10_countChosen_39 ?_
        refine j_icmp_ge hX 66 dX10_countChosen_40 (by decide) (fun c_40 => absurd c_40 (nI_ge (a := j) (b := 4) (by omega) (by decide))) (fun _ => ?_)
        refine j_aload_n hX dX10_countChosen_43 2 rfl ?_
        refine j_iload_n hX dX10_countChosen_44 0 rfl ?_
        refine j_ialdN hX hck (j) (rfl) (by omega) (by decide) dX10_countChosen_45 ?_
        refine j_iconst (v := (-1)) hX dX10_countChosen_46 (by decide) ?_
        refine j_icmp_eq hX 60 dX10_countChosen_47 (by decide) (fun c_47 => ?_) (fun c_47 => ?_)
        · refine j_iinc (v := nI (j + 1)) (lv' := [(2, .int (nI (j + 1))), (1, .int (nI k)), (0, .ref ck)]) hX dX10_countChosen_60 0 rfl (nI_1 j) (by rw [hn]; decide) rfl ?_
          refine j_goto hX 37 dX10_countChosen_63 (by decide) ?_
          refine j_sub [0, 1, 2] rfl ?_
          exact ih (j + 1) (by omega) (by omega) (fun q h1 h2 => by rcases Nat.lt_or_ge q j with z | z; exact hmid q h1 z; rw [show q = j by omega]; exact c_47)
        · exact j_IAE hX hE hlt sk_X10_206 (by rw [hL]; decide) (Nat.le_of_ble_eq_true rfl) dX10_countChosen_50 dX10_countChosen_53 dX10_countChosen_54 dX10_countChosen_56 dX10_countChosen_59 (⟨rfl, rfl, fun ⟨z, h1, h2, h3, h4⟩ => by
                      rcases Nat.lt_or_ge j z with q | q
                      · rcases hnx with q2 | q2
                        · omega
                        · exact h3 k (by omega) q2
                      · exact c_47 (h4 j q (by omega))⟩) (by decide) (by decide) (by rw [hR]; decide) (by rw [hR]; decide)
    refine j_iload_n hX dX10_countChosen_21 0 rfl ?_
    refine j_if_ne hX 35 dX10_countChosen_22 (by decide) (fun c_22 => ?_) (fun c_22 => ?_)
    · have hk0 : 0 < k := Nat.pos_of_ne_zero (fun q => c_22 (by rw [q]; rfl))
      refine j_iload_n hX dX10_countChosen_35 0 rfl ?_
      refine j_istore_n (lv' := [(2, .int (nI k)), (1, .int (nI k)), (0, .ref ck)]) hX dX10_countChosen_36 (by rw [hn]; decide) rfl ?_
      exact loop2 hk0 (4 - k) k (by omega) (Nat.le_refl _) (fun q h1 h2 => absurd h1 (by omega))
    · have hk0 : k = 0 := (nI_eq (by omega) (by omega)).mp c_22
      exact j_IAE hX hE hlt sk_X10_204 (by rw [hL]; decide) (Nat.le_of_ble_eq_true rfl) dX10_countChosen_25 dX10_countChosen_28 dX10_countChosen_29 dX10_countChosen_31 dX10_countChosen_34 (⟨rfl, rfl, fun ⟨z, h1, h2, h3, h4⟩ => by
              rcases hnx with q2 | q2
              · omega
              · exact h3 k (by omega) q2⟩) (by decide) (by decide) (by rw [hR]; decide) (by rw [hR]; decide)
  have loop : ∀ (m i : Nat), i + m = 4 → (∀ q, q < i → ¬ cf q = -1) → J X 0 0 g 2 [(1, .int (nI i)), (0, .ref ck)] [] := by
    intro m
    induction m with
    | zero =>
      intro i hi hpre
      refine j_iload_n hX dX10_countChosen_2 0 rfl ?_
      refine j_aload_n hX dX10_countChosen_3 1 rfl ?_
      refine j_alenI hX hck dX10_countChosen_4 ?_
      refine j_icmp_ge hX 21 dX10_countChosen_5 (by decide) (fun _ => ?_) (fun c_5 => absurd (nI_le (a := 4) (b := i) (by omega) (by omega)) c_5)
      exact tail i (by omega) hpre (Or.inl (by omega))
    | succ m ih =>
      intro i hi hpre
      refine j_iload_n hX dX10_countChosen_2 0 rfl ?_
      refine j_aload_n hX dX10_countChosen_3 1 rfl ?_
      refine j_alenI hX hck dX10_countChosen_4 ?_
      refine j_icmp_ge hX 21 dX10_countChosen_5 (by decide) (fun c_5 => absurd c_5 (nI_ge (a := i) (b := 4) (by omega) (by decide))) (fun _ => ?_)
      refine j_aload_n hX dX10_countChosen_8 1 rfl ?_
      refine j_iload_n hX dX10_countChosen_9 0 rfl ?_
      refine j_ialdN hX hck (i) (rfl) (by omega) (by decide) dX10_countChosen_10 ?_
      refine j_iconst (v := (-1)) hX dX10_countChosen_11 (by decide) ?_
      refine j_icmp_eq hX 21 dX10_countChosen_12 (by decide) (fun c_12 => ?_) (fun c_12 => ?_)
      · exact tail i (by omega) hpre (Or.inr c_12)
      · refine j_iinc (v := nI (i + 1)) (lv' := [(1, .int (nI (i + 1))), (0, .ref ck)]) hX dX10_countChosen_15 0 rfl (nI_1 i) (by rw [hn]; decide) rfl ?_
        refine j_goto hX 2 dX10_countChosen_18 (by decide) ?_
        refine j_sub [0, 1] rfl ?_
        exact ih (i + 1) (by omega) (fun q hq => by rcases Nat.lt_or_ge q i with z | z; exact hpre q z; rw [show q = i by omega]; exact c_12)
  refine j_iconst (v := nI 0) hX dX10_countChosen_0 (by decide) ?_
  refine j_istore_n (lv' := [(1, .int (nI 0)), (0, .ref ck)]) hX dX10_countChosen_1 (by rw [hn]; decide) rfl ?_
  exact loop 4 0 (by omega) (fun q hq => absurd hq (by omega))

def truncR (w : Nat) (r : Row) : Row := (r.1, if 1 < w then r.2.1 else 0, if 2 < w then r.2.2.1 else 0, if 3 < w then r.2.2.2 else 0)
set_option maxRecDepth 20000 in
set_option maxHeartbeats 600000 in
/-- tell(relation, a, b, c, d) -/
theorem c_X10_tell (l : Launch) (K : Cst) (g : Wd) (x ra ta : Nat) (hx : g x = some (ob 9 [.ref ra, .ref ta]) ∧ True) (tf : Nat → Int32) (hta : g ta = some (aI K 4 tf)) (r nw nx : Nat) (vw : Value) (w : Nat) (pd ch : Int32) (hr : g r = some (ob 6 [.ref nw, .ref nx, vw, .int (nI w), .int pd, .int ch])) (hw : w ≤ 4) (a b c d : Int32) : Ct l K yX10_tell cX10_tell 6 none 0 [.ref x, .ref r, .int a, .int b, .int c, .int d] g (fun v g' => v = none ∧ (∃ tf', g' ta = some (aI K 4 tf') ∧ rowAt tf' 0 = truncR w (a, b, c, d)) ∧ Fr g g' [ta]) (fun _ _ => False) 0 0 := by
  refine ct_of (by decide) (Nat.le_of_ble_eq_true rfl) ?_
  intro X hl hK hX hE hn hL hR hm
  subst hl; subst hK
  show J X 0 0 g 0 [(0, .ref x), (1, .ref r), (2, .int a), (3, .int b), (4, .int c), (5, .int d)] []
  have n_x_ta : x ≠ ta := ne_ob hx.1 hta (by simp)
  have n_r_ta : r ≠ ta := ne_ob hr hta (by simp)
  rcases (show w = 0 ∨ w = 1 ∨ w = 2 ∨ w = 3 ∨ w = 4 by omega) with h9 | h9 | h9 | h9 | h9
  · refine j_aload_n hX dX10_tell_0 0 rfl ?_
    refine j_get (v := .ref ta) hX hx.1 rfl wf_X10 1 (by decide) lk_X10_15 (fun _ h => h) rfl dX10_tell_1 ?_
    refine j_iconst (v := nI 0) hX dX10_tell_4 (by decide) ?_
    refine j_iload_n hX dX10_tell_5 2 rfl ?_
    refine j_iastN hX hta (0) (rfl) (by omega) (by decide) dX10_tell_6 ?_
    obtain ⟨g1, eg1⟩ : ∃ z : Wd, z = up g ta (aI (xK X) 4 (upd tf (0) a)) := ⟨_, rfl⟩
    refine j_w eg1.symm ?_
    have k1_x := (congrFun eg1 x).trans ((up_n (n_x_ta)).trans (hx.1))
    have k1_r := (congrFun eg1 r).trans ((up_n (n_r_ta)).trans (hr))
    have k1_ta : g1 ta = some (aI (xK X) 4 (upd tf (0) a)) := by rw [eg1]; exact up_s _ _ _
    refine j_aload_n hX dX10_tell_7 0 rfl ?_
    refine j_get (v := .ref ta) hX k1_x rfl wf_X10 1 (by decide) lk_X10_15 (fun _ h => h) rfl dX10_tell_8 ?_
    refine j_iconst (v := nI 1) hX dX10_tell_11 (by decide) ?_
    refine j_aload_n hX dX10_tell_12 1 rfl ?_
    refine j_getN (v := .int (nI w)) hX k1_r rfl wf_X6 3 (by decide) nk_X10_57 (fun _ h => h) rfl dX10_tell_13 ?_
    refine j_iconst (v := nI 1) hX dX10_tell_16 (by decide) ?_
    refine j_icmp_le hX 24 dX10_tell_17 (by decide) (fun _ => ?_) (fun c_17 => absurd (nI_le (a := w) (b := 1) (by omega) (by omega)) c_17)
    refine j_iconst (v := 0) hX dX10_tell_24 (by decide) ?_
    refine j_iastN hX k1_ta (1) (rfl) (by omega) (by decide) dX10_tell_25 ?_
    obtain ⟨g2, eg2⟩ : ∃ z : Wd, z = up g1 ta (aI (xK X) 4 (upd (upd tf (0) a) (1) 0)) := ⟨_, rfl⟩
    refine j_w eg2.symm ?_
    have k2_x := (congrFun eg2 x).trans ((up_n (n_x_ta)).trans (k1_x))
    have k2_r := (congrFun eg2 r).trans ((up_n (n_r_ta)).trans (k1_r))
    have k2_ta : g2 ta = some (aI (xK X) 4 (upd (upd tf (0) a) (1) 0)) := by rw [eg2]; exact up_s _ _ _
    refine j_aload_n hX dX10_tell_26 0 rfl ?_
    refine j_get (v := .ref ta) hX k2_x rfl wf_X10 1 (by decide) lk_X10_15 (fun _ h => h) rfl dX10_tell_27 ?_
    refine j_iconst (v := nI 2) hX dX10_tell_30 (by decide) ?_
    refine j_aload_n hX dX10_tell_31 1 rfl ?_
    refine j_getN (v := .int (nI w)) hX k2_r rfl wf_X6 3 (by decide) nk_X10_57 (fun _ h => h) rfl dX10_tell_32 ?_
    refine j_iconst (v := nI 2) hX dX10_tell_35 (by decide) ?_
    refine j_icmp_le hX 44 dX10_tell_36 (by decide) (fun _ => ?_) (fun c_36 => absurd (nI_le (a := w) (b := 2) (by omega) (by omega)) c_36)
    refine j_iconst (v := 0) hX dX10_tell_44 (by decide) ?_
    refine j_iastN hX k2_ta (2) (rfl) (by omega) (by decide) dX10_tell_45 ?_
    obtain ⟨g3, eg3⟩ : ∃ z : Wd, z = up g2 ta (aI (xK X) 4 (upd (upd (upd tf (0) a) (1) 0) (2) 0)) := ⟨_, rfl⟩
    refine j_w eg3.symm ?_
    have k3_x := (congrFun eg3 x).trans ((up_n (n_x_ta)).trans (k2_x))
    have k3_r := (congrFun eg3 r).trans ((up_n (n_r_ta)).trans (k2_r))
    have k3_ta : g3 ta = some (aI (xK X) 4 (upd (upd (upd tf (0) a) (1) 0) (2) 0)) := by rw [eg3]; exact up_s _ _ _
    refine j_aload_n hX dX10_tell_46 0 rfl ?_
    refine j_get (v := .ref ta) hX k3_x rfl wf_X10 1 (by decide) lk_X10_15 (fun _ h => h) rfl dX10_tell_47 ?_
    refine j_iconst (v := nI 3) hX dX10_tell_50 (by decide) ?_
    refine j_aload_n hX dX10_tell_51 1 rfl ?_
    refine j_getN (v := .int (nI w)) hX k3_r rfl wf_X6 3 (by decide) nk_X10_57 (fun _ h => h) rfl dX10_tell_52 ?_
    refine j_iconst (v := nI 3) hX dX10_tell_55 (by decide) ?_
    refine j_icmp_le hX 64 dX10_tell_56 (by decide) (fun _ => ?_) (fun c_56 => absurd (nI_le (a := w) (b := 3) (by omega) (by omega)) c_56)
    refine j_iconst (v := 0) hX dX10_tell_64 (by decide) ?_
    refine j_iastN hX k3_ta (3) (rfl) (by omega) (by decide) dX10_tell_65 ?_
    obtain ⟨g4, eg4⟩ : ∃ z : Wd, z = up g3 ta (aI (xK X) 4 (upd (upd (upd (upd tf (0) a) (1) 0) (2) 0) (3) 0)) := ⟨_, rfl⟩
    refine j_w eg4.symm ?_
    have k4_x := (congrFun eg4 x).trans ((up_n (n_x_ta)).trans (k3_x))
    have k4_r := (congrFun eg4 r).trans ((up_n (n_r_ta)).trans (k3_r))
    have k4_ta : g4 ta = some (aI (xK X) 4 (upd (upd (upd (upd tf (0) a) (1) 0) (2) 0) (3) 0)) := by rw [eg4]; exact up_s _ _ _
    exact j_vret hX hE dX10_tell_66 (⟨rfl, ⟨_, k4_ta, by simp [rowAt, truncR, upd, h9]⟩, fun q hq => by rw [eg4, up_n (by simpa using hq), eg3, up_n (by simpa using hq), eg2, up_n (by simpa using hq), eg1, up_n (by simpa using hq)]⟩) (by decide) (by decide)
  · refine j_aload_n hX dX10_tell_0 0 rfl ?_
    refine j_get (v := .ref ta) hX hx.1 rfl wf_X10 1 (by decide) lk_X10_15 (fun _ h => h) rfl dX10_tell_1 ?_
    refine j_iconst (v := nI 0) hX dX10_tell_4 (by decide) ?_
    refine j_iload_n hX dX10_tell_5 2 rfl ?_
    refine j_iastN hX hta (0) (rfl) (by omega) (by decide) dX10_tell_6 ?_
    obtain ⟨g1, eg1⟩ : ∃ z : Wd, z = up g ta (aI (xK X) 4 (upd tf (0) a)) := ⟨_, rfl⟩
    refine j_w eg1.symm ?_
    have k1_x := (congrFun eg1 x).trans ((up_n (n_x_ta)).trans (hx.1))
    have k1_r := (congrFun eg1 r).trans ((up_n (n_r_ta)).trans (hr))
    have k1_ta : g1 ta = some (aI (xK X) 4 (upd tf (0) a)) := by rw [eg1]; exact up_s _ _ _
    refine j_aload_n hX dX10_tell_7 0 rfl ?_
    refine j_get (v := .ref ta) hX k1_x rfl wf_X10 1 (by decide) lk_X10_15 (fun _ h => h) rfl dX10_tell_8 ?_
    refine j_iconst (v := nI 1) hX dX10_tell_11 (by decide) ?_
    refine j_aload_n hX dX10_tell_12 1 rfl ?_
    refine j_getN (v := .int (nI w)) hX k1_r rfl wf_X6 3 (by decide) nk_X10_57 (fun _ h => h) rfl dX10_tell_13 ?_
    refine j_iconst (v := nI 1) hX dX10_tell_16 (by decide) ?_
    refine j_icmp_le hX 24 dX10_tell_17 (by decide) (fun _ => ?_) (fun c_17 => absurd (nI_le (a := w) (b := 1) (by omega) (by omega)) c_17)
    refine j_iconst (v := 0) hX dX10_tell_24 (by decide) ?_
    refine j_iastN hX k1_ta (1) (rfl) (by omega) (by decide) dX10_tell_25 ?_
    obtain ⟨g2, eg2⟩ : ∃ z : Wd, z = up g1 ta (aI (xK X) 4 (upd (upd tf (0) a) (1) 0)) := ⟨_, rfl⟩
    refine j_w eg2.symm ?_
    have k2_x := (congrFun eg2 x).trans ((up_n (n_x_ta)).trans (k1_x))
    have k2_r := (congrFun eg2 r).trans ((up_n (n_r_ta)).trans (k1_r))
    have k2_ta : g2 ta = some (aI (xK X) 4 (upd (upd tf (0) a) (1) 0)) := by rw [eg2]; exact up_s _ _ _
    refine j_aload_n hX dX10_tell_26 0 rfl ?_
    refine j_get (v := .ref ta) hX k2_x rfl wf_X10 1 (by decide) lk_X10_15 (fun _ h => h) rfl dX10_tell_27 ?_
    refine j_iconst (v := nI 2) hX dX10_tell_30 (by decide) ?_
    refine j_aload_n hX dX10_tell_31 1 rfl ?_
    refine j_getN (v := .int (nI w)) hX k2_r rfl wf_X6 3 (by decide) nk_X10_57 (fun _ h => h) rfl dX10_tell_32 ?_
    refine j_iconst (v := nI 2) hX dX10_tell_35 (by decide) ?_
    refine j_icmp_le hX 44 dX10_tell_36 (by decide) (fun _ => ?_) (fun c_36 => absurd (nI_le (a := w) (b := 2) (by omega) (by omega)) c_36)
    refine j_iconst (v := 0) hX dX10_tell_44 (by decide) ?_
    refine j_iastN hX k2_ta (2) (rfl) (by omega) (by decide) dX10_tell_45 ?_
    obtain ⟨g3, eg3⟩ : ∃ z : Wd, z = up g2 ta (aI (xK X) 4 (upd (upd (upd tf (0) a) (1) 0) (2) 0)) := ⟨_, rfl⟩
    refine j_w eg3.symm ?_
    have k3_x := (congrFun eg3 x).trans ((up_n (n_x_ta)).trans (k2_x))
    have k3_r := (congrFun eg3 r).trans ((up_n (n_r_ta)).trans (k2_r))
    have k3_ta : g3 ta = some (aI (xK X) 4 (upd (upd (upd tf (0) a) (1) 0) (2) 0)) := by rw [eg3]; exact up_s _ _ _
    refine j_aload_n hX dX10_tell_46 0 rfl ?_
    refine j_get (v := .ref ta) hX k3_x rfl wf_X10 1 (by decide) lk_X10_15 (fun _ h => h) rfl dX10_tell_47 ?_
    refine j_iconst (v := nI 3) hX dX10_tell_50 (by decide) ?_
    refine j_aload_n hX dX10_tell_51 1 rfl ?_
    refine j_getN (v := .int (nI w)) hX k3_r rfl wf_X6 3 (by decide) nk_X10_57 (fun _ h => h) rfl dX10_tell_52 ?_
    refine j_iconst (v := nI 3) hX dX10_tell_55 (by decide) ?_
    refine j_icmp_le hX 64 dX10_tell_56 (by decide) (fun _ => ?_) (fun c_56 => absurd (nI_le (a := w) (b := 3) (by omega) (by omega)) c_56)
    refine j_iconst (v := 0) hX dX10_tell_64 (by decide) ?_
    refine j_iastN hX k3_ta (3) (rfl) (by omega) (by decide) dX10_tell_65 ?_
    obtain ⟨g4, eg4⟩ : ∃ z : Wd, z = up g3 ta (aI (xK X) 4 (upd (upd (upd (upd tf (0) a) (1) 0) (2) 0) (3) 0)) := ⟨_, rfl⟩
    refine j_w eg4.symm ?_
    have k4_x := (congrFun eg4 x).trans ((up_n (n_x_ta)).trans (k3_x))
    have k4_r := (congrFun eg4 r).trans ((up_n (n_r_ta)).trans (k3_r))
    have k4_ta : g4 ta = some (aI (xK X) 4 (upd (upd (upd (upd tf (0) a) (1) 0) (2) 0) (3) 0)) := by rw [eg4]; exact up_s _ _ _
    exact j_vret hX hE dX10_tell_66 (⟨rfl, ⟨_, k4_ta, by simp [rowAt, truncR, upd, h9]⟩, fun q hq => by rw [eg4, up_n (by simpa using hq), eg3, up_n (by simpa using hq), eg2, up_n (by simpa using hq), eg1, up_n (by simpa using hq)]⟩) (by decide) (by decide)
  · refine j_aload_n hX dX10_tell_0 0 rfl ?_
    refine j_get (v := .ref ta) hX hx.1 rfl wf_X10 1 (by decide) lk_X10_15 (fun _ h => h) rfl dX10_tell_1 ?_
    refine j_iconst (v := nI 0) hX dX10_tell_4 (by decide) ?_
    refine j_iload_n hX dX10_tell_5 2 rfl ?_
    refine j_iastN hX hta (0) (rfl) (by omega) (by decide) dX10_tell_6 ?_
    obtain ⟨g1, eg1⟩ : ∃ z : Wd, z = up g ta (aI (xK X) 4 (upd tf (0) a)) := ⟨_, rfl⟩
    refine j_w eg1.symm ?_
    have k1_x := (congrFun eg1 x).trans ((up_n (n_x_ta)).trans (hx.1))
    have k1_r := (congrFun eg1 r).trans ((up_n (n_r_ta)).trans (hr))
    have k1_ta : g1 ta = some (aI (xK X) 4 (upd tf (0) a)) := by rw [eg1]; exact up_s _ _ _
    refine j_aload_n hX dX10_tell_7 0 rfl ?_
    refine j_get (v := .ref ta) hX k1_x rfl wf_X10 1 (by decide) lk_X10_15 (fun _ h => h) rfl dX10_tell_8 ?_
    refine j_iconst (v := nI 1) hX dX10_tell_11 (by decide) ?_
    refine j_aload_n hX dX10_tell_12 1 rfl ?_
    refine j_getN (v := .int (nI w)) hX k1_r rfl wf_X6 3 (by decide) nk_X10_57 (fun _ h => h) rfl dX10_tell_13 ?_
    refine j_iconst (v := nI 1) hX dX10_tell_16 (by decide) ?_
    refine j_icmp_le hX 24 dX10_tell_17 (by decide) (fun c_17 => absurd c_17 (nI_ge (a := 1) (b := w) (by omega) (by omega))) (fun _ => ?_)
    refine j_iload_n hX dX10_tell_20 3 rfl ?_
    refine j_goto hX 25 dX10_tell_21 (by decide) ?_
    refine j_iastN hX k1_ta (1) (rfl) (by omega) (by decide) dX10_tell_25 ?_
    obtain ⟨g2, eg2⟩ : ∃ z : Wd, z = up g1 ta (aI (xK X) 4 (upd (upd tf (0) a) (1) b)) := ⟨_, rfl⟩
    refine j_w eg2.symm ?_
    have k2_x := (congrFun eg2 x).trans ((up_n (n_x_ta)).trans (k1_x))
    have k2_r := (congrFun eg2 r).trans ((up_n (n_r_ta)).trans (k1_r))
    have k2_ta : g2 ta = some (aI (xK X) 4 (upd (upd tf (0) a) (1) b)) := by rw [eg2]; exact up_s _ _ _
    refine j_aload_n hX dX10_tell_26 0 rfl ?_
    refine j_get (v := .ref ta) hX k2_x rfl wf_X10 1 (by decide) lk_X10_15 (fun _ h => h) rfl dX10_tell_27 ?_
    refine j_iconst (v := nI 2) hX dX10_tell_30 (by decide) ?_
    refine j_aload_n hX dX10_tell_31 1 rfl ?_
    refine j_getN (v := .int (nI w)) hX k2_r rfl wf_X6 3 (by decide) nk_X10_57 (fun _ h => h) rfl dX10_tell_32 ?_
    refine j_iconst (v := nI 2) hX dX10_tell_35 (by decide) ?_
    refine j_icmp_le hX 44 dX10_tell_36 (by decide) (fun _ => ?_) (fun c_36 => absurd (nI_le (a := w) (b := 2) (by omega) (by omega)) c_36)
    refine j_iconst (v := 0) hX dX10_tell_44 (by decide) ?_
    refine j_iastN hX k2_ta (2) (rfl) (by omega) (by decide) dX10_tell_45 ?_
    obtain ⟨g3, eg3⟩ : ∃ z : Wd, z = up g2 ta (aI (xK X) 4 (upd (upd (upd tf (0) a) (1) b) (2) 0)) := ⟨_, rfl⟩
    refine j_w eg3.symm ?_
    have k3_x := (congrFun eg3 x).trans ((up_n (n_x_ta)).trans (k2_x))
    have k3_r := (congrFun eg3 r).trans ((up_n (n_r_ta)).trans (k2_r))
    have k3_ta : g3 ta = some (aI (xK X) 4 (upd (upd (upd tf (0) a) (1) b) (2) 0)) := by rw [eg3]; exact up_s _ _ _
    refine j_aload_n hX dX10_tell_46 0 rfl ?_
    refine j_get (v := .ref ta) hX k3_x rfl wf_X10 1 (by decide) lk_X10_15 (fun _ h => h) rfl dX10_tell_47 ?_
    refine j_iconst (v := nI 3) hX dX10_tell_50 (by decide) ?_
    refine j_aload_n hX dX10_tell_51 1 rfl ?_
    refine j_getN (v := .int (nI w)) hX k3_r rfl wf_X6 3 (by decide) nk_X10_57 (fun _ h => h) rfl dX10_tell_52 ?_
    refine j_iconst (v := nI 3) hX dX10_tell_55 (by decide) ?_
    refine j_icmp_le hX 64 dX10_tell_56 (by decide) (fun _ => ?_) (fun c_56 => absurd (nI_le (a := w) (b := 3) (by omega) (by omega)) c_56)
    refine j_iconst (v := 0) hX dX10_tell_64 (by decide) ?_
    refine j_iastN hX k3_ta (3) (rfl) (by omega) (by decide) dX10_tell_65 ?_
    obtain ⟨g4, eg4⟩ : ∃ z : Wd, z = up g3 ta (aI (xK X) 4 (upd (upd (upd (upd tf (0) a) (1) b) (2) 0) (3) 0)) := ⟨_, rfl⟩
    refine j_w eg4.symm ?_
    have k4_x := (congrFun eg4 x).trans ((up_n (n_x_ta)).trans (k3_x))
    have k4_r := (congrFun eg4 r).trans ((up_n (n_r_ta)).trans (k3_r))
    have k4_ta : g4 ta = some (aI (xK X) 4 (upd (upd (upd (upd tf (0) a) (1) b) (2) 0) (3) 0)) := by rw [eg4]; exact up_s _ _ _
    exact j_vret hX hE dX10_tell_66 (⟨rfl, ⟨_, k4_ta, by simp [rowAt, truncR, upd, h9]⟩, fun q hq => by rw [eg4, up_n (by simpa using hq), eg3, up_n (by simpa using hq), eg2, up_n (by simpa using hq), eg1, up_n (by simpa using hq)]⟩) (by decide) (by decide)
  · refine j_aload_n hX dX10_tell_0 0 rfl ?_
    refine j_get (v := .ref ta) hX hx.1 rfl wf_X10 1 (by decide) lk_X10_15 (fun _ h => h) rfl dX10_tell_1 ?_
    refine j_iconst (v := nI 0) hX dX10_tell_4 (by decide) ?_
    refine j_iload_n hX dX10_tell_5 2 rfl ?_
    refine j_iastN hX hta (0) (rfl) (by omega) (by decide) dX10_tell_6 ?_
    obtain ⟨g1, eg1⟩ : ∃ z : Wd, z = up g ta (aI (xK X) 4 (upd tf (0) a)) := ⟨_, rfl⟩
    refine j_w eg1.symm ?_
    have k1_x := (congrFun eg1 x).trans ((up_n (n_x_ta)).trans (hx.1))
    have k1_r := (congrFun eg1 r).trans ((up_n (n_r_ta)).trans (hr))
    have k1_ta : g1 ta = some (aI (xK X) 4 (upd tf (0) a)) := by rw [eg1]; exact up_s _ _ _
    refine j_aload_n hX dX10_tell_7 0 rfl ?_
    refine j_get (v := .ref ta) hX k1_x rfl wf_X10 1 (by decide) lk_X10_15 (fun _ h => h) rfl dX10_tell_8 ?_
    refine j_iconst (v := nI 1) hX dX10_tell_11 (by decide) ?_
    refine j_aload_n hX dX10_tell_12 1 rfl ?_
    refine j_getN (v := .int (nI w)) hX k1_r rfl wf_X6 3 (by decide) nk_X10_57 (fun _ h => h) rfl dX10_tell_13 ?_
    refine j_iconst (v := nI 1) hX dX10_tell_16 (by decide) ?_
    refine j_icmp_le hX 24 dX10_tell_17 (by decide) (fun c_17 => absurd c_17 (nI_ge (a := 1) (b := w) (by omega) (by omega))) (fun _ => ?_)
    refine j_iload_n hX dX10_tell_20 3 rfl ?_
    refine j_goto hX 25 dX10_tell_21 (by decide) ?_
    refine j_iastN hX k1_ta (1) (rfl) (by omega) (by decide) dX10_tell_25 ?_
    obtain ⟨g2, eg2⟩ : ∃ z : Wd, z = up g1 ta (aI (xK X) 4 (upd (upd tf (0) a) (1) b)) := ⟨_, rfl⟩
    refine j_w eg2.symm ?_
    have k2_x := (congrFun eg2 x).trans ((up_n (n_x_ta)).trans (k1_x))
    have k2_r := (congrFun eg2 r).trans ((up_n (n_r_ta)).trans (k1_r))
    have k2_ta : g2 ta = some (aI (xK X) 4 (upd (upd tf (0) a) (1) b)) := by rw [eg2]; exact up_s _ _ _
    refine j_aload_n hX dX10_tell_26 0 rfl ?_
    refine j_get (v := .ref ta) hX k2_x rfl wf_X10 1 (by decide) lk_X10_15 (fun _ h => h) rfl dX10_tell_27 ?_
    refine j_iconst (v := nI 2) hX dX10_tell_30 (by decide) ?_
    refine j_aload_n hX dX10_tell_31 1 rfl ?_
    refine j_getN (v := .int (nI w)) hX k2_r rfl wf_X6 3 (by decide) nk_X10_57 (fun _ h => h) rfl dX10_tell_32 ?_
    refine j_iconst (v := nI 2) hX dX10_tell_35 (by decide) ?_
    refine j_icmp_le hX 44 dX10_tell_36 (by decide) (fun c_36 => absurd c_36 (nI_ge (a := 2) (b := w) (by omega) (by omega))) (fun _ => ?_)
    refine j_iload hX dX10_tell_39 4 rfl ?_
    refine j_goto hX 45 dX10_tell_41 (by decide) ?_
    refine j_iastN hX k2_ta (2) (rfl) (by omega) (by decide) dX10_tell_45 ?_
    obtain ⟨g3, eg3⟩ : ∃ z : Wd, z = up g2 ta (aI (xK X) 4 (upd (upd (upd tf (0) a) (1) b) (2) c)) := ⟨_, rfl⟩
    refine j_w eg3.symm ?_
    have k3_x := (congrFun eg3 x).trans ((up_n (n_x_ta)).trans (k2_x))
    have k3_r := (congrFun eg3 r).trans ((up_n (n_r_ta)).trans (k2_r))
    have k3_ta : g3 ta = some (aI (xK X) 4 (upd (upd (upd tf (0) a) (1) b) (2) c)) := by rw [eg3]; exact up_s _ _ _
    refine j_aload_n hX dX10_tell_46 0 rfl ?_
    refine j_get (v := .ref ta) hX k3_x rfl wf_X10 1 (by decide) lk_X10_15 (fun _ h => h) rfl dX10_tell_47 ?_
    refine j_iconst (v := nI 3) hX dX10_tell_50 (by decide) ?_
    refine j_aload_n hX dX10_tell_51 1 rfl ?_
    refine j_getN (v := .int (nI w)) hX k3_r rfl wf_X6 3 (by decide) nk_X10_57 (fun _ h => h) rfl dX10_tell_52 ?_
    refine j_iconst (v := nI 3) hX dX10_tell_55 (by decide) ?_
    refine j_icmp_le hX 64 dX10_tell_56 (by decide) (fun _ => ?_) (fun c_56 => absurd (nI_le (a := w) (b := 3) (by omega) (by omega)) c_56)
    refine j_iconst (v := 0) hX dX10_tell_64 (by decide) ?_
    refine j_iastN hX k3_ta (3) (rfl) (by omega) (by decide) dX10_tell_65 ?_
    obtain ⟨g4, eg4⟩ : ∃ z : Wd, z = up g3 ta (aI (xK X) 4 (upd (upd (upd (upd tf (0) a) (1) b) (2) c) (3) 0)) := ⟨_, rfl⟩
    refine j_w eg4.symm ?_
    have k4_x := (congrFun eg4 x).trans ((up_n (n_x_ta)).trans (k3_x))
    have k4_r := (congrFun eg4 r).trans ((up_n (n_r_ta)).trans (k3_r))
    have k4_ta : g4 ta = some (aI (xK X) 4 (upd (upd (upd (upd tf (0) a) (1) b) (2) c) (3) 0)) := by rw [eg4]; exact up_s _ _ _
    exact j_vret hX hE dX10_tell_66 (⟨rfl, ⟨_, k4_ta, by simp [rowAt, truncR, upd, h9]⟩, fun q hq => by rw [eg4, up_n (by simpa using hq), eg3, up_n (by simpa using hq), eg2, up_n (by simpa using hq), eg1, up_n (by simpa using hq)]⟩) (by decide) (by decide)
  · refine j_aload_n hX dX10_tell_0 0 rfl ?_
    refine j_get (v := .ref ta) hX hx.1 rfl wf_X10 1 (by decide) lk_X10_15 (fun _ h => h) rfl dX10_tell_1 ?_
    refine j_iconst (v := nI 0) hX dX10_tell_4 (by decide) ?_
    refine j_iload_n hX dX10_tell_5 2 rfl ?_
    refine j_iastN hX hta (0) (rfl) (by omega) (by decide) dX10_tell_6 ?_
    obtain ⟨g1, eg1⟩ : ∃ z : Wd, z = up g ta (aI (xK X) 4 (upd tf (0) a)) := ⟨_, rfl⟩
    refine j_w eg1.symm ?_
    have k1_x := (congrFun eg1 x).trans ((up_n (n_x_ta)).trans (hx.1))
    have k1_r := (congrFun eg1 r).trans ((up_n (n_r_ta)).trans (hr))
    have k1_ta : g1 ta = some (aI (xK X) 4 (upd tf (0) a)) := by rw [eg1]; exact up_s _ _ _
    refine j_aload_n hX dX10_tell_7 0 rfl ?_
    refine j_get (v := .ref ta) hX k1_x rfl wf_X10 1 (by decide) lk_X10_15 (fun _ h => h) rfl dX10_tell_8 ?_
    refine j_iconst (v := nI 1) hX dX10_tell_11 (by decide) ?_
    refine j_aload_n hX dX10_tell_12 1 rfl ?_
    refine j_getN (v := .int (nI w)) hX k1_r rfl wf_X6 3 (by decide) nk_X10_57 (fun _ h => h) rfl dX10_tell_13 ?_
    refine j_iconst (v := nI 1) hX dX10_tell_16 (by decide) ?_
    refine j_icmp_le hX 24 dX10_tell_17 (by decide) (fun c_17 => absurd c_17 (nI_ge (a := 1) (b := w) (by omega) (by omega))) (fun _ => ?_)
    refine j_iload_n hX dX10_tell_20 3 rfl ?_
    refine j_goto hX 25 dX10_tell_21 (by decide) ?_
    refine j_iastN hX k1_ta (1) (rfl) (by omega) (by decide) dX10_tell_25 ?_
    obtain ⟨g2, eg2⟩ : ∃ z : Wd, z = up g1 ta (aI (xK X) 4 (upd (upd tf (0) a) (1) b)) := ⟨_, rfl⟩
    refine j_w eg2.symm ?_
    have k2_x := (congrFun eg2 x).trans ((up_n (n_x_ta)).trans (k1_x))
    have k2_r := (congrFun eg2 r).trans ((up_n (n_r_ta)).trans (k1_r))
    have k2_ta : g2 ta = some (aI (xK X) 4 (upd (upd tf (0) a) (1) b)) := by rw [eg2]; exact up_s _ _ _
    refine j_aload_n hX dX10_tell_26 0 rfl ?_
    refine j_get (v := .ref ta) hX k2_x rfl wf_X10 1 (by decide) lk_X10_15 (fun _ h => h) rfl dX10_tell_27 ?_
    refine j_iconst (v := nI 2) hX dX10_tell_30 (by decide) ?_
    refine j_aload_n hX dX10_tell_31 1 rfl ?_
    refine j_getN (v := .int (nI w)) hX k2_r rfl wf_X6 3 (by decide) nk_X10_57 (fun _ h => h) rfl dX10_tell_32 ?_
    refine j_iconst (v := nI 2) hX dX10_tell_35 (by decide) ?_
    refine j_icmp_le hX 44 dX10_tell_36 (by decide) (fun c_36 => absurd c_36 (nI_ge (a := 2) (b := w) (by omega) (by omega))) (fun _ => ?_)
    refine j_iload hX dX10_tell_39 4 rfl ?_
    refine j_goto hX 45 dX10_tell_41 (by decide) ?_
    refine j_iastN hX k2_ta (2) (rfl) (by omega) (by decide) dX10_tell_45 ?_
    obtain ⟨g3, eg3⟩ : ∃ z : Wd, z = up g2 ta (aI (xK X) 4 (upd (upd (upd tf (0) a) (1) b) (2) c)) := ⟨_, rfl⟩
    refine j_w eg3.symm ?_
    have k3_x := (congrFun eg3 x).trans ((up_n (n_x_ta)).trans (k2_x))
    have k3_r := (congrFun eg3 r).trans ((up_n (n_r_ta)).trans (k2_r))
    have k3_ta : g3 ta = some (aI (xK X) 4 (upd (upd (upd tf (0) a) (1) b) (2) c)) := by rw [eg3]; exact up_s _ _ _
    refine j_aload_n hX dX10_tell_46 0 rfl ?_
    refine j_get (v := .ref ta) hX k3_x rfl wf_X10 1 (by decide) lk_X10_15 (fun _ h => h) rfl dX10_tell_47 ?_
    refine j_iconst (v := nI 3) hX dX10_tell_50 (by decide) ?_
    refine j_aload_n hX dX10_tell_51 1 rfl ?_
    refine j_getN (v := .int (nI w)) hX k3_r rfl wf_X6 3 (by decide) nk_X10_57 (fun _ h => h) rfl dX10_tell_52 ?_
    refine j_iconst (v := nI 3) hX dX10_tell_55 (by decide) ?_
    refine j_icmp_le hX 64 dX10_tell_56 (by decide) (fun c_56 => absurd c_56 (nI_ge (a := 3) (b := w) (by omega) (by omega))) (fun _ => ?_)
    refine j_iload hX dX10_tell_59 5 rfl ?_
    refine j_goto hX 65 dX10_tell_61 (by decide) ?_
    refine j_iastN hX k3_ta (3) (rfl) (by omega) (by decide) dX10_tell_65 ?_
    obtain ⟨g4, eg4⟩ : ∃ z : Wd, z = up g3 ta (aI (xK X) 4 (upd (upd (upd (upd tf (0) a) (1) b) (2) c) (3) d)) := ⟨_, rfl⟩
    refine j_w eg4.symm ?_
    have k4_x := (congrFun eg4 x).trans ((up_n (n_x_ta)).trans (k3_x))
    have k4_r := (congrFun eg4 r).trans ((up_n (n_r_ta)).trans (k3_r))
    have k4_ta : g4 ta = some (aI (xK X) 4 (upd (upd (upd (upd tf (0) a) (1) b) (2) c) (3) d)) := by rw [eg4]; exact up_s _ _ _
    exact j_vret hX hE dX10_tell_66 (⟨rfl, ⟨_, k4_ta, by simp [rowAt, truncR, upd, h9]⟩, fun q hq => by rw [eg4, up_n (by simpa using hq), eg3, up_n (by simpa using hq), eg2, up_n (by simpa using hq), eg1, up_n (by simpa using hq)]⟩) (by decide) (by decide)
end
