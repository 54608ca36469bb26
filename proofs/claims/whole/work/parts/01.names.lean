-- ===== PART A: goes FIRST, ahead of the names: the tables' words, and 'selects' of the private methods out of them =====
/-- a private method of a class that the tables say can be made, by its rows of tables_1 -/
def lw_okq (q : MethodName × Nat) : Prop := (q.1.cls ≠ "java/lang/invoke/MethodHandle" ∧ q.1.cls ≠ "java/lang/invoke/VarHandle") ∧ Cond.instantiable q.1.cls q.2 ∈ tables_1 ∧ Cond.privateMethod q.1 ∈ tables_1 ∧ Cond.instanceMethod q.1 ∈ tables_1
theorem lw_p0 : lw_okq (⟨"FigureHouse$Reader", "open", "(LFigureHouse$Text;)V"⟩, 7) := ⟨⟨by decide +kernel, by decide +kernel⟩, List.mem_of_getElem? (i := 59) (by decide +kernel), List.mem_of_getElem? (i := 67) (by decide +kernel), List.mem_of_getElem? (i := 68) (by decide +kernel)⟩
theorem lw_p1 : lw_okq (⟨"FigureHouse", "isDay", "(I)Z"⟩, 20) := ⟨⟨by decide +kernel, by decide +kernel⟩, List.mem_of_getElem? (i := 28) (by decide +kernel), List.mem_of_getElem? (i := 299) (by decide +kernel), List.mem_of_getElem? (i := 300) (by decide +kernel)⟩
theorem lw_p2 : lw_okq (⟨"java/util/ArrayList", "add", "(Ljava/lang/Object;[Ljava/lang/Object;I)V"⟩, 3) := ⟨⟨by decide +kernel, by decide +kernel⟩, List.mem_of_getElem? (i := 201) (by decide +kernel), List.mem_of_getElem? (i := 335) (by decide +kernel), List.mem_of_getElem? (i := 336) (by decide +kernel)⟩
theorem lw_p3 : lw_okq (⟨"java/util/ArrayList", "grow", "()[Ljava/lang/Object;"⟩, 3) := ⟨⟨by decide +kernel, by decide +kernel⟩, List.mem_of_getElem? (i := 201) (by decide +kernel), List.mem_of_getElem? (i := 339) (by decide +kernel), List.mem_of_getElem? (i := 340) (by decide +kernel)⟩
theorem lw_p4 : lw_okq (⟨"java/util/ArrayList", "grow", "(I)[Ljava/lang/Object;"⟩, 3) := ⟨⟨by decide +kernel, by decide +kernel⟩, List.mem_of_getElem? (i := 201) (by decide +kernel), List.mem_of_getElem? (i := 343) (by decide +kernel), List.mem_of_getElem? (i := 344) (by decide +kernel)⟩
theorem lw_p5 : lw_okq (⟨"FigureHouse", "curveAt", "(III)LFigureHouse$Curve;"⟩, 20) := ⟨⟨by decide +kernel, by decide +kernel⟩, List.mem_of_getElem? (i := 28) (by decide +kernel), List.mem_of_getElem? (i := 395) (by decide +kernel), List.mem_of_getElem? (i := 396) (by decide +kernel)⟩
theorem lw_p6 : lw_okq (⟨"FigureHouse$Reader", "nextSign", "()I"⟩, 7) := ⟨⟨by decide +kernel, by decide +kernel⟩, List.mem_of_getElem? (i := 59) (by decide +kernel), List.mem_of_getElem? (i := 481) (by decide +kernel), List.mem_of_getElem? (i := 482) (by decide +kernel)⟩
theorem lw_p7 : lw_okq (⟨"FigureHouse$Reader", "refuse", "()V"⟩, 7) := ⟨⟨by decide +kernel, by decide +kernel⟩, List.mem_of_getElem? (i := 59) (by decide +kernel), List.mem_of_getElem? (i := 488) (by decide +kernel), List.mem_of_getElem? (i := 489) (by decide +kernel)⟩
theorem lw_p8 : lw_okq (⟨"FigureHouse$Reader", "demand", "(I)V"⟩, 7) := ⟨⟨by decide +kernel, by decide +kernel⟩, List.mem_of_getElem? (i := 59) (by decide +kernel), List.mem_of_getElem? (i := 492) (by decide +kernel), List.mem_of_getElem? (i := 493) (by decide +kernel)⟩
theorem lw_p9 : lw_okq (⟨"FigureHouse$Reader", "readsClause", "()Z"⟩, 7) := ⟨⟨by decide +kernel, by decide +kernel⟩, List.mem_of_getElem? (i := 59) (by decide +kernel), List.mem_of_getElem? (i := 496) (by decide +kernel), List.mem_of_getElem? (i := 497) (by decide +kernel)⟩
theorem lw_p10 : lw_okq (⟨"FigureHouse$Reader", "sum", "(I)J"⟩, 7) := ⟨⟨by decide +kernel, by decide +kernel⟩, List.mem_of_getElem? (i := 59) (by decide +kernel), List.mem_of_getElem? (i := 503) (by decide +kernel), List.mem_of_getElem? (i := 504) (by decide +kernel)⟩
theorem lw_p11 : lw_okq (⟨"FigureHouse$Reader", "term", "(I)J"⟩, 7) := ⟨⟨by decide +kernel, by decide +kernel⟩, List.mem_of_getElem? (i := 59) (by decide +kernel), List.mem_of_getElem? (i := 507) (by decide +kernel), List.mem_of_getElem? (i := 508) (by decide +kernel)⟩
theorem lw_p12 : lw_okq (⟨"FigureHouse$Reader", "atom", "(I)J"⟩, 7) := ⟨⟨by decide +kernel, by decide +kernel⟩, List.mem_of_getElem? (i := 59) (by decide +kernel), List.mem_of_getElem? (i := 511) (by decide +kernel), List.mem_of_getElem? (i := 512) (by decide +kernel)⟩
theorem lw_p13 : lw_okq (⟨"FigureHouse$Reader", "number", "()J"⟩, 7) := ⟨⟨by decide +kernel, by decide +kernel⟩, List.mem_of_getElem? (i := 59) (by decide +kernel), List.mem_of_getElem? (i := 518) (by decide +kernel), List.mem_of_getElem? (i := 519) (by decide +kernel)⟩
theorem lw_p14 : lw_okq (⟨"FigureHouse$Reader", "accepts", "(I)Z"⟩, 7) := ⟨⟨by decide +kernel, by decide +kernel⟩, List.mem_of_getElem? (i := 59) (by decide +kernel), List.mem_of_getElem? (i := 523) (by decide +kernel), List.mem_of_getElem? (i := 524) (by decide +kernel)⟩
theorem lw_p15 : lw_okq (⟨"FigureHouse$Reader", "condition", "(I)Z"⟩, 7) := ⟨⟨by decide +kernel, by decide +kernel⟩, List.mem_of_getElem? (i := 59) (by decide +kernel), List.mem_of_getElem? (i := 547) (by decide +kernel), List.mem_of_getElem? (i := 548) (by decide +kernel)⟩
def lw_privs_1 : List (MethodName × Nat) := [(⟨"FigureHouse$Reader", "open", "(LFigureHouse$Text;)V"⟩, 7), (⟨"FigureHouse", "isDay", "(I)Z"⟩, 20), (⟨"java/util/ArrayList", "add", "(Ljava/lang/Object;[Ljava/lang/Object;I)V"⟩, 3), (⟨"java/util/ArrayList", "grow", "()[Ljava/lang/Object;"⟩, 3), (⟨"java/util/ArrayList", "grow", "(I)[Ljava/lang/Object;"⟩, 3), (⟨"FigureHouse", "curveAt", "(III)LFigureHouse$Curve;"⟩, 20), (⟨"FigureHouse$Reader", "nextSign", "()I"⟩, 7), (⟨"FigureHouse$Reader", "refuse", "()V"⟩, 7), (⟨"FigureHouse$Reader", "demand", "(I)V"⟩, 7), (⟨"FigureHouse$Reader", "readsClause", "()Z"⟩, 7), (⟨"FigureHouse$Reader", "sum", "(I)J"⟩, 7), (⟨"FigureHouse$Reader", "term", "(I)J"⟩, 7), (⟨"FigureHouse$Reader", "atom", "(I)J"⟩, 7), (⟨"FigureHouse$Reader", "number", "()J"⟩, 7), (⟨"FigureHouse$Reader", "accepts", "(I)Z"⟩, 7), (⟨"FigureHouse$Reader", "condition", "(I)Z"⟩, 7)]
theorem lw_r1 : ∀ q ∈ lw_privs_1, lw_okq q := List.forall_mem_cons.mpr ⟨lw_p0, List.forall_mem_cons.mpr ⟨lw_p1, List.forall_mem_cons.mpr ⟨lw_p2, List.forall_mem_cons.mpr ⟨lw_p3, List.forall_mem_cons.mpr ⟨lw_p4, List.forall_mem_cons.mpr ⟨lw_p5, List.forall_mem_cons.mpr ⟨lw_p6, List.forall_mem_cons.mpr ⟨lw_p7, List.forall_mem_cons.mpr ⟨lw_p8, List.forall_mem_cons.mpr ⟨lw_p9, List.forall_mem_cons.mpr ⟨lw_p10, List.forall_mem_cons.mpr ⟨lw_p11, List.forall_mem_cons.mpr ⟨lw_p12, List.forall_mem_cons.mpr ⟨lw_p13, List.forall_mem_cons.mpr ⟨lw_p14, List.forall_mem_cons.mpr ⟨lw_p15, fun _ h => absurd h List.not_mem_nil⟩⟩⟩⟩⟩⟩⟩⟩⟩⟩⟩⟩⟩⟩⟩⟩
theorem lw_p16 : lw_okq (⟨"FigureHouse$Reader", "unit", "(I)Z"⟩, 7) := ⟨⟨by decide +kernel, by decide +kernel⟩, List.mem_of_getElem? (i := 59) (by decide +kernel), List.mem_of_getElem? (i := 551) (by decide +kernel), List.mem_of_getElem? (i := 552) (by decide +kernel)⟩
theorem lw_p17 : lw_okq (⟨"FigureHouse$Reader", "demandComparing", "()I"⟩, 7) := ⟨⟨by decide +kernel, by decide +kernel⟩, List.mem_of_getElem? (i := 59) (by decide +kernel), List.mem_of_getElem? (i := 555) (by decide +kernel), List.mem_of_getElem? (i := 556) (by decide +kernel)⟩
theorem lw_p18 : lw_okq (⟨"FigureHouse$Reader", "negated", "(I)Z"⟩, 7) := ⟨⟨by decide +kernel, by decide +kernel⟩, List.mem_of_getElem? (i := 59) (by decide +kernel), List.mem_of_getElem? (i := 562) (by decide +kernel), List.mem_of_getElem? (i := 563) (by decide +kernel)⟩
theorem lw_p19 : lw_okq (⟨"FigureHouse$Reader", "parenthesised", "(I)Z"⟩, 7) := ⟨⟨by decide +kernel, by decide +kernel⟩, List.mem_of_getElem? (i := 59) (by decide +kernel), List.mem_of_getElem? (i := 566) (by decide +kernel), List.mem_of_getElem? (i := 567) (by decide +kernel)⟩
theorem lw_p20 : lw_okq (⟨"FigureHouse", "planAt", "(I)LFigureHouse$Text;"⟩, 20) := ⟨⟨by decide +kernel, by decide +kernel⟩, List.mem_of_getElem? (i := 28) (by decide +kernel), List.mem_of_getElem? (i := 585) (by decide +kernel), List.mem_of_getElem? (i := 586) (by decide +kernel)⟩
theorem lw_p21 : lw_okq (⟨"FigureHouse$Reader", "toNextClause", "()V"⟩, 7) := ⟨⟨by decide +kernel, by decide +kernel⟩, List.mem_of_getElem? (i := 59) (by decide +kernel), List.mem_of_getElem? (i := 677) (by decide +kernel), List.mem_of_getElem? (i := 678) (by decide +kernel)⟩
theorem lw_p22 : lw_okq (⟨"FigureHouse$Figures", "makeBlock", "(LFigureHouse$Page;I)V"⟩, 3) := ⟨⟨by decide +kernel, by decide +kernel⟩, List.mem_of_getElem? (i := 93) (by decide +kernel), List.mem_of_getElem? (i := 719) (by decide +kernel), List.mem_of_getElem? (i := 720) (by decide +kernel)⟩
theorem lw_p23 : lw_okq (⟨"FigureHouse$Figures", "makeLine", "(II)V"⟩, 3) := ⟨⟨by decide +kernel, by decide +kernel⟩, List.mem_of_getElem? (i := 93) (by decide +kernel), List.mem_of_getElem? (i := 742) (by decide +kernel), List.mem_of_getElem? (i := 743) (by decide +kernel)⟩
theorem lw_p24 : lw_okq (⟨"FigureHouse", "pageAt", "(I)LFigureHouse$Page;"⟩, 20) := ⟨⟨by decide +kernel, by decide +kernel⟩, List.mem_of_getElem? (i := 28) (by decide +kernel), List.mem_of_getElem? (i := 752) (by decide +kernel), List.mem_of_getElem? (i := 753) (by decide +kernel)⟩
theorem lw_p25 : lw_okq (⟨"FigureHouse", "pageWith", "(II)LFigureHouse$Page;"⟩, 20) := ⟨⟨by decide +kernel, by decide +kernel⟩, List.mem_of_getElem? (i := 28) (by decide +kernel), List.mem_of_getElem? (i := 770) (by decide +kernel), List.mem_of_getElem? (i := 771) (by decide +kernel)⟩
theorem lw_p26 : lw_okq (⟨"FigureHouse", "madeWith", "(III)LFigureHouse$Page;"⟩, 20) := ⟨⟨by decide +kernel, by decide +kernel⟩, List.mem_of_getElem? (i := 28) (by decide +kernel), List.mem_of_getElem? (i := 837) (by decide +kernel), List.mem_of_getElem? (i := 838) (by decide +kernel)⟩
theorem lw_p27 : lw_okq (⟨"FigureHouse", "madePage", "(II)LFigureHouse$Page;"⟩, 20) := ⟨⟨by decide +kernel, by decide +kernel⟩, List.mem_of_getElem? (i := 28) (by decide +kernel), List.mem_of_getElem? (i := 841) (by decide +kernel), List.mem_of_getElem? (i := 842) (by decide +kernel)⟩
theorem lw_p28 : lw_okq (⟨"FigureHouse", "wasMended", "(III)Z"⟩, 20) := ⟨⟨by decide +kernel, by decide +kernel⟩, List.mem_of_getElem? (i := 28) (by decide +kernel), List.mem_of_getElem? (i := 857) (by decide +kernel), List.mem_of_getElem? (i := 858) (by decide +kernel)⟩
theorem lw_p29 : lw_okq (⟨"FigureHouse$Figures", "addsUp", "(LFigureHouse$Page;I)Z"⟩, 3) := ⟨⟨by decide +kernel, by decide +kernel⟩, List.mem_of_getElem? (i := 93) (by decide +kernel), List.mem_of_getElem? (i := 873) (by decide +kernel), List.mem_of_getElem? (i := 874) (by decide +kernel)⟩
theorem lw_p30 : lw_okq (⟨"FigureHouse", "firstSlipped", "(ILFigureHouse$Page;II)I"⟩, 20) := ⟨⟨by decide +kernel, by decide +kernel⟩, List.mem_of_getElem? (i := 28) (by decide +kernel), List.mem_of_getElem? (i := 939) (by decide +kernel), List.mem_of_getElem? (i := 940) (by decide +kernel)⟩
theorem lw_p31 : lw_okq (⟨"FigureHouse", "isExplained", "(III)Z"⟩, 20) := ⟨⟨by decide +kernel, by decide +kernel⟩, List.mem_of_getElem? (i := 28) (by decide +kernel), List.mem_of_getElem? (i := 951) (by decide +kernel), List.mem_of_getElem? (i := 952) (by decide +kernel)⟩
def lw_privs_2 : List (MethodName × Nat) := [(⟨"FigureHouse$Reader", "unit", "(I)Z"⟩, 7), (⟨"FigureHouse$Reader", "demandComparing", "()I"⟩, 7), (⟨"FigureHouse$Reader", "negated", "(I)Z"⟩, 7), (⟨"FigureHouse$Reader", "parenthesised", "(I)Z"⟩, 7), (⟨"FigureHouse", "planAt", "(I)LFigureHouse$Text;"⟩, 20), (⟨"FigureHouse$Reader", "toNextClause", "()V"⟩, 7), (⟨"FigureHouse$Figures", "makeBlock", "(LFigureHouse$Page;I)V"⟩, 3), (⟨"FigureHouse$Figures", "makeLine", "(II)V"⟩, 3), (⟨"FigureHouse", "pageAt", "(I)LFigureHouse$Page;"⟩, 20), (⟨"FigureHouse", "pageWith", "(II)LFigureHouse$Page;"⟩, 20), (⟨"FigureHouse", "madeWith", "(III)LFigureHouse$Page;"⟩, 20), (⟨"FigureHouse", "madePage", "(II)LFigureHouse$Page;"⟩, 20), (⟨"FigureHouse", "wasMended", "(III)Z"⟩, 20), (⟨"FigureHouse$Figures", "addsUp", "(LFigureHouse$Page;I)Z"⟩, 3), (⟨"FigureHouse", "firstSlipped", "(ILFigureHouse$Page;II)I"⟩, 20), (⟨"FigureHouse", "isExplained", "(III)Z"⟩, 20)]
theorem lw_r2 : ∀ q ∈ lw_privs_2, lw_okq q := List.forall_mem_cons.mpr ⟨lw_p16, List.forall_mem_cons.mpr ⟨lw_p17, List.forall_mem_cons.mpr ⟨lw_p18, List.forall_mem_cons.mpr ⟨lw_p19, List.forall_mem_cons.mpr ⟨lw_p20, List.forall_mem_cons.mpr ⟨lw_p21, List.forall_mem_cons.mpr ⟨lw_p22, List.forall_mem_cons.mpr ⟨lw_p23, List.forall_mem_cons.mpr ⟨lw_p24, List.forall_mem_cons.mpr ⟨lw_p25, List.forall_mem_cons.mpr ⟨lw_p26, List.forall_mem_cons.mpr ⟨lw_p27, List.forall_mem_cons.mpr ⟨lw_p28, List.forall_mem_cons.mpr ⟨lw_p29, List.forall_mem_cons.mpr ⟨lw_p30, List.forall_mem_cons.mpr ⟨lw_p31, fun _ h => absurd h List.not_mem_nil⟩⟩⟩⟩⟩⟩⟩⟩⟩⟩⟩⟩⟩⟩⟩⟩
theorem lw_p32 : lw_okq (⟨"FigureHouse$Search", "seek", "(II)V"⟩, 11) := ⟨⟨by decide +kernel, by decide +kernel⟩, List.mem_of_getElem? (i := 112) (by decide +kernel), List.mem_of_getElem? (i := 962) (by decide +kernel), List.mem_of_getElem? (i := 963) (by decide +kernel)⟩
theorem lw_p33 : lw_okq (⟨"FigureHouse$Search", "keep", "(I)V"⟩, 11) := ⟨⟨by decide +kernel, by decide +kernel⟩, List.mem_of_getElem? (i := 112) (by decide +kernel), List.mem_of_getElem? (i := 966) (by decide +kernel), List.mem_of_getElem? (i := 967) (by decide +kernel)⟩
theorem lw_p34 : lw_okq (⟨"FigureHouse$Search", "blame", "(II)V"⟩, 11) := ⟨⟨by decide +kernel, by decide +kernel⟩, List.mem_of_getElem? (i := 112) (by decide +kernel), List.mem_of_getElem? (i := 970) (by decide +kernel), List.mem_of_getElem? (i := 971) (by decide +kernel)⟩
theorem lw_p35 : lw_okq (⟨"FigureHouse$Search", "addTo", "(IIJ)V"⟩, 11) := ⟨⟨by decide +kernel, by decide +kernel⟩, List.mem_of_getElem? (i := 112) (by decide +kernel), List.mem_of_getElem? (i := 974) (by decide +kernel), List.mem_of_getElem? (i := 975) (by decide +kernel)⟩
theorem lw_p36 : lw_okq (⟨"FigureHouse$Page", "pressedAt", "(II)J"⟩, 19) := ⟨⟨by decide +kernel, by decide +kernel⟩, List.mem_of_getElem? (i := 589) (by decide +kernel), List.mem_of_getElem? (i := 1017) (by decide +kernel), List.mem_of_getElem? (i := 1018) (by decide +kernel)⟩
theorem lw_p37 : lw_okq (⟨"FigureHouse", "plateWith", "(II)LFigureHouse$Page;"⟩, 20) := ⟨⟨by decide +kernel, by decide +kernel⟩, List.mem_of_getElem? (i := 28) (by decide +kernel), List.mem_of_getElem? (i := 1036) (by decide +kernel), List.mem_of_getElem? (i := 1037) (by decide +kernel)⟩
theorem lw_p38 : lw_okq (⟨"FigureHouse", "countsAs", "(ILFigureHouse$Page;IJ)Z"⟩, 20) := ⟨⟨by decide +kernel, by decide +kernel⟩, List.mem_of_getElem? (i := 28) (by decide +kernel), List.mem_of_getElem? (i := 1128) (by decide +kernel), List.mem_of_getElem? (i := 1129) (by decide +kernel)⟩
theorem lw_p39 : lw_okq (⟨"FigureHouse", "sheetAt", "(I)LFigureHouse$Sheet;"⟩, 20) := ⟨⟨by decide +kernel, by decide +kernel⟩, List.mem_of_getElem? (i := 28) (by decide +kernel), List.mem_of_getElem? (i := 1158) (by decide +kernel), List.mem_of_getElem? (i := 1159) (by decide +kernel)⟩
theorem lw_p40 : lw_okq (⟨"FigureHouse$Planner", "pivotsOf", "(II)I"⟩, 11) := ⟨⟨by decide +kernel, by decide +kernel⟩, List.mem_of_getElem? (i := 157) (by decide +kernel), List.mem_of_getElem? (i := 1201) (by decide +kernel), List.mem_of_getElem? (i := 1202) (by decide +kernel)⟩
theorem lw_p41 : lw_okq (⟨"FigureHouse$Planner", "keepsAll", "(III)Z"⟩, 11) := ⟨⟨by decide +kernel, by decide +kernel⟩, List.mem_of_getElem? (i := 157) (by decide +kernel), List.mem_of_getElem? (i := 1205) (by decide +kernel), List.mem_of_getElem? (i := 1206) (by decide +kernel)⟩
theorem lw_p42 : lw_okq (⟨"FigureHouse$Planner", "reachOf", "(III)I"⟩, 11) := ⟨⟨by decide +kernel, by decide +kernel⟩, List.mem_of_getElem? (i := 157) (by decide +kernel), List.mem_of_getElem? (i := 1209) (by decide +kernel), List.mem_of_getElem? (i := 1210) (by decide +kernel)⟩
theorem lw_p43 : lw_okq (⟨"FigureHouse$Planner", "nextMade", "(I)J"⟩, 11) := ⟨⟨by decide +kernel, by decide +kernel⟩, List.mem_of_getElem? (i := 157) (by decide +kernel), List.mem_of_getElem? (i := 1214) (by decide +kernel), List.mem_of_getElem? (i := 1215) (by decide +kernel)⟩
theorem lw_p44 : lw_okq (⟨"FigureHouse$Planner", "takePivot", "(IJ)V"⟩, 11) := ⟨⟨by decide +kernel, by decide +kernel⟩, List.mem_of_getElem? (i := 157) (by decide +kernel), List.mem_of_getElem? (i := 1218) (by decide +kernel), List.mem_of_getElem? (i := 1219) (by decide +kernel)⟩
theorem lw_p45 : lw_okq (⟨"FigureHouse", "slipsMended", "()I"⟩, 20) := ⟨⟨by decide +kernel, by decide +kernel⟩, List.mem_of_getElem? (i := 28) (by decide +kernel), List.mem_of_getElem? (i := 1226) (by decide +kernel), List.mem_of_getElem? (i := 1227) (by decide +kernel)⟩
theorem lw_p46 : lw_okq (⟨"FigureHouse", "pagesSet", "()I"⟩, 20) := ⟨⟨by decide +kernel, by decide +kernel⟩, List.mem_of_getElem? (i := 28) (by decide +kernel), List.mem_of_getElem? (i := 1230) (by decide +kernel), List.mem_of_getElem? (i := 1231) (by decide +kernel)⟩
theorem lw_p47 : lw_okq (⟨"java/lang/Throwable", "fillInStackTrace", "(I)Ljava/lang/Throwable;"⟩, 6) := ⟨⟨by decide +kernel, by decide +kernel⟩, List.mem_of_getElem? (i := 1279) (by decide +kernel), List.mem_of_getElem? (i := 1277) (by decide +kernel), List.mem_of_getElem? (i := 1278) (by decide +kernel)⟩
def lw_privs_3 : List (MethodName × Nat) := [(⟨"FigureHouse$Search", "seek", "(II)V"⟩, 11), (⟨"FigureHouse$Search", "keep", "(I)V"⟩, 11), (⟨"FigureHouse$Search", "blame", "(II)V"⟩, 11), (⟨"FigureHouse$Search", "addTo", "(IIJ)V"⟩, 11), (⟨"FigureHouse$Page", "pressedAt", "(II)J"⟩, 19), (⟨"FigureHouse", "plateWith", "(II)LFigureHouse$Page;"⟩, 20), (⟨"FigureHouse", "countsAs", "(ILFigureHouse$Page;IJ)Z"⟩, 20), (⟨"FigureHouse", "sheetAt", "(I)LFigureHouse$Sheet;"⟩, 20), (⟨"FigureHouse$Planner", "pivotsOf", "(II)I"⟩, 11), (⟨"FigureHouse$Planner", "keepsAll", "(III)Z"⟩, 11), (⟨"FigureHouse$Planner", "reachOf", "(III)I"⟩, 11), (⟨"FigureHouse$Planner", "nextMade", "(I)J"⟩, 11), (⟨"FigureHouse$Planner", "takePivot", "(IJ)V"⟩, 11), (⟨"FigureHouse", "slipsMended", "()I"⟩, 20), (⟨"FigureHouse", "pagesSet", "()I"⟩, 20), (⟨"java/lang/Throwable", "fillInStackTrace", "(I)Ljava/lang/Throwable;"⟩, 6)]
theorem lw_r3 : ∀ q ∈ lw_privs_3, lw_okq q := List.forall_mem_cons.mpr ⟨lw_p32, List.forall_mem_cons.mpr ⟨lw_p33, List.forall_mem_cons.mpr ⟨lw_p34, List.forall_mem_cons.mpr ⟨lw_p35, List.forall_mem_cons.mpr ⟨lw_p36, List.forall_mem_cons.mpr ⟨lw_p37, List.forall_mem_cons.mpr ⟨lw_p38, List.forall_mem_cons.mpr ⟨lw_p39, List.forall_mem_cons.mpr ⟨lw_p40, List.forall_mem_cons.mpr ⟨lw_p41, List.forall_mem_cons.mpr ⟨lw_p42, List.forall_mem_cons.mpr ⟨lw_p43, List.forall_mem_cons.mpr ⟨lw_p44, List.forall_mem_cons.mpr ⟨lw_p45, List.forall_mem_cons.mpr ⟨lw_p46, List.forall_mem_cons.mpr ⟨lw_p47, fun _ h => absurd h List.not_mem_nil⟩⟩⟩⟩⟩⟩⟩⟩⟩⟩⟩⟩⟩⟩⟩⟩
theorem lw_p48 : lw_okq (⟨"FigureHouseModel", "isFunction", "(III)Z"⟩, 90) := ⟨⟨by decide +kernel, by decide +kernel⟩, List.mem_of_getElem? (i := 1358) (by decide +kernel), List.mem_of_getElem? (i := 1663) (by decide +kernel), List.mem_of_getElem? (i := 1664) (by decide +kernel)⟩
theorem lw_p49 : lw_okq (⟨"FigureHouseModel", "exactOf", "(III)J"⟩, 90) := ⟨⟨by decide +kernel, by decide +kernel⟩, List.mem_of_getElem? (i := 1358) (by decide +kernel), List.mem_of_getElem? (i := 1667) (by decide +kernel), List.mem_of_getElem? (i := 1668) (by decide +kernel)⟩
theorem lw_p50 : lw_okq (⟨"FigureHouseModel", "under", "(III)J"⟩, 90) := ⟨⟨by decide +kernel, by decide +kernel⟩, List.mem_of_getElem? (i := 1358) (by decide +kernel), List.mem_of_getElem? (i := 1671) (by decide +kernel), List.mem_of_getElem? (i := 1672) (by decide +kernel)⟩
theorem lw_p51 : lw_okq (⟨"FigureHouseModel", "above", "(III)J"⟩, 90) := ⟨⟨by decide +kernel, by decide +kernel⟩, List.mem_of_getElem? (i := 1358) (by decide +kernel), List.mem_of_getElem? (i := 1684) (by decide +kernel), List.mem_of_getElem? (i := 1685) (by decide +kernel)⟩
theorem lw_p52 : lw_okq (⟨"FigureHouseModel", "below", "(II)J"⟩, 90) := ⟨⟨by decide +kernel, by decide +kernel⟩, List.mem_of_getElem? (i := 1358) (by decide +kernel), List.mem_of_getElem? (i := 1689) (by decide +kernel), List.mem_of_getElem? (i := 1690) (by decide +kernel)⟩
theorem lw_p53 : lw_okq (⟨"FigureHouseModel", "nearestOf", "(IIII)J"⟩, 90) := ⟨⟨by decide +kernel, by decide +kernel⟩, List.mem_of_getElem? (i := 1358) (by decide +kernel), List.mem_of_getElem? (i := 1703) (by decide +kernel), List.mem_of_getElem? (i := 1704) (by decide +kernel)⟩
theorem lw_p54 : lw_okq (⟨"FigureHouseModel", "clause", "()V"⟩, 90) := ⟨⟨by decide +kernel, by decide +kernel⟩, List.mem_of_getElem? (i := 1358) (by decide +kernel), List.mem_of_getElem? (i := 1726) (by decide +kernel), List.mem_of_getElem? (i := 1727) (by decide +kernel)⟩
theorem lw_p55 : lw_okq (⟨"FigureHouseModel", "look", "()I"⟩, 90) := ⟨⟨by decide +kernel, by decide +kernel⟩, List.mem_of_getElem? (i := 1358) (by decide +kernel), List.mem_of_getElem? (i := 1730) (by decide +kernel), List.mem_of_getElem? (i := 1731) (by decide +kernel)⟩
theorem lw_p56 : lw_okq (⟨"FigureHouseModel", "bad", "()V"⟩, 90) := ⟨⟨by decide +kernel, by decide +kernel⟩, List.mem_of_getElem? (i := 1358) (by decide +kernel), List.mem_of_getElem? (i := 1737) (by decide +kernel), List.mem_of_getElem? (i := 1738) (by decide +kernel)⟩
theorem lw_p57 : lw_okq (⟨"FigureHouseModel", "say", "(I)V"⟩, 90) := ⟨⟨by decide +kernel, by decide +kernel⟩, List.mem_of_getElem? (i := 1358) (by decide +kernel), List.mem_of_getElem? (i := 1741) (by decide +kernel), List.mem_of_getElem? (i := 1742) (by decide +kernel)⟩
theorem lw_p58 : lw_okq (⟨"FigureHouseModel", "sum", "()V"⟩, 90) := ⟨⟨by decide +kernel, by decide +kernel⟩, List.mem_of_getElem? (i := 1358) (by decide +kernel), List.mem_of_getElem? (i := 1745) (by decide +kernel), List.mem_of_getElem? (i := 1746) (by decide +kernel)⟩
theorem lw_p59 : lw_okq (⟨"FigureHouseModel", "term", "()V"⟩, 90) := ⟨⟨by decide +kernel, by decide +kernel⟩, List.mem_of_getElem? (i := 1358) (by decide +kernel), List.mem_of_getElem? (i := 1749) (by decide +kernel), List.mem_of_getElem? (i := 1750) (by decide +kernel)⟩
theorem lw_p60 : lw_okq (⟨"FigureHouseModel", "atom", "()V"⟩, 90) := ⟨⟨by decide +kernel, by decide +kernel⟩, List.mem_of_getElem? (i := 1358) (by decide +kernel), List.mem_of_getElem? (i := 1753) (by decide +kernel), List.mem_of_getElem? (i := 1754) (by decide +kernel)⟩
theorem lw_p61 : lw_okq (⟨"FigureHouseModel", "opens", "()Z"⟩, 90) := ⟨⟨by decide +kernel, by decide +kernel⟩, List.mem_of_getElem? (i := 1358) (by decide +kernel), List.mem_of_getElem? (i := 1757) (by decide +kernel), List.mem_of_getElem? (i := 1758) (by decide +kernel)⟩
theorem lw_p62 : lw_okq (⟨"FigureHouseModel", "closes", "(I)V"⟩, 90) := ⟨⟨by decide +kernel, by decide +kernel⟩, List.mem_of_getElem? (i := 1358) (by decide +kernel), List.mem_of_getElem? (i := 1761) (by decide +kernel), List.mem_of_getElem? (i := 1762) (by decide +kernel)⟩
theorem lw_p63 : lw_okq (⟨"FigureHouseModel", "number", "()V"⟩, 90) := ⟨⟨by decide +kernel, by decide +kernel⟩, List.mem_of_getElem? (i := 1358) (by decide +kernel), List.mem_of_getElem? (i := 1765) (by decide +kernel), List.mem_of_getElem? (i := 1766) (by decide +kernel)⟩
def lw_privs_4 : List (MethodName × Nat) := [(⟨"FigureHouseModel", "isFunction", "(III)Z"⟩, 90), (⟨"FigureHouseModel", "exactOf", "(III)J"⟩, 90), (⟨"FigureHouseModel", "under", "(III)J"⟩, 90), (⟨"FigureHouseModel", "above", "(III)J"⟩, 90), (⟨"FigureHouseModel", "below", "(II)J"⟩, 90), (⟨"FigureHouseModel", "nearestOf", "(IIII)J"⟩, 90), (⟨"FigureHouseModel", "clause", "()V"⟩, 90), (⟨"FigureHouseModel", "look", "()I"⟩, 90), (⟨"FigureHouseModel", "bad", "()V"⟩, 90), (⟨"FigureHouseModel", "say", "(I)V"⟩, 90), (⟨"FigureHouseModel", "sum", "()V"⟩, 90), (⟨"FigureHouseModel", "term", "()V"⟩, 90), (⟨"FigureHouseModel", "atom", "()V"⟩, 90), (⟨"FigureHouseModel", "opens", "()Z"⟩, 90), (⟨"FigureHouseModel", "closes", "(I)V"⟩, 90), (⟨"FigureHouseModel", "number", "()V"⟩, 90)]
theorem lw_r4 : ∀ q ∈ lw_privs_4, lw_okq q := List.forall_mem_cons.mpr ⟨lw_p48, List.forall_mem_cons.mpr ⟨lw_p49, List.forall_mem_cons.mpr ⟨lw_p50, List.forall_mem_cons.mpr ⟨lw_p51, List.forall_mem_cons.mpr ⟨lw_p52, List.forall_mem_cons.mpr ⟨lw_p53, List.forall_mem_cons.mpr ⟨lw_p54, List.forall_mem_cons.mpr ⟨lw_p55, List.forall_mem_cons.mpr ⟨lw_p56, List.forall_mem_cons.mpr ⟨lw_p57, List.forall_mem_cons.mpr ⟨lw_p58, List.forall_mem_cons.mpr ⟨lw_p59, List.forall_mem_cons.mpr ⟨lw_p60, List.forall_mem_cons.mpr ⟨lw_p61, List.forall_mem_cons.mpr ⟨lw_p62, List.forall_mem_cons.mpr ⟨lw_p63, fun _ h => absurd h List.not_mem_nil⟩⟩⟩⟩⟩⟩⟩⟩⟩⟩⟩⟩⟩⟩⟩⟩
theorem lw_p64 : lw_okq (⟨"FigureHouseModel", "condition", "(Z)V"⟩, 90) := ⟨⟨by decide +kernel, by decide +kernel⟩, List.mem_of_getElem? (i := 1358) (by decide +kernel), List.mem_of_getElem? (i := 1775) (by decide +kernel), List.mem_of_getElem? (i := 1776) (by decide +kernel)⟩
theorem lw_p65 : lw_okq (⟨"FigureHouseModel", "part", "(Z)V"⟩, 90) := ⟨⟨by decide +kernel, by decide +kernel⟩, List.mem_of_getElem? (i := 1358) (by decide +kernel), List.mem_of_getElem? (i := 1779) (by decide +kernel), List.mem_of_getElem? (i := 1780) (by decide +kernel)⟩
theorem lw_p66 : lw_okq (⟨"FigureHouseModel", "compare", "()V"⟩, 90) := ⟨⟨by decide +kernel, by decide +kernel⟩, List.mem_of_getElem? (i := 1358) (by decide +kernel), List.mem_of_getElem? (i := 1783) (by decide +kernel), List.mem_of_getElem? (i := 1784) (by decide +kernel)⟩
theorem lw_p67 : lw_okq (⟨"FigureHouseModel", "unit", "()V"⟩, 90) := ⟨⟨by decide +kernel, by decide +kernel⟩, List.mem_of_getElem? (i := 1358) (by decide +kernel), List.mem_of_getElem? (i := 1787) (by decide +kernel), List.mem_of_getElem? (i := 1788) (by decide +kernel)⟩
theorem lw_p68 : lw_okq (⟨"FigureHouseModel", "worthOf", "(IIIII)I"⟩, 90) := ⟨⟨by decide +kernel, by decide +kernel⟩, List.mem_of_getElem? (i := 1358) (by decide +kernel), List.mem_of_getElem? (i := 1800) (by decide +kernel), List.mem_of_getElem? (i := 1801) (by decide +kernel)⟩
theorem lw_p69 : lw_okq (⟨"FigureHouseModel", "work", "()I"⟩, 90) := ⟨⟨by decide +kernel, by decide +kernel⟩, List.mem_of_getElem? (i := 1358) (by decide +kernel), List.mem_of_getElem? (i := 1804) (by decide +kernel), List.mem_of_getElem? (i := 1805) (by decide +kernel)⟩
theorem lw_p70 : lw_okq (⟨"FigureHouseModel", "label", "(II)I"⟩, 90) := ⟨⟨by decide +kernel, by decide +kernel⟩, List.mem_of_getElem? (i := 1358) (by decide +kernel), List.mem_of_getElem? (i := 1822) (by decide +kernel), List.mem_of_getElem? (i := 1823) (by decide +kernel)⟩
theorem lw_p71 : lw_okq (⟨"FigureHouseModel", "isPage", "(I)Z"⟩, 90) := ⟨⟨by decide +kernel, by decide +kernel⟩, List.mem_of_getElem? (i := 1358) (by decide +kernel), List.mem_of_getElem? (i := 1831) (by decide +kernel), List.mem_of_getElem? (i := 1832) (by decide +kernel)⟩
theorem lw_p72 : lw_okq (⟨"FigureHouseModel", "blocks", "(I)I"⟩, 90) := ⟨⟨by decide +kernel, by decide +kernel⟩, List.mem_of_getElem? (i := 1358) (by decide +kernel), List.mem_of_getElem? (i := 1835) (by decide +kernel), List.mem_of_getElem? (i := 1836) (by decide +kernel)⟩
theorem lw_p73 : lw_okq (⟨"FigureHouseModel", "pivots", "(I)I"⟩, 90) := ⟨⟨by decide +kernel, by decide +kernel⟩, List.mem_of_getElem? (i := 1358) (by decide +kernel), List.mem_of_getElem? (i := 1839) (by decide +kernel), List.mem_of_getElem? (i := 1840) (by decide +kernel)⟩
theorem lw_p74 : lw_okq (⟨"FigureHouseModel", "isMade", "(II)Z"⟩, 90) := ⟨⟨by decide +kernel, by decide +kernel⟩, List.mem_of_getElem? (i := 1358) (by decide +kernel), List.mem_of_getElem? (i := 1843) (by decide +kernel), List.mem_of_getElem? (i := 1844) (by decide +kernel)⟩
theorem lw_p75 : lw_okq (⟨"FigureHouseModel", "placeOf", "(II)I"⟩, 90) := ⟨⟨by decide +kernel, by decide +kernel⟩, List.mem_of_getElem? (i := 1358) (by decide +kernel), List.mem_of_getElem? (i := 1847) (by decide +kernel), List.mem_of_getElem? (i := 1848) (by decide +kernel)⟩
theorem lw_p76 : lw_okq (⟨"FigureHouseModel", "isLine", "(II)Z"⟩, 90) := ⟨⟨by decide +kernel, by decide +kernel⟩, List.mem_of_getElem? (i := 1358) (by decide +kernel), List.mem_of_getElem? (i := 1855) (by decide +kernel), List.mem_of_getElem? (i := 1856) (by decide +kernel)⟩
theorem lw_p77 : lw_okq (⟨"FigureHouseModel", "xOf", "(II)I"⟩, 90) := ⟨⟨by decide +kernel, by decide +kernel⟩, List.mem_of_getElem? (i := 1358) (by decide +kernel), List.mem_of_getElem? (i := 1859) (by decide +kernel), List.mem_of_getElem? (i := 1860) (by decide +kernel)⟩
theorem lw_p78 : lw_okq (⟨"FigureHouseModel", "isColumn", "(II)Z"⟩, 90) := ⟨⟨by decide +kernel, by decide +kernel⟩, List.mem_of_getElem? (i := 1358) (by decide +kernel), List.mem_of_getElem? (i := 1867) (by decide +kernel), List.mem_of_getElem? (i := 1868) (by decide +kernel)⟩
theorem lw_p79 : lw_okq (⟨"FigureHouseModel", "trueNumber", "(II)J"⟩, 90) := ⟨⟨by decide +kernel, by decide +kernel⟩, List.mem_of_getElem? (i := 1358) (by decide +kernel), List.mem_of_getElem? (i := 1881) (by decide +kernel), List.mem_of_getElem? (i := 1882) (by decide +kernel)⟩
def lw_privs_5 : List (MethodName × Nat) := [(⟨"FigureHouseModel", "condition", "(Z)V"⟩, 90), (⟨"FigureHouseModel", "part", "(Z)V"⟩, 90), (⟨"FigureHouseModel", "compare", "()V"⟩, 90), (⟨"FigureHouseModel", "unit", "()V"⟩, 90), (⟨"FigureHouseModel", "worthOf", "(IIIII)I"⟩, 90), (⟨"FigureHouseModel", "work", "()I"⟩, 90), (⟨"FigureHouseModel", "label", "(II)I"⟩, 90), (⟨"FigureHouseModel", "isPage", "(I)Z"⟩, 90), (⟨"FigureHouseModel", "blocks", "(I)I"⟩, 90), (⟨"FigureHouseModel", "pivots", "(I)I"⟩, 90), (⟨"FigureHouseModel", "isMade", "(II)Z"⟩, 90), (⟨"FigureHouseModel", "placeOf", "(II)I"⟩, 90), (⟨"FigureHouseModel", "isLine", "(II)Z"⟩, 90), (⟨"FigureHouseModel", "xOf", "(II)I"⟩, 90), (⟨"FigureHouseModel", "isColumn", "(II)Z"⟩, 90), (⟨"FigureHouseModel", "trueNumber", "(II)J"⟩, 90)]
theorem lw_r5 : ∀ q ∈ lw_privs_5, lw_okq q := List.forall_mem_cons.mpr ⟨lw_p64, List.forall_mem_cons.mpr ⟨lw_p65, List.forall_mem_cons.mpr ⟨lw_p66, List.forall_mem_cons.mpr ⟨lw_p67, List.forall_mem_cons.mpr ⟨lw_p68, List.forall_mem_cons.mpr ⟨lw_p69, List.forall_mem_cons.mpr ⟨lw_p70, List.forall_mem_cons.mpr ⟨lw_p71, List.forall_mem_cons.mpr ⟨lw_p72, List.forall_mem_cons.mpr ⟨lw_p73, List.forall_mem_cons.mpr ⟨lw_p74, List.forall_mem_cons.mpr ⟨lw_p75, List.forall_mem_cons.mpr ⟨lw_p76, List.forall_mem_cons.mpr ⟨lw_p77, List.forall_mem_cons.mpr ⟨lw_p78, List.forall_mem_cons.mpr ⟨lw_p79, fun _ h => absurd h List.not_mem_nil⟩⟩⟩⟩⟩⟩⟩⟩⟩⟩⟩⟩⟩⟩⟩⟩
theorem lw_p80 : lw_okq (⟨"FigureHouseModel", "makeTrue", "(I)V"⟩, 90) := ⟨⟨by decide +kernel, by decide +kernel⟩, List.mem_of_getElem? (i := 1358) (by decide +kernel), List.mem_of_getElem? (i := 1885) (by decide +kernel), List.mem_of_getElem? (i := 1886) (by decide +kernel)⟩
theorem lw_p81 : lw_okq (⟨"FigureHouseModel", "clear", "()V"⟩, 90) := ⟨⟨by decide +kernel, by decide +kernel⟩, List.mem_of_getElem? (i := 1358) (by decide +kernel), List.mem_of_getElem? (i := 1889) (by decide +kernel), List.mem_of_getElem? (i := 1890) (by decide +kernel)⟩
theorem lw_p82 : lw_okq (⟨"FigureHouseModel", "makePage", "(I)V"⟩, 90) := ⟨⟨by decide +kernel, by decide +kernel⟩, List.mem_of_getElem? (i := 1358) (by decide +kernel), List.mem_of_getElem? (i := 1893) (by decide +kernel), List.mem_of_getElem? (i := 1894) (by decide +kernel)⟩
theorem lw_p83 : lw_okq (⟨"FigureHouseModel", "make", "(IIIIIII)V"⟩, 90) := ⟨⟨by decide +kernel, by decide +kernel⟩, List.mem_of_getElem? (i := 1358) (by decide +kernel), List.mem_of_getElem? (i := 1897) (by decide +kernel), List.mem_of_getElem? (i := 1898) (by decide +kernel)⟩
theorem lw_p84 : lw_okq (⟨"FigureHouseModel", "isKnowing", "(I)Z"⟩, 90) := ⟨⟨by decide +kernel, by decide +kernel⟩, List.mem_of_getElem? (i := 1358) (by decide +kernel), List.mem_of_getElem? (i := 1905) (by decide +kernel), List.mem_of_getElem? (i := 1906) (by decide +kernel)⟩
theorem lw_p85 : lw_okq (⟨"FigureHouseModel", "makeAs", "(II)V"⟩, 90) := ⟨⟨by decide +kernel, by decide +kernel⟩, List.mem_of_getElem? (i := 1358) (by decide +kernel), List.mem_of_getElem? (i := 1909) (by decide +kernel), List.mem_of_getElem? (i := 1910) (by decide +kernel)⟩
theorem lw_p86 : lw_okq (⟨"FigureHouseModel", "counts", "(II)Z"⟩, 90) := ⟨⟨by decide +kernel, by decide +kernel⟩, List.mem_of_getElem? (i := 1358) (by decide +kernel), List.mem_of_getElem? (i := 1913) (by decide +kernel), List.mem_of_getElem? (i := 1914) (by decide +kernel)⟩
theorem lw_p87 : lw_okq (⟨"FigureHouseModel", "keptOf", "(IJ)J"⟩, 90) := ⟨⟨by decide +kernel, by decide +kernel⟩, List.mem_of_getElem? (i := 1358) (by decide +kernel), List.mem_of_getElem? (i := 1924) (by decide +kernel), List.mem_of_getElem? (i := 1925) (by decide +kernel)⟩
theorem lw_p88 : lw_okq (⟨"FigureHouseModel", "rightOf", "(II)J"⟩, 90) := ⟨⟨by decide +kernel, by decide +kernel⟩, List.mem_of_getElem? (i := 1358) (by decide +kernel), List.mem_of_getElem? (i := 1932) (by decide +kernel), List.mem_of_getElem? (i := 1933) (by decide +kernel)⟩
theorem lw_p89 : lw_okq (⟨"FigureHouseModel", "nearestAt", "(II)J"⟩, 90) := ⟨⟨by decide +kernel, by decide +kernel⟩, List.mem_of_getElem? (i := 1358) (by decide +kernel), List.mem_of_getElem? (i := 1944) (by decide +kernel), List.mem_of_getElem? (i := 1945) (by decide +kernel)⟩
theorem lw_p90 : lw_okq (⟨"FigureHouseModel", "boundOf", "(II)J"⟩, 90) := ⟨⟨by decide +kernel, by decide +kernel⟩, List.mem_of_getElem? (i := 1358) (by decide +kernel), List.mem_of_getElem? (i := 1952) (by decide +kernel), List.mem_of_getElem? (i := 1953) (by decide +kernel)⟩
theorem lw_p91 : lw_okq (⟨"FigureHouseModel", "holds", "(II)Z"⟩, 90) := ⟨⟨by decide +kernel, by decide +kernel⟩, List.mem_of_getElem? (i := 1358) (by decide +kernel), List.mem_of_getElem? (i := 1973) (by decide +kernel), List.mem_of_getElem? (i := 1974) (by decide +kernel)⟩
theorem lw_p92 : lw_okq (⟨"FigureHouseModel", "difference", "(II)J"⟩, 90) := ⟨⟨by decide +kernel, by decide +kernel⟩, List.mem_of_getElem? (i := 1358) (by decide +kernel), List.mem_of_getElem? (i := 1977) (by decide +kernel), List.mem_of_getElem? (i := 1978) (by decide +kernel)⟩
theorem lw_p93 : lw_okq (⟨"FigureHouseModel", "failing", "(I)I"⟩, 90) := ⟨⟨by decide +kernel, by decide +kernel⟩, List.mem_of_getElem? (i := 1358) (by decide +kernel), List.mem_of_getElem? (i := 1985) (by decide +kernel), List.mem_of_getElem? (i := 1986) (by decide +kernel)⟩
theorem lw_p94 : lw_okq (⟨"FigureHouseModel", "keepTruth", "(I)V"⟩, 90) := ⟨⟨by decide +kernel, by decide +kernel⟩, List.mem_of_getElem? (i := 1358) (by decide +kernel), List.mem_of_getElem? (i := 2001) (by decide +kernel), List.mem_of_getElem? (i := 2002) (by decide +kernel)⟩
theorem lw_p95 : lw_okq (⟨"FigureHouseModel", "findLeast", "(III)Z"⟩, 90) := ⟨⟨by decide +kernel, by decide +kernel⟩, List.mem_of_getElem? (i := 1358) (by decide +kernel), List.mem_of_getElem? (i := 2013) (by decide +kernel), List.mem_of_getElem? (i := 2014) (by decide +kernel)⟩
def lw_privs_6 : List (MethodName × Nat) := [(⟨"FigureHouseModel", "makeTrue", "(I)V"⟩, 90), (⟨"FigureHouseModel", "clear", "()V"⟩, 90), (⟨"FigureHouseModel", "makePage", "(I)V"⟩, 90), (⟨"FigureHouseModel", "make", "(IIIIIII)V"⟩, 90), (⟨"FigureHouseModel", "isKnowing", "(I)Z"⟩, 90), (⟨"FigureHouseModel", "makeAs", "(II)V"⟩, 90), (⟨"FigureHouseModel", "counts", "(II)Z"⟩, 90), (⟨"FigureHouseModel", "keptOf", "(IJ)J"⟩, 90), (⟨"FigureHouseModel", "rightOf", "(II)J"⟩, 90), (⟨"FigureHouseModel", "nearestAt", "(II)J"⟩, 90), (⟨"FigureHouseModel", "boundOf", "(II)J"⟩, 90), (⟨"FigureHouseModel", "holds", "(II)Z"⟩, 90), (⟨"FigureHouseModel", "difference", "(II)J"⟩, 90), (⟨"FigureHouseModel", "failing", "(I)I"⟩, 90), (⟨"FigureHouseModel", "keepTruth", "(I)V"⟩, 90), (⟨"FigureHouseModel", "findLeast", "(III)Z"⟩, 90)]
theorem lw_r6 : ∀ q ∈ lw_privs_6, lw_okq q := List.forall_mem_cons.mpr ⟨lw_p80, List.forall_mem_cons.mpr ⟨lw_p81, List.forall_mem_cons.mpr ⟨lw_p82, List.forall_mem_cons.mpr ⟨lw_p83, List.forall_mem_cons.mpr ⟨lw_p84, List.forall_mem_cons.mpr ⟨lw_p85, List.forall_mem_cons.mpr ⟨lw_p86, List.forall_mem_cons.mpr ⟨lw_p87, List.forall_mem_cons.mpr ⟨lw_p88, List.forall_mem_cons.mpr ⟨lw_p89, List.forall_mem_cons.mpr ⟨lw_p90, List.forall_mem_cons.mpr ⟨lw_p91, List.forall_mem_cons.mpr ⟨lw_p92, List.forall_mem_cons.mpr ⟨lw_p93, List.forall_mem_cons.mpr ⟨lw_p94, List.forall_mem_cons.mpr ⟨lw_p95, fun _ h => absurd h List.not_mem_nil⟩⟩⟩⟩⟩⟩⟩⟩⟩⟩⟩⟩⟩⟩⟩⟩
theorem lw_p96 : lw_okq (⟨"FigureHouseModel", "seek", "(II)V"⟩, 90) := ⟨⟨by decide +kernel, by decide +kernel⟩, List.mem_of_getElem? (i := 1358) (by decide +kernel), List.mem_of_getElem? (i := 2018) (by decide +kernel), List.mem_of_getElem? (i := 2019) (by decide +kernel)⟩
theorem lw_p97 : lw_okq (⟨"FigureHouseModel", "mark", "(IIJ)V"⟩, 90) := ⟨⟨by decide +kernel, by decide +kernel⟩, List.mem_of_getElem? (i := 1358) (by decide +kernel), List.mem_of_getElem? (i := 2022) (by decide +kernel), List.mem_of_getElem? (i := 2023) (by decide +kernel)⟩
theorem lw_p98 : lw_okq (⟨"FigureHouseModel", "isPlate", "(I)Z"⟩, 90) := ⟨⟨by decide +kernel, by decide +kernel⟩, List.mem_of_getElem? (i := 1358) (by decide +kernel), List.mem_of_getElem? (i := 2063) (by decide +kernel), List.mem_of_getElem? (i := 2064) (by decide +kernel)⟩
theorem lw_p99 : lw_okq (⟨"FigureHouseModel", "printedAt", "(II)J"⟩, 90) := ⟨⟨by decide +kernel, by decide +kernel⟩, List.mem_of_getElem? (i := 1358) (by decide +kernel), List.mem_of_getElem? (i := 2071) (by decide +kernel), List.mem_of_getElem? (i := 2072) (by decide +kernel)⟩
theorem lw_p100 : lw_okq (⟨"FigureHouseModel", "isCopy", "(I)Z"⟩, 90) := ⟨⟨by decide +kernel, by decide +kernel⟩, List.mem_of_getElem? (i := 1358) (by decide +kernel), List.mem_of_getElem? (i := 2091) (by decide +kernel), List.mem_of_getElem? (i := 2092) (by decide +kernel)⟩
theorem lw_p101 : lw_okq (⟨"FigureHouseModel", "isSheet", "(I)Z"⟩, 90) := ⟨⟨by decide +kernel, by decide +kernel⟩, List.mem_of_getElem? (i := 1358) (by decide +kernel), List.mem_of_getElem? (i := 2123) (by decide +kernel), List.mem_of_getElem? (i := 2124) (by decide +kernel)⟩
theorem lw_p102 : lw_okq (⟨"FigureHouseModel", "isRight", "(IIIIIIIII)Z"⟩, 90) := ⟨⟨by decide +kernel, by decide +kernel⟩, List.mem_of_getElem? (i := 1358) (by decide +kernel), List.mem_of_getElem? (i := 2146) (by decide +kernel), List.mem_of_getElem? (i := 2147) (by decide +kernel)⟩
def lw_privs_7 : List (MethodName × Nat) := [(⟨"FigureHouseModel", "seek", "(II)V"⟩, 90), (⟨"FigureHouseModel", "mark", "(IIJ)V"⟩, 90), (⟨"FigureHouseModel", "isPlate", "(I)Z"⟩, 90), (⟨"FigureHouseModel", "printedAt", "(II)J"⟩, 90), (⟨"FigureHouseModel", "isCopy", "(I)Z"⟩, 90), (⟨"FigureHouseModel", "isSheet", "(I)Z"⟩, 90), (⟨"FigureHouseModel", "isRight", "(IIIIIIIII)Z"⟩, 90)]
theorem lw_r7 : ∀ q ∈ lw_privs_7, lw_okq q := List.forall_mem_cons.mpr ⟨lw_p96, List.forall_mem_cons.mpr ⟨lw_p97, List.forall_mem_cons.mpr ⟨lw_p98, List.forall_mem_cons.mpr ⟨lw_p99, List.forall_mem_cons.mpr ⟨lw_p100, List.forall_mem_cons.mpr ⟨lw_p101, List.forall_mem_cons.mpr ⟨lw_p102, fun _ h => absurd h List.not_mem_nil⟩⟩⟩⟩⟩⟩⟩
def lw_privs : List (MethodName × Nat) := lw_privs_1 ++ (lw_privs_2 ++ (lw_privs_3 ++ (lw_privs_4 ++ (lw_privs_5 ++ (lw_privs_6 ++ (lw_privs_7))))))
def lw_tbl : List Cond := k2_sels lw_privs ++ tables_1
theorem lw_privs_ok : ∀ q ∈ lw_privs, lw_okq q := by
  show ∀ q ∈ lw_privs_1 ++ (lw_privs_2 ++ (lw_privs_3 ++ (lw_privs_4 ++ (lw_privs_5 ++ (lw_privs_6 ++ (lw_privs_7)))))), lw_okq q
  exact List.forall_mem_append.mpr ⟨lw_r1, List.forall_mem_append.mpr ⟨lw_r2, List.forall_mem_append.mpr ⟨lw_r3, List.forall_mem_append.mpr ⟨lw_r4, List.forall_mem_append.mpr ⟨lw_r5, List.forall_mem_append.mpr ⟨lw_r6, lw_r7⟩⟩⟩⟩⟩⟩
def RX0 : String := "FigureHouse$Curve"
def TX0 : u_T := fun k => match k with
  | 0 => ("FigureHouse$Curve", "sort", "I", true)
  | 1 => ("FigureHouse$Curve", "a", "I", true)
  | _ => ("FigureHouse$Curve", "b", "I", true)
def tyX0 : Nat → FieldType := fun k => match k with
  | 0 => .int
  | 1 => .int
  | _ => .int
abbrev wsX00 : List Cond := u_ws RX0 TX0 3
theorem nmX0 : ∀ a, a < 3 → ∀ b, b < 3 → a ≠ b → (TX0 a).2.1 ≠ (TX0 b).2.1 := by decide +kernel
theorem tyX0_ok : ∀ k, k < 3 → parseFieldDescriptor (TX0 k).2.2.1 = some (tyX0 k) := by decide +kernel
abbrev cX0_init : ByteArray := prog_2_method_1_code
def yX0_init : MethodName := ⟨RX0, "<init>", "(III)V"⟩
abbrev cX0_quartersAt : ByteArray := prog_2_method_2_code
def yX0_quartersAt : MethodName := ⟨RX0, "quartersAt", "(I)J"⟩
def RX1 : String := "FigureHouse$Erratum"
def TX1 : u_T := fun k => match k with
  | 0 => ("FigureHouse$Erratum", "page", "I", true)
  | 1 => ("FigureHouse$Erratum", "line", "I", true)
  | 2 => ("FigureHouse$Erratum", "old", "J", true)
  | _ => ("FigureHouse$Erratum", "anew", "J", true)
def tyX1 : Nat → FieldType := fun k => match k with
  | 0 => .int
  | 1 => .int
  | 2 => .long
  | _ => .long
abbrev wsX10 : List Cond := u_ws RX1 TX1 4
theorem nmX1 : ∀ a, a < 4 → ∀ b, b < 4 → a ≠ b → (TX1 a).2.1 ≠ (TX1 b).2.1 := by decide +kernel
theorem tyX1_ok : ∀ k, k < 4 → parseFieldDescriptor (TX1 k).2.2.1 = some (tyX1 k) := by decide +kernel
abbrev cX1_init : ByteArray := prog_3_method_1_code
def yX1_init : MethodName := ⟨RX1, "<init>", "(IIJJ)V"⟩
def RX2 : String := "FigureHouse$Figures"
def TX2 : u_T := fun k => match k with
  | 0 => ("FigureHouse$Figures", "numbers", "[J", true)
  | 1 => ("FigureHouse$Figures", "columns", "[J", true)
  | _ => ("FigureHouse$Figures", "off", "[J", true)
def tyX2 : Nat → FieldType := fun k => match k with
  | 0 => .array .long
  | 1 => .array .long
  | _ => .array .long
abbrev wsX20 : List Cond := u_ws RX2 TX2 3
theorem nmX2 : ∀ a, a < 3 → ∀ b, b < 3 → a ≠ b → (TX2 a).2.1 ≠ (TX2 b).2.1 := by decide +kernel
theorem tyX2_ok : ∀ k, k < 3 → parseFieldDescriptor (TX2 k).2.2.1 = some (tyX2 k) := by decide +kernel
abbrev cX2_init : ByteArray := prog_4_method_1_code
def yX2_init : MethodName := ⟨RX2, "<init>", "()V"⟩
abbrev cX2_begin : ByteArray := prog_4_method_2_code
def yX2_begin : MethodName := ⟨RX2, "begin", "()V"⟩
abbrev cX2_add : ByteArray := prog_4_method_3_code
def yX2_add : MethodName := ⟨RX2, "add", "(IIJ)V"⟩
abbrev cX2_make : ByteArray := prog_4_method_4_code
def yX2_make : MethodName := ⟨RX2, "make", "(LFigureHouse$Page;)V"⟩
abbrev cX2_makeBlock : ByteArray := prog_4_method_5_code
def yX2_makeBlock : MethodName := ⟨RX2, "makeBlock", "(LFigureHouse$Page;I)V"⟩
abbrev cX2_makeLine : ByteArray := prog_4_method_6_code
def yX2_makeLine : MethodName := ⟨RX2, "makeLine", "(II)V"⟩
abbrev cX2_difference : ByteArray := prog_4_method_7_code
def yX2_difference : MethodName := ⟨RX2, "difference", "(II)J"⟩
abbrev cX2_keptOf : ByteArray := prog_4_method_8_code
def yX2_keptOf : MethodName := ⟨RX2, "keptOf", "(LFigureHouse$Page;I)J"⟩
abbrev cX2_failsFrom : ByteArray := prog_4_method_9_code
def yX2_failsFrom : MethodName := ⟨RX2, "failsFrom", "(LFigureHouse$Page;II)I"⟩
abbrev cX2_failsMoreBy : ByteArray := prog_4_method_10_code
def yX2_failsMoreBy : MethodName := ⟨RX2, "failsMoreBy", "(LFigureHouse$Page;LFigureHouse$Slip;)I"⟩
abbrev cX2_holds : ByteArray := prog_4_method_11_code
def yX2_holds : MethodName := ⟨RX2, "holds", "(LFigureHouse$Page;I)Z"⟩
abbrev cX2_addsUp : ByteArray := prog_4_method_12_code
def yX2_addsUp : MethodName := ⟨RX2, "addsUp", "(LFigureHouse$Page;I)Z"⟩
def RX3 : String := "FigureHouse$Page"
def TX3 : u_T := fun k => match k with
  | 0 => ("FigureHouse$Page", "function", "I", true)
  | 1 => ("FigureHouse$Page", "first", "I", true)
  | 2 => ("FigureHouse$Page", "lines", "I", true)
  | 3 => ("FigureHouse$Page", "interval", "I", false)
  | 4 => ("FigureHouse$Page", "order", "I", false)
  | 5 => ("FigureHouse$Page", "places", "I", false)
  | 6 => ("FigureHouse$Page", "carried", "I", false)
  | 7 => ("FigureHouse$Page", "span", "I", false)
  | 8 => ("FigureHouse$Page", "halves", "I", false)
  | 9 => ("FigureHouse$Page", "hands", "[I", true)
  | 10 => ("FigureHouse$Page", "seers", "[I", true)
  | 11 => ("FigureHouse$Page", "checks", "[I", true)
  | 12 => ("FigureHouse$Page", "limits", "[I", true)
  | 13 => ("FigureHouse$Page", "near", "[J", true)
  | 14 => ("FigureHouse$Page", "truth", "[J", true)
  | 15 => ("FigureHouse$Page", "right", "[J", true)
  | 16 => ("FigureHouse$Page", "slipped", "[I", true)
  | 17 => ("FigureHouse$Page", "plate", "[J", false)
  | _ => ("FigureHouse$Page", "pressed", "[J", true)
def tyX3 : Nat → FieldType := fun k => match k with
  | 0 => .int
  | 1 => .int
  | 2 => .int
  | 3 => .int
  | 4 => .int
  | 5 => .int
  | 6 => .int
  | 7 => .int
  | 8 => .int
  | 9 => .array .int
  | 10 => .array .int
  | 11 => .array .int
  | 12 => .array .int
  | 13 => .array .long
  | 14 => .array .long
  | 15 => .array .long
  | 16 => .array .int
  | 17 => .array .long
  | _ => .array .long
abbrev wsX30 : List Cond := u_ws RX3 TX3 19
theorem nmX3 : ∀ a, a < 19 → ∀ b, b < 19 → a ≠ b → (TX3 a).2.1 ≠ (TX3 b).2.1 := by decide +kernel
theorem tyX3_ok : ∀ k, k < 19 → parseFieldDescriptor (TX3 k).2.2.1 = some (tyX3 k) := by decide +kernel
abbrev cX3_init : ByteArray := prog_5_method_1_code
def yX3_init : MethodName := ⟨RX3, "<init>", "(III)V"⟩
abbrev cX3_followsHead : ByteArray := prog_5_method_2_code
def yX3_followsHead : MethodName := ⟨RX3, "followsHead", "(LFigureHouse$Reader;LFigureHouse$Text;)Z"⟩
abbrev cX3_followsLines : ByteArray := prog_5_method_3_code
def yX3_followsLines : MethodName := ⟨RX3, "followsLines", "(LFigureHouse$Reader;LFigureHouse$Text;)Z"⟩
abbrev cX3_reckon : ByteArray := prog_5_method_4_code
def yX3_reckon : MethodName := ⟨RX3, "reckon", "(LFigureHouse$Curve;)V"⟩
abbrev cX3_told : ByteArray := prog_5_method_5_code
def yX3_told : MethodName := ⟨RX3, "told", "(I)I"⟩
abbrev cX3_toldOf : ByteArray := prog_5_method_6_code
def yX3_toldOf : MethodName := ⟨RX3, "toldOf", "(II)I"⟩
abbrev cX3_hasLine : ByteArray := prog_5_method_7_code
def yX3_hasLine : MethodName := ⟨RX3, "hasLine", "(I)Z"⟩
abbrev cX3_xOf : ByteArray := prog_5_method_8_code
def yX3_xOf : MethodName := ⟨RX3, "xOf", "(I)I"⟩
abbrev cX3_blocks : ByteArray := prog_5_method_9_code
def yX3_blocks : MethodName := ⟨RX3, "blocks", "()I"⟩
abbrev cX3_blockOf : ByteArray := prog_5_method_10_code
def yX3_blockOf : MethodName := ⟨RX3, "blockOf", "(I)I"⟩
abbrev cX3_startOf : ByteArray := prog_5_method_11_code
def yX3_startOf : MethodName := ⟨RX3, "startOf", "(I)I"⟩
abbrev cX3_endOf : ByteArray := prog_5_method_12_code
def yX3_endOf : MethodName := ⟨RX3, "endOf", "(I)I"⟩
abbrev cX3_madeFrom : ByteArray := prog_5_method_13_code
def yX3_madeFrom : MethodName := ⟨RX3, "madeFrom", "(I)I"⟩
abbrev cX3_isMade : ByteArray := prog_5_method_14_code
def yX3_isMade : MethodName := ⟨RX3, "isMade", "(I)Z"⟩
abbrev cX3_pivots : ByteArray := prog_5_method_15_code
def yX3_pivots : MethodName := ⟨RX3, "pivots", "()I"⟩
abbrev cX3_canSlip : ByteArray := prog_5_method_16_code
def yX3_canSlip : MethodName := ⟨RX3, "canSlip", "(II)Z"⟩
abbrev cX3_hasColumn : ByteArray := prog_5_method_17_code
def yX3_hasColumn : MethodName := ⟨RX3, "hasColumn", "(II)Z"⟩
abbrev cX3_boundOf : ByteArray := prog_5_method_18_code
def yX3_boundOf : MethodName := ⟨RX3, "boundOf", "(I)J"⟩
abbrev cX3_isSet : ByteArray := prog_5_method_19_code
def yX3_isSet : MethodName := ⟨RX3, "isSet", "()Z"⟩
abbrev cX3_setEmpty : ByteArray := prog_5_method_20_code
def yX3_setEmpty : MethodName := ⟨RX3, "setEmpty", "()V"⟩
abbrev cX3_setLine : ByteArray := prog_5_method_21_code
def yX3_setLine : MethodName := ⟨RX3, "setLine", "(IJ)V"⟩
abbrev cX3_isPressed : ByteArray := prog_5_method_22_code
def yX3_isPressed : MethodName := ⟨RX3, "isPressed", "(II)Z"⟩
abbrev cX3_pressedAt : ByteArray := prog_5_method_23_code
def yX3_pressedAt : MethodName := ⟨RX3, "pressedAt", "(II)J"⟩
abbrev cX3_pressFigure : ByteArray := prog_5_method_24_code
def yX3_pressFigure : MethodName := ⟨RX3, "pressFigure", "(III)V"⟩
abbrev cX3_pressSlips : ByteArray := prog_5_method_25_code
def yX3_pressSlips : MethodName := ⟨RX3, "pressSlips", "()I"⟩
abbrev cX3_printedOf : ByteArray := prog_5_method_26_code
def yX3_printedOf : MethodName := ⟨RX3, "printedOf", "(I)J"⟩
def RX4 : String := "FigureHouse$Planner"
def TX4 : u_T := fun k => match k with
  | 0 => ("FigureHouse$Planner", "right", "[J", true)
  | 1 => ("FigureHouse$Planner", "near", "[J", true)
  | 2 => ("FigureHouse$Planner", "reach", "[I", true)
  | 3 => ("FigureHouse$Planner", "row", "[J", true)
  | 4 => ("FigureHouse$Planner", "lines", "I", false)
  | 5 => ("FigureHouse$Planner", "places", "I", false)
  | 6 => ("FigureHouse$Planner", "halves", "I", false)
  | 7 => ("FigureHouse$Planner", "bestHours", "I", false)
  | 8 => ("FigureHouse$Planner", "bestOrder", "I", false)
  | 9 => ("FigureHouse$Planner", "bestCarried", "I", false)
  | _ => ("FigureHouse$Planner", "bestSpan", "I", false)
def tyX4 : Nat → FieldType := fun k => match k with
  | 0 => .array .long
  | 1 => .array .long
  | 2 => .array .int
  | 3 => .array .long
  | 4 => .int
  | 5 => .int
  | 6 => .int
  | 7 => .int
  | 8 => .int
  | 9 => .int
  | _ => .int
abbrev wsX40 : List Cond := u_ws RX4 TX4 11
theorem nmX4 : ∀ a, a < 11 → ∀ b, b < 11 → a ≠ b → (TX4 a).2.1 ≠ (TX4 b).2.1 := by decide +kernel
theorem tyX4_ok : ∀ k, k < 11 → parseFieldDescriptor (TX4 k).2.2.1 = some (tyX4 k) := by decide +kernel
abbrev cX4_init : ByteArray := prog_6_method_1_code
def yX4_init : MethodName := ⟨RX4, "<init>", "()V"⟩
abbrev cX4_reckon : ByteArray := prog_6_method_2_code
def yX4_reckon : MethodName := ⟨RX4, "reckon", "(LFigureHouse$Curve;IIIII)V"⟩
abbrev cX4_findsOne : ByteArray := prog_6_method_3_code
def yX4_findsOne : MethodName := ⟨RX4, "findsOne", "(I)Z"⟩
abbrev cX4_pivotsOf : ByteArray := prog_6_method_4_code
def yX4_pivotsOf : MethodName := ⟨RX4, "pivotsOf", "(II)I"⟩
abbrev cX4_keepsAll : ByteArray := prog_6_method_5_code
def yX4_keepsAll : MethodName := ⟨RX4, "keepsAll", "(III)Z"⟩
abbrev cX4_reachOf : ByteArray := prog_6_method_6_code
def yX4_reachOf : MethodName := ⟨RX4, "reachOf", "(III)I"⟩
abbrev cX4_takePivot : ByteArray := prog_6_method_7_code
def yX4_takePivot : MethodName := ⟨RX4, "takePivot", "(IJ)V"⟩
abbrev cX4_nextMade : ByteArray := prog_6_method_8_code
def yX4_nextMade : MethodName := ⟨RX4, "nextMade", "(I)J"⟩
def RX5 : String := "FigureHouse$Reader"
def TX5 : u_T := fun k => match k with
  | 0 => ("FigureHouse$Reader", "text", "LFigureHouse$Text;", false)
  | 1 => ("FigureHouse$Reader", "at", "I", false)
  | 2 => ("FigureHouse$Reader", "refusedAt", "I", false)
  | 3 => ("FigureHouse$Reader", "n", "J", false)
  | 4 => ("FigureHouse$Reader", "b", "J", false)
  | 5 => ("FigureHouse$Reader", "x", "J", false)
  | _ => ("FigureHouse$Reader", "sumRead", "J", false)
def tyX5 : Nat → FieldType := fun k => match k with
  | 0 => .object "FigureHouse$Text"
  | 1 => .int
  | 2 => .int
  | 3 => .long
  | 4 => .long
  | 5 => .long
  | _ => .long
abbrev wsX50 : List Cond := u_ws RX5 TX5 7
theorem nmX5 : ∀ a, a < 7 → ∀ b, b < 7 → a ≠ b → (TX5 a).2.1 ≠ (TX5 b).2.1 := by decide +kernel
theorem tyX5_ok : ∀ k, k < 7 → parseFieldDescriptor (TX5 k).2.2.1 = some (tyX5 k) := by decide +kernel
abbrev cX5_init : ByteArray := prog_7_method_1_code
def yX5_init : MethodName := ⟨RX5, "<init>", "()V"⟩
abbrev cX5_faultIn : ByteArray := prog_7_method_2_code
def yX5_faultIn : MethodName := ⟨RX5, "faultIn", "(LFigureHouse$Text;)I"⟩
abbrev cX5_worthOf : ByteArray := prog_7_method_3_code
def yX5_worthOf : MethodName := ⟨RX5, "worthOf", "(LFigureHouse$Text;IIII)I"⟩
abbrev cX5_open : ByteArray := prog_7_method_4_code
def yX5_open : MethodName := ⟨RX5, "open", "(LFigureHouse$Text;)V"⟩
abbrev cX5_toNextClause : ByteArray := prog_7_method_5_code
def yX5_toNextClause : MethodName := ⟨RX5, "toNextClause", "()V"⟩
abbrev cX5_readsClause : ByteArray := prog_7_method_6_code
def yX5_readsClause : MethodName := ⟨RX5, "readsClause", "()Z"⟩
abbrev cX5_condition : ByteArray := prog_7_method_7_code
def yX5_condition : MethodName := ⟨RX5, "condition", "(I)Z"⟩
abbrev cX5_unit : ByteArray := prog_7_method_8_code
def yX5_unit : MethodName := ⟨RX5, "unit", "(I)Z"⟩
abbrev cX5_negated : ByteArray := prog_7_method_9_code
def yX5_negated : MethodName := ⟨RX5, "negated", "(I)Z"⟩
abbrev cX5_parenthesised : ByteArray := prog_7_method_10_code
def yX5_parenthesised : MethodName := ⟨RX5, "parenthesised", "(I)Z"⟩
abbrev cX5_sum : ByteArray := prog_7_method_11_code
def yX5_sum : MethodName := ⟨RX5, "sum", "(I)J"⟩
abbrev cX5_term : ByteArray := prog_7_method_12_code
def yX5_term : MethodName := ⟨RX5, "term", "(I)J"⟩
abbrev cX5_atom : ByteArray := prog_7_method_13_code
def yX5_atom : MethodName := ⟨RX5, "atom", "(I)J"⟩
abbrev cX5_number : ByteArray := prog_7_method_14_code
def yX5_number : MethodName := ⟨RX5, "number", "()J"⟩
abbrev cX5_nextSign : ByteArray := prog_7_method_15_code
def yX5_nextSign : MethodName := ⟨RX5, "nextSign", "()I"⟩
abbrev cX5_accepts : ByteArray := prog_7_method_16_code
def yX5_accepts : MethodName := ⟨RX5, "accepts", "(I)Z"⟩
abbrev cX5_demand : ByteArray := prog_7_method_17_code
def yX5_demand : MethodName := ⟨RX5, "demand", "(I)V"⟩
abbrev cX5_demandComparing : ByteArray := prog_7_method_18_code
def yX5_demandComparing : MethodName := ⟨RX5, "demandComparing", "()I"⟩
abbrev cX5_refuse : ByteArray := prog_7_method_19_code
def yX5_refuse : MethodName := ⟨RX5, "refuse", "()V"⟩
abbrev cX5_isDigit : ByteArray := prog_7_method_20_code
def yX5_isDigit : MethodName := ⟨RX5, "isDigit", "(I)Z"⟩
abbrev cX5_opensUnit : ByteArray := prog_7_method_21_code
def yX5_opensUnit : MethodName := ⟨RX5, "opensUnit", "(I)Z"⟩
abbrev cX5_compares : ByteArray := prog_7_method_22_code
def yX5_compares : MethodName := ⟨RX5, "compares", "(I)Z"⟩
abbrev cX5_compared : ByteArray := prog_7_method_23_code
def yX5_compared : MethodName := ⟨RX5, "compared", "(JIJ)Z"⟩
abbrev cX5_quotient : ByteArray := prog_7_method_24_code
def yX5_quotient : MethodName := ⟨RX5, "quotient", "(JJ)J"⟩
abbrev cX5_remainder : ByteArray := prog_7_method_25_code
def yX5_remainder : MethodName := ⟨RX5, "remainder", "(JJ)J"⟩
abbrev cX5_cut : ByteArray := prog_7_method_26_code
def yX5_cut : MethodName := ⟨RX5, "cut", "(J)J"⟩
def RX6 : String := "FigureHouse$Search"
def TX6 : u_T := fun k => match k with
  | 0 => ("FigureHouse$Search", "rest", "[J", true)
  | 1 => ("FigureHouse$Search", "lines", "[I", true)
  | 2 => ("FigureHouse$Search", "columns", "[I", true)
  | 3 => ("FigureHouse$Search", "amounts", "[J", true)
  | 4 => ("FigureHouse$Search", "firstLines", "[I", true)
  | 5 => ("FigureHouse$Search", "firstColumns", "[I", true)
  | 6 => ("FigureHouse$Search", "firstAmounts", "[J", true)
  | 7 => ("FigureHouse$Search", "end", "I", false)
  | 8 => ("FigureHouse$Search", "order", "I", false)
  | 9 => ("FigureHouse$Search", "fewest", "I", false)
  | _ => ("FigureHouse$Search", "sets", "I", false)
def tyX6 : Nat → FieldType := fun k => match k with
  | 0 => .array .long
  | 1 => .array .int
  | 2 => .array .int
  | 3 => .array .long
  | 4 => .array .int
  | 5 => .array .int
  | 6 => .array .long
  | 7 => .int
  | 8 => .int
  | 9 => .int
  | _ => .int
abbrev wsX60 : List Cond := u_ws RX6 TX6 11
theorem nmX6 : ∀ a, a < 11 → ∀ b, b < 11 → a ≠ b → (TX6 a).2.1 ≠ (TX6 b).2.1 := by decide +kernel
theorem tyX6_ok : ∀ k, k < 11 → parseFieldDescriptor (TX6 k).2.2.1 = some (tyX6 k) := by decide +kernel
abbrev cX6_init : ByteArray := prog_8_method_1_code
def yX6_init : MethodName := ⟨RX6, "<init>", "()V"⟩
abbrev cX6_explains : ByteArray := prog_8_method_2_code
def yX6_explains : MethodName := ⟨RX6, "explains", "(LFigureHouse$Figures;LFigureHouse$Page;I)Z"⟩
abbrev cX6_seek : ByteArray := prog_8_method_3_code
def yX6_seek : MethodName := ⟨RX6, "seek", "(II)V"⟩
abbrev cX6_blame : ByteArray := prog_8_method_4_code
def yX6_blame : MethodName := ⟨RX6, "blame", "(II)V"⟩
abbrev cX6_addTo : ByteArray := prog_8_method_5_code
def yX6_addTo : MethodName := ⟨RX6, "addTo", "(IIJ)V"⟩
abbrev cX6_keep : ByteArray := prog_8_method_6_code
def yX6_keep : MethodName := ⟨RX6, "keep", "(I)V"⟩
def RX7 : String := "FigureHouse$Sheet"
def TX7 : u_T := fun k => match k with
  | 0 => ("FigureHouse$Sheet", "kind", "I", true)
  | 1 => ("FigureHouse$Sheet", "places", "[J", true)
  | _ => ("FigureHouse$Sheet", "lost", "Z", false)
def tyX7 : Nat → FieldType := fun k => match k with
  | 0 => .int
  | 1 => .array .long
  | _ => .boolean
abbrev wsX70 : List Cond := u_ws RX7 TX7 3
theorem nmX7 : ∀ a, a < 3 → ∀ b, b < 3 → a ≠ b → (TX7 a).2.1 ≠ (TX7 b).2.1 := by decide +kernel
theorem tyX7_ok : ∀ k, k < 3 → parseFieldDescriptor (TX7 k).2.2.1 = some (tyX7 k) := by decide +kernel
abbrev cX7_init : ByteArray := prog_9_method_1_code
def yX7_init : MethodName := ⟨RX7, "<init>", "(I)V"⟩
abbrev cX7_cut : ByteArray := prog_9_method_2_code
def yX7_cut : MethodName := ⟨RX7, "cut", "(I)J"⟩
def RX8 : String := "FigureHouse$Slip"
def TX8 : u_T := fun k => match k with
  | 0 => ("FigureHouse$Slip", "page", "I", true)
  | 1 => ("FigureHouse$Slip", "line", "I", true)
  | 2 => ("FigureHouse$Slip", "column", "I", true)
  | 3 => ("FigureHouse$Slip", "amount", "I", true)
  | 4 => ("FigureHouse$Slip", "told", "I", true)
  | _ => ("FigureHouse$Slip", "mended", "I", false)
def tyX8 : Nat → FieldType := fun k => match k with
  | 0 => .int
  | 1 => .int
  | 2 => .int
  | 3 => .int
  | 4 => .int
  | _ => .int
abbrev wsX80 : List Cond := u_ws RX8 TX8 6
theorem nmX8 : ∀ a, a < 6 → ∀ b, b < 6 → a ≠ b → (TX8 a).2.1 ≠ (TX8 b).2.1 := by decide +kernel
theorem tyX8_ok : ∀ k, k < 6 → parseFieldDescriptor (TX8 k).2.2.1 = some (tyX8 k) := by decide +kernel
abbrev cX8_init : ByteArray := prog_10_method_1_code
def yX8_init : MethodName := ⟨RX8, "<init>", "(IIIII)V"⟩
abbrev cX8_isMendedBy : ByteArray := prog_10_method_2_code
def yX8_isMendedBy : MethodName := ⟨RX8, "isMendedBy", "(I)Z"⟩
abbrev cX8_isKnownIn : ByteArray := prog_10_method_3_code
def yX8_isKnownIn : MethodName := ⟨RX8, "isKnownIn", "(I)Z"⟩
def RX9 : String := "FigureHouse$Table"
def TX9 : u_T := fun k => match k with
  | 0 => ("FigureHouse$Table", "page", "I", true)
  | _ => ("FigureHouse$Table", "numbers", "[J", true)
def tyX9 : Nat → FieldType := fun k => match k with
  | 0 => .int
  | _ => .array .long
abbrev wsX90 : List Cond := u_ws RX9 TX9 2
theorem nmX9 : ∀ a, a < 2 → ∀ b, b < 2 → a ≠ b → (TX9 a).2.1 ≠ (TX9 b).2.1 := by decide +kernel
theorem tyX9_ok : ∀ k, k < 2 → parseFieldDescriptor (TX9 k).2.2.1 = some (tyX9 k) := by decide +kernel
abbrev cX9_init : ByteArray := prog_11_method_1_code
def yX9_init : MethodName := ⟨RX9, "<init>", "(I)V"⟩
def RX10 : String := "FigureHouse$Text"
def TX10 : u_T := fun k => match k with
  | 0 => ("FigureHouse$Text", "bytes", "[I", true)
  | _ => ("FigureHouse$Text", "length", "I", false)
def tyX10 : Nat → FieldType := fun k => match k with
  | 0 => .array .int
  | _ => .int
abbrev wsX100 : List Cond := u_ws RX10 TX10 2
theorem nmX10 : ∀ a, a < 2 → ∀ b, b < 2 → a ≠ b → (TX10 a).2.1 ≠ (TX10 b).2.1 := by decide +kernel
theorem tyX10_ok : ∀ k, k < 2 → parseFieldDescriptor (TX10 k).2.2.1 = some (tyX10 k) := by decide +kernel
abbrev cX10_init : ByteArray := prog_12_method_1_code
def yX10_init : MethodName := ⟨RX10, "<init>", "(I)V"⟩
abbrev cX10_addBytes : ByteArray := prog_12_method_2_code
def yX10_addBytes : MethodName := ⟨RX10, "addBytes", "(I)V"⟩
abbrev cX10_twin : ByteArray := prog_12_method_3_code
def yX10_twin : MethodName := ⟨RX10, "twin", "()LFigureHouse$Text;"⟩
def RX11 : String := "FigureHouse"
def TX11 : u_T := fun k => match k with
  | 0 => ("FigureHouse", "now", "I", false)
  | 1 => ("FigureHouse", "toldAs", "I", false)
  | 2 => ("FigureHouse", "driftUnits", "I", false)
  | 3 => ("FigureHouse", "pivotHours", "I", false)
  | 4 => ("FigureHouse", "pressSlips", "I", false)
  | 5 => ("FigureHouse", "doublings", "I", false)
  | 6 => ("FigureHouse", "leftUnseen", "[I", true)
  | 7 => ("FigureHouse", "tape", "LFigureHouse$Text;", true)
  | 8 => ("FigureHouse", "reader", "LFigureHouse$Reader;", true)
  | 9 => ("FigureHouse", "figures", "LFigureHouse$Figures;", true)
  | 10 => ("FigureHouse", "search", "LFigureHouse$Search;", true)
  | 11 => ("FigureHouse", "planner", "LFigureHouse$Planner;", true)
  | 12 => ("FigureHouse", "curves", "Ljava/util/ArrayList;", true)
  | 13 => ("FigureHouse", "plans", "Ljava/util/ArrayList;", true)
  | 14 => ("FigureHouse", "pages", "Ljava/util/ArrayList;", true)
  | 15 => ("FigureHouse", "slips", "Ljava/util/ArrayList;", true)
  | 16 => ("FigureHouse", "copies", "Ljava/util/ArrayList;", true)
  | 17 => ("FigureHouse", "others", "Ljava/util/ArrayList;", true)
  | 18 => ("FigureHouse", "errata", "Ljava/util/ArrayList;", true)
  | _ => ("FigureHouse", "sheets", "Ljava/util/ArrayList;", true)
def tyX11 : Nat → FieldType := fun k => match k with
  | 0 => .int
  | 1 => .int
  | 2 => .int
  | 3 => .int
  | 4 => .int
  | 5 => .int
  | 6 => .array .int
  | 7 => .object "FigureHouse$Text"
  | 8 => .object "FigureHouse$Reader"
  | 9 => .object "FigureHouse$Figures"
  | 10 => .object "FigureHouse$Search"
  | 11 => .object "FigureHouse$Planner"
  | 12 => .object "java/util/ArrayList"
  | 13 => .object "java/util/ArrayList"
  | 14 => .object "java/util/ArrayList"
  | 15 => .object "java/util/ArrayList"
  | 16 => .object "java/util/ArrayList"
  | 17 => .object "java/util/ArrayList"
  | 18 => .object "java/util/ArrayList"
  | _ => .object "java/util/ArrayList"
abbrev wsX110 : List Cond := u_ws RX11 TX11 20
theorem nmX11 : ∀ a, a < 20 → ∀ b, b < 20 → a ≠ b → (TX11 a).2.1 ≠ (TX11 b).2.1 := by decide +kernel
theorem tyX11_ok : ∀ k, k < 20 → parseFieldDescriptor (TX11 k).2.2.1 = some (tyX11 k) := by decide +kernel
abbrev cX11_init : ByteArray := prog_1_method_1_code
def yX11_init : MethodName := ⟨RX11, "<init>", "()V"⟩
abbrev cX11_days : ByteArray := prog_1_method_2_code
def yX11_days : MethodName := ⟨RX11, "days", "(I)I"⟩
abbrev cX11_as : ByteArray := prog_1_method_3_code
def yX11_as : MethodName := ⟨RX11, "as", "(I)Z"⟩
abbrev cX11_known : ByteArray := prog_1_method_4_code
def yX11_known : MethodName := ⟨RX11, "known", "()I"⟩
abbrev cX11_function : ByteArray := prog_1_method_5_code
def yX11_function : MethodName := ⟨RX11, "function", "(III)I"⟩
abbrev cX11_exact : ByteArray := prog_1_method_6_code
def yX11_exact : MethodName := ⟨RX11, "exact", "(III)J"⟩
abbrev cX11_whole : ByteArray := prog_1_method_7_code
def yX11_whole : MethodName := ⟨RX11, "whole", "(III)I"⟩
abbrev cX11_nearest : ByteArray := prog_1_method_8_code
def yX11_nearest : MethodName := ⟨RX11, "nearest", "(III)J"⟩
abbrev cX11_feed : ByteArray := prog_1_method_9_code
def yX11_feed : MethodName := ⟨RX11, "feed", "(IIIII)I"⟩
abbrev cX11_end : ByteArray := prog_1_method_10_code
def yX11_end : MethodName := ⟨RX11, "end", "(I)Z"⟩
abbrev cX11_fault : ByteArray := prog_1_method_11_code
def yX11_fault : MethodName := ⟨RX11, "fault", "()I"⟩
abbrev cX11_plan : ByteArray := prog_1_method_12_code
def yX11_plan : MethodName := ⟨RX11, "plan", "()I"⟩
abbrev cX11_worth : ByteArray := prog_1_method_13_code
def yX11_worth : MethodName := ⟨RX11, "worth", "(IIIII)I"⟩
abbrev cX11_page : ByteArray := prog_1_method_14_code
def yX11_page : MethodName := ⟨RX11, "page", "(IIII)I"⟩
abbrev cX11_paged : ByteArray := prog_1_method_15_code
def yX11_paged : MethodName := ⟨RX11, "paged", "(II)I"⟩
abbrev cX11_lined : ByteArray := prog_1_method_16_code
def yX11_lined : MethodName := ⟨RX11, "lined", "(III)I"⟩
abbrev cX11_trueOf : ByteArray := prog_1_method_17_code
def yX11_trueOf : MethodName := ⟨RX11, "trueOf", "(II)J"⟩
abbrev cX11_figure : ByteArray := prog_1_method_18_code
def yX11_figure : MethodName := ⟨RX11, "figure", "(IIII)J"⟩
abbrev cX11_slip : ByteArray := prog_1_method_19_code
def yX11_slip : MethodName := ⟨RX11, "slip", "(IIII)I"⟩
abbrev cX11_mend : ByteArray := prog_1_method_20_code
def yX11_mend : MethodName := ⟨RX11, "mend", "(I)Z"⟩
abbrev cX11_kind : ByteArray := prog_1_method_21_code
def yX11_kind : MethodName := ⟨RX11, "kind", "(III)I"⟩
abbrev cX11_kept : ByteArray := prog_1_method_22_code
def yX11_kept : MethodName := ⟨RX11, "kept", "(III)J"⟩
abbrev cX11_right : ByteArray := prog_1_method_23_code
def yX11_right : MethodName := ⟨RX11, "right", "(II)J"⟩
abbrev cX11_wrong : ByteArray := prog_1_method_24_code
def yX11_wrong : MethodName := ⟨RX11, "wrong", "(II)I"⟩
abbrev cX11_stray : ByteArray := prog_1_method_25_code
def yX11_stray : MethodName := ⟨RX11, "stray", "(II)J"⟩
abbrev cX11_bound : ByteArray := prog_1_method_26_code
def yX11_bound : MethodName := ⟨RX11, "bound", "(II)J"⟩
abbrev cX11_drift : ByteArray := prog_1_method_27_code
def yX11_drift : MethodName := ⟨RX11, "drift", "(I)Z"⟩
abbrev cX11_safe : ByteArray := prog_1_method_28_code
def yX11_safe : MethodName := ⟨RX11, "safe", "(II)I"⟩
abbrev cX11_check : ByteArray := prog_1_method_29_code
def yX11_check : MethodName := ⟨RX11, "check", "(III)I"⟩
abbrev cX11_fails : ByteArray := prog_1_method_30_code
def yX11_fails : MethodName := ⟨RX11, "fails", "(II)I"⟩
abbrev cX11_unseen : ByteArray := prog_1_method_31_code
def yX11_unseen : MethodName := ⟨RX11, "unseen", "(II)I"⟩
abbrev cX11_healed : ByteArray := prog_1_method_32_code
def yX11_healed : MethodName := ⟨RX11, "healed", "(II)I"⟩
abbrev cX11_spread : ByteArray := prog_1_method_33_code
def yX11_spread : MethodName := ⟨RX11, "spread", "(III)I"⟩
abbrev cX11_least : ByteArray := prog_1_method_34_code
def yX11_least : MethodName := ⟨RX11, "least", "(III)I"⟩
abbrev cX11_ways : ByteArray := prog_1_method_35_code
def yX11_ways : MethodName := ⟨RX11, "ways", "(III)I"⟩
abbrev cX11_first : ByteArray := prog_1_method_36_code
def yX11_first : MethodName := ⟨RX11, "first", "(IIIII)J"⟩
abbrev cX11_rate : ByteArray := prog_1_method_37_code
def yX11_rate : MethodName := ⟨RX11, "rate", "(I)I"⟩
abbrev cX11_shut : ByteArray := prog_1_method_38_code
def yX11_shut : MethodName := ⟨RX11, "shut", "(III)I"⟩
abbrev cX11_doubled : ByteArray := prog_1_method_39_code
def yX11_doubled : MethodName := ⟨RX11, "doubled", "(IIIII)Z"⟩
abbrev cX11_left : ByteArray := prog_1_method_40_code
def yX11_left : MethodName := ⟨RX11, "left", "(II)I"⟩
abbrev cX11_set : ByteArray := prog_1_method_41_code
def yX11_set : MethodName := ⟨RX11, "set", "(I)Z"⟩
abbrev cX11_press : ByteArray := prog_1_method_42_code
def yX11_press : MethodName := ⟨RX11, "press", "(IIII)Z"⟩
abbrev cX11_printed : ByteArray := prog_1_method_43_code
def yX11_printed : MethodName := ⟨RX11, "printed", "(II)J"⟩
abbrev cX11_proof : ByteArray := prog_1_method_44_code
def yX11_proof : MethodName := ⟨RX11, "proof", "(II)I"⟩
abbrev cX11_copy : ByteArray := prog_1_method_45_code
def yX11_copy : MethodName := ⟨RX11, "copy", "(I)I"⟩
abbrev cX11_erratum : ByteArray := prog_1_method_46_code
def yX11_erratum : MethodName := ⟨RX11, "erratum", "(IIJJ)I"⟩
abbrev cX11_apply : ByteArray := prog_1_method_47_code
def yX11_apply : MethodName := ⟨RX11, "apply", "(II)I"⟩
abbrev cX11_copied : ByteArray := prog_1_method_48_code
def yX11_copied : MethodName := ⟨RX11, "copied", "(II)J"⟩
abbrev cX11_errors : ByteArray := prog_1_method_49_code
def yX11_errors : MethodName := ⟨RX11, "errors", "(I)I"⟩
abbrev cX11_other : ByteArray := prog_1_method_50_code
def yX11_other : MethodName := ⟨RX11, "other", "(I)I"⟩
abbrev cX11_tell : ByteArray := prog_1_method_51_code
def yX11_tell : MethodName := ⟨RX11, "tell", "(IIJ)Z"⟩
abbrev cX11_compare : ByteArray := prog_1_method_52_code
def yX11_compare : MethodName := ⟨RX11, "compare", "(II)I"⟩
abbrev cX11_sheet : ByteArray := prog_1_method_53_code
def yX11_sheet : MethodName := ⟨RX11, "sheet", "(I)I"⟩
abbrev cX11_put : ByteArray := prog_1_method_54_code
def yX11_put : MethodName := ⟨RX11, "put", "(III)Z"⟩
abbrev cX11_lose : ByteArray := prog_1_method_55_code
def yX11_lose : MethodName := ⟨RX11, "lose", "(I)Z"⟩
abbrev cX11_take : ByteArray := prog_1_method_56_code
def yX11_take : MethodName := ⟨RX11, "take", "(IIII)I"⟩
abbrev cX11_hours : ByteArray := prog_1_method_57_code
def yX11_hours : MethodName := ⟨RX11, "hours", "(I)Z"⟩
abbrev cX11_best : ByteArray := prog_1_method_58_code
def yX11_best : MethodName := ⟨RX11, "best", "(IIIIIII)I"⟩
abbrev cX11_count : ByteArray := prog_1_method_59_code
def yX11_count : MethodName := ⟨RX11, "count", "(I)I"⟩
abbrev cX11_isDay : ByteArray := prog_1_method_60_code
def yX11_isDay : MethodName := ⟨RX11, "isDay", "(I)Z"⟩
abbrev cX11_curveAt : ByteArray := prog_1_method_61_code
def yX11_curveAt : MethodName := ⟨RX11, "curveAt", "(III)LFigureHouse$Curve;"⟩
abbrev cX11_planAt : ByteArray := prog_1_method_62_code
def yX11_planAt : MethodName := ⟨RX11, "planAt", "(I)LFigureHouse$Text;"⟩
abbrev cX11_pageAt : ByteArray := prog_1_method_63_code
def yX11_pageAt : MethodName := ⟨RX11, "pageAt", "(I)LFigureHouse$Page;"⟩
abbrev cX11_pageWith : ByteArray := prog_1_method_64_code
def yX11_pageWith : MethodName := ⟨RX11, "pageWith", "(II)LFigureHouse$Page;"⟩
abbrev cX11_plateWith : ByteArray := prog_1_method_65_code
def yX11_plateWith : MethodName := ⟨RX11, "plateWith", "(II)LFigureHouse$Page;"⟩
abbrev cX11_sheetAt : ByteArray := prog_1_method_66_code
def yX11_sheetAt : MethodName := ⟨RX11, "sheetAt", "(I)LFigureHouse$Sheet;"⟩
abbrev cX11_madePage : ByteArray := prog_1_method_67_code
def yX11_madePage : MethodName := ⟨RX11, "madePage", "(II)LFigureHouse$Page;"⟩
abbrev cX11_madeWith : ByteArray := prog_1_method_68_code
def yX11_madeWith : MethodName := ⟨RX11, "madeWith", "(III)LFigureHouse$Page;"⟩
abbrev cX11_wasMended : ByteArray := prog_1_method_69_code
def yX11_wasMended : MethodName := ⟨RX11, "wasMended", "(III)Z"⟩
abbrev cX11_firstSlipped : ByteArray := prog_1_method_70_code
def yX11_firstSlipped : MethodName := ⟨RX11, "firstSlipped", "(ILFigureHouse$Page;II)I"⟩
abbrev cX11_isExplained : ByteArray := prog_1_method_71_code
def yX11_isExplained : MethodName := ⟨RX11, "isExplained", "(III)Z"⟩
abbrev cX11_countsAs : ByteArray := prog_1_method_72_code
def yX11_countsAs : MethodName := ⟨RX11, "countsAs", "(ILFigureHouse$Page;IJ)Z"⟩
abbrev cX11_slipsMended : ByteArray := prog_1_method_73_code
def yX11_slipsMended : MethodName := ⟨RX11, "slipsMended", "()I"⟩
abbrev cX11_pagesSet : ByteArray := prog_1_method_74_code
def yX11_pagesSet : MethodName := ⟨RX11, "pagesSet", "()I"⟩
abbrev cX11_within : ByteArray := prog_1_method_75_code
def yX11_within : MethodName := ⟨RX11, "within", "(III)Z"⟩
abbrev cX11_isHand : ByteArray := prog_1_method_76_code
def yX11_isHand : MethodName := ⟨RX11, "isHand", "(I)Z"⟩
abbrev cX11_isLabel : ByteArray := prog_1_method_77_code
def yX11_isLabel : MethodName := ⟨RX11, "isLabel", "(I)Z"⟩
abbrev cX11_bytesIn : ByteArray := prog_1_method_78_code
def yX11_bytesIn : MethodName := ⟨RX11, "bytesIn", "(I)I"⟩
abbrev cX11_ten : ByteArray := prog_1_method_79_code
def yX11_ten : MethodName := ⟨RX11, "ten", "(I)J"⟩
abbrev cX11_unitOf : ByteArray := prog_1_method_80_code
def yX11_unitOf : MethodName := ⟨RX11, "unitOf", "(I)J"⟩
abbrev cX11_wholeBy : ByteArray := prog_1_method_81_code
def yX11_wholeBy : MethodName := ⟨RX11, "wholeBy", "(JJ)J"⟩
abbrev cX11_restBy : ByteArray := prog_1_method_82_code
def yX11_restBy : MethodName := ⟨RX11, "restBy", "(JJ)J"⟩
abbrev cX11_rounded : ByteArray := prog_1_method_83_code
def yX11_rounded : MethodName := ⟨RX11, "rounded", "(JJI)J"⟩
abbrev cX11_rootOf : ByteArray := prog_1_method_84_code
def yX11_rootOf : MethodName := ⟨RX11, "rootOf", "(J)J"⟩
abbrev cX11_choose : ByteArray := prog_1_method_85_code
def yX11_choose : MethodName := ⟨RX11, "choose", "(II)J"⟩
def RX12 : String := "FigureHouseModel"
def TX12 : u_T := fun k => match k with
  | 0 => ("FigureHouseModel", "now", "I", false)
  | 1 => ("FigureHouseModel", "thrown", "I", false)
  | 2 => ("FigureHouseModel", "seen", "I", false)
  | 3 => ("FigureHouseModel", "sort", "[I", true)
  | 4 => ("FigureHouseModel", "factor", "[I", true)
  | 5 => ("FigureHouseModel", "shift", "[I", true)
  | 6 => ("FigureHouseModel", "functions", "I", false)
  | 7 => ("FigureHouseModel", "tape", "[I", true)
  | 8 => ("FigureHouseModel", "saying", "[I", true)
  | 9 => ("FigureHouseModel", "codes", "[I", true)
  | 10 => ("FigureHouseModel", "textSize", "[I", true)
  | 11 => ("FigureHouseModel", "size", "I", false)
  | 12 => ("FigureHouseModel", "at", "I", false)
  | 13 => ("FigureHouseModel", "wrong", "I", false)
  | 14 => ("FigureHouseModel", "deep", "I", false)
  | 15 => ("FigureHouseModel", "said", "I", false)
  | 16 => ("FigureHouseModel", "plans", "I", false)
  | 17 => ("FigureHouseModel", "letters", "[I", true)
  | 18 => ("FigureHouseModel", "pile", "[I", true)
  | 19 => ("FigureHouseModel", "reading", "I", false)
  | 20 => ("FigureHouseModel", "fn", "[I", true)
  | 21 => ("FigureHouseModel", "firstX", "[I", true)
  | 22 => ("FigureHouseModel", "lines", "[I", true)
  | 23 => ("FigureHouseModel", "step", "[I", true)
  | 24 => ("FigureHouseModel", "order", "[I", true)
  | 25 => ("FigureHouseModel", "places", "[I", true)
  | 26 => ("FigureHouseModel", "carried", "[I", true)
  | 27 => ("FigureHouseModel", "block", "[I", true)
  | 28 => ("FigureHouseModel", "half", "[I", true)
  | 29 => ("FigureHouseModel", "hand", "[I", true)
  | 30 => ("FigureHouseModel", "sight", "[I", true)
  | 31 => ("FigureHouseModel", "checkOf", "[I", true)
  | 32 => ("FigureHouseModel", "offBy", "[I", true)
  | 33 => ("FigureHouseModel", "pages", "I", false)
  | 34 => ("FigureHouseModel", "rawOff", "[I", true)
  | 35 => ("FigureHouseModel", "added", "[J", true)
  | 36 => ("FigureHouseModel", "column", "[J", true)
  | 37 => ("FigureHouseModel", "number", "[J", true)
  | 38 => ("FigureHouseModel", "row", "[J", true)
  | 39 => ("FigureHouseModel", "slipPage", "[I", true)
  | 40 => ("FigureHouseModel", "slipLine", "[I", true)
  | 41 => ("FigureHouseModel", "slipColumn", "[I", true)
  | 42 => ("FigureHouseModel", "slipAmount", "[I", true)
  | 43 => ("FigureHouseModel", "slipTold", "[I", true)
  | 44 => ("FigureHouseModel", "slipMended", "[I", true)
  | 45 => ("FigureHouseModel", "slips", "I", false)
  | 46 => ("FigureHouseModel", "driftTold", "I", false)
  | 47 => ("FigureHouseModel", "truth", "[J", true)
  | 48 => ("FigureHouseModel", "rest", "[J", true)
  | 49 => ("FigureHouseModel", "tryLine", "[I", true)
  | 50 => ("FigureHouseModel", "tryColumn", "[I", true)
  | 51 => ("FigureHouseModel", "tryAmount", "[J", true)
  | 52 => ("FigureHouseModel", "bestLine", "[I", true)
  | 53 => ("FigureHouseModel", "bestColumn", "[I", true)
  | 54 => ("FigureHouseModel", "bestAmount", "[J", true)
  | 55 => ("FigureHouseModel", "leastMany", "I", false)
  | 56 => ("FigureHouseModel", "leastWays", "I", false)
  | 57 => ("FigureHouseModel", "blockLines", "I", false)
  | 58 => ("FigureHouseModel", "blockOrder", "I", false)
  | 59 => ("FigureHouseModel", "blockHead", "I", false)
  | 60 => ("FigureHouseModel", "doubleOne", "[I", true)
  | 61 => ("FigureHouseModel", "doubleOther", "[I", true)
  | 62 => ("FigureHouseModel", "onlyOne", "[I", true)
  | 63 => ("FigureHouseModel", "onlyOther", "[I", true)
  | 64 => ("FigureHouseModel", "bothFound", "[I", true)
  | 65 => ("FigureHouseModel", "doubles", "I", false)
  | 66 => ("FigureHouseModel", "isSet", "[Z", true)
  | 67 => ("FigureHouseModel", "plate", "[J", true)
  | 68 => ("FigureHouseModel", "pressPage", "[I", true)
  | 69 => ("FigureHouseModel", "pressLine", "[I", true)
  | 70 => ("FigureHouseModel", "pressPlace", "[I", true)
  | 71 => ("FigureHouseModel", "pressFigure", "[I", true)
  | 72 => ("FigureHouseModel", "presses", "I", false)
  | 73 => ("FigureHouseModel", "copyPage", "[I", true)
  | 74 => ("FigureHouseModel", "copyLine", "[J", true)
  | 75 => ("FigureHouseModel", "errPage", "[I", true)
  | 76 => ("FigureHouseModel", "errLine", "[I", true)
  | 77 => ("FigureHouseModel", "errOld", "[J", true)
  | 78 => ("FigureHouseModel", "errNew", "[J", true)
  | 79 => ("FigureHouseModel", "copies", "I", false)
  | 80 => ("FigureHouseModel", "errata", "I", false)
  | 81 => ("FigureHouseModel", "otherPage", "[I", true)
  | 82 => ("FigureHouseModel", "otherLine", "[J", true)
  | 83 => ("FigureHouseModel", "isTold", "[Z", true)
  | 84 => ("FigureHouseModel", "others", "I", false)
  | 85 => ("FigureHouseModel", "sheetKind", "[I", true)
  | 86 => ("FigureHouseModel", "isLost", "[Z", true)
  | 87 => ("FigureHouseModel", "sheetRow", "[J", true)
  | 88 => ("FigureHouseModel", "sheets", "I", false)
  | _ => ("FigureHouseModel", "pivotHours", "I", false)
def tyX12 : Nat → FieldType := fun k => match k with
  | 0 => .int
  | 1 => .int
  | 2 => .int
  | 3 => .array .int
  | 4 => .array .int
  | 5 => .array .int
  | 6 => .int
  | 7 => .array .int
  | 8 => .array .int
  | 9 => .array .int
  | 10 => .array .int
  | 11 => .int
  | 12 => .int
  | 13 => .int
  | 14 => .int
  | 15 => .int
  | 16 => .int
  | 17 => .array .int
  | 18 => .array .int
  | 19 => .int
  | 20 => .array .int
  | 21 => .array .int
  | 22 => .array .int
  | 23 => .array .int
  | 24 => .array .int
  | 25 => .array .int
  | 26 => .array .int
  | 27 => .array .int
  | 28 => .array .int
  | 29 => .array .int
  | 30 => .array .int
  | 31 => .array .int
  | 32 => .array .int
  | 33 => .int
  | 34 => .array .int
  | 35 => .array .long
  | 36 => .array .long
  | 37 => .array .long
  | 38 => .array .long
  | 39 => .array .int
  | 40 => .array .int
  | 41 => .array .int
  | 42 => .array .int
  | 43 => .array .int
  | 44 => .array .int
  | 45 => .int
  | 46 => .int
  | 47 => .array .long
  | 48 => .array .long
  | 49 => .array .int
  | 50 => .array .int
  | 51 => .array .long
  | 52 => .array .int
  | 53 => .array .int
  | 54 => .array .long
  | 55 => .int
  | 56 => .int
  | 57 => .int
  | 58 => .int
  | 59 => .int
  | 60 => .array .int
  | 61 => .array .int
  | 62 => .array .int
  | 63 => .array .int
  | 64 => .array .int
  | 65 => .int
  | 66 => .array .boolean
  | 67 => .array .long
  | 68 => .array .int
  | 69 => .array .int
  | 70 => .array .int
  | 71 => .array .int
  | 72 => .int
  | 73 => .array .int
  | 74 => .array .long
  | 75 => .array .int
  | 76 => .array .int
  | 77 => .array .long
  | 78 => .array .long
  | 79 => .int
  | 80 => .int
  | 81 => .array .int
  | 82 => .array .long
  | 83 => .array .boolean
  | 84 => .int
  | 85 => .array .int
  | 86 => .array .boolean
  | 87 => .array .long
  | 88 => .int
  | _ => .int
abbrev wsX120 : List Cond := u_ws RX12 TX12 90
theorem nmX12 : ∀ a, a < 90 → ∀ b, b < 90 → a ≠ b → (TX12 a).2.1 ≠ (TX12 b).2.1 := by decide +kernel
theorem tyX12_ok : ∀ k, k < 90 → parseFieldDescriptor (TX12 k).2.2.1 = some (tyX12 k) := by decide +kernel
abbrev cX12_in : ByteArray := prog_14_method_1_code
def yX12_in : MethodName := ⟨RX12, "in", "(III)Z"⟩
abbrev cX12_init : ByteArray := prog_14_method_2_code
def yX12_init : MethodName := ⟨RX12, "<init>", "()V"⟩
abbrev cX12_thrown : ByteArray := prog_14_method_3_code
def yX12_thrown : MethodName := ⟨RX12, "thrown", "()I"⟩
abbrev cX12_days : ByteArray := prog_14_method_4_code
def yX12_days : MethodName := ⟨RX12, "days", "(I)I"⟩
abbrev cX12_as : ByteArray := prog_14_method_5_code
def yX12_as : MethodName := ⟨RX12, "as", "(I)Z"⟩
abbrev cX12_known : ByteArray := prog_14_method_6_code
def yX12_known : MethodName := ⟨RX12, "known", "()I"⟩
abbrev cX12_isKnowing : ByteArray := prog_14_method_7_code
def yX12_isKnowing : MethodName := ⟨RX12, "isKnowing", "(I)Z"⟩
abbrev cX12_ten : ByteArray := prog_14_method_8_code
def yX12_ten : MethodName := ⟨RX12, "ten", "(I)J"⟩
abbrev cX12_function : ByteArray := prog_14_method_9_code
def yX12_function : MethodName := ⟨RX12, "function", "(III)I"⟩
abbrev cX12_root : ByteArray := prog_14_method_10_code
def yX12_root : MethodName := ⟨RX12, "root", "(J)J"⟩
abbrev cX12_under : ByteArray := prog_14_method_11_code
def yX12_under : MethodName := ⟨RX12, "under", "(III)J"⟩
abbrev cX12_above : ByteArray := prog_14_method_12_code
def yX12_above : MethodName := ⟨RX12, "above", "(III)J"⟩
abbrev cX12_below : ByteArray := prog_14_method_13_code
def yX12_below : MethodName := ⟨RX12, "below", "(II)J"⟩
abbrev cX12_exactOf : ByteArray := prog_14_method_14_code
def yX12_exactOf : MethodName := ⟨RX12, "exactOf", "(III)J"⟩
abbrev cX12_nearestBy : ByteArray := prog_14_method_15_code
def yX12_nearestBy : MethodName := ⟨RX12, "nearestBy", "(JJI)J"⟩
abbrev cX12_nearestOf : ByteArray := prog_14_method_16_code
def yX12_nearestOf : MethodName := ⟨RX12, "nearestOf", "(IIII)J"⟩
abbrev cX12_isFunction : ByteArray := prog_14_method_17_code
def yX12_isFunction : MethodName := ⟨RX12, "isFunction", "(III)Z"⟩
abbrev cX12_exact : ByteArray := prog_14_method_18_code
def yX12_exact : MethodName := ⟨RX12, "exact", "(III)J"⟩
abbrev cX12_whole : ByteArray := prog_14_method_19_code
def yX12_whole : MethodName := ⟨RX12, "whole", "(III)I"⟩
abbrev cX12_nearest : ByteArray := prog_14_method_20_code
def yX12_nearest : MethodName := ⟨RX12, "nearest", "(III)J"⟩
abbrev cX12_byteOf : ByteArray := prog_14_method_21_code
def yX12_byteOf : MethodName := ⟨RX12, "byteOf", "(IIIIII)I"⟩
abbrev cX12_feed : ByteArray := prog_14_method_22_code
def yX12_feed : MethodName := ⟨RX12, "feed", "(IIIII)I"⟩
abbrev cX12_end : ByteArray := prog_14_method_23_code
def yX12_end : MethodName := ⟨RX12, "end", "(I)Z"⟩
abbrev cX12_look : ByteArray := prog_14_method_24_code
def yX12_look : MethodName := ⟨RX12, "look", "()I"⟩
abbrev cX12_bad : ByteArray := prog_14_method_25_code
def yX12_bad : MethodName := ⟨RX12, "bad", "()V"⟩
abbrev cX12_say : ByteArray := prog_14_method_26_code
def yX12_say : MethodName := ⟨RX12, "say", "(I)V"⟩
abbrev cX12_isDigit : ByteArray := prog_14_method_27_code
def yX12_isDigit : MethodName := ⟨RX12, "isDigit", "(I)Z"⟩
abbrev cX12_isLabel : ByteArray := prog_14_method_28_code
def yX12_isLabel : MethodName := ⟨RX12, "isLabel", "(I)Z"⟩
abbrev cX12_opens : ByteArray := prog_14_method_29_code
def yX12_opens : MethodName := ⟨RX12, "opens", "()Z"⟩
abbrev cX12_closes : ByteArray := prog_14_method_30_code
def yX12_closes : MethodName := ⟨RX12, "closes", "(I)V"⟩
abbrev cX12_number : ByteArray := prog_14_method_31_code
def yX12_number : MethodName := ⟨RX12, "number", "()V"⟩
abbrev cX12_atom : ByteArray := prog_14_method_32_code
def yX12_atom : MethodName := ⟨RX12, "atom", "()V"⟩
abbrev cX12_term : ByteArray := prog_14_method_33_code
def yX12_term : MethodName := ⟨RX12, "term", "()V"⟩
abbrev cX12_sum : ByteArray := prog_14_method_34_code
def yX12_sum : MethodName := ⟨RX12, "sum", "()V"⟩
abbrev cX12_isSign : ByteArray := prog_14_method_35_code
def yX12_isSign : MethodName := ⟨RX12, "isSign", "(I)Z"⟩
abbrev cX12_compare : ByteArray := prog_14_method_36_code
def yX12_compare : MethodName := ⟨RX12, "compare", "()V"⟩
abbrev cX12_unit : ByteArray := prog_14_method_37_code
def yX12_unit : MethodName := ⟨RX12, "unit", "()V"⟩
abbrev cX12_part : ByteArray := prog_14_method_38_code
def yX12_part : MethodName := ⟨RX12, "part", "(Z)V"⟩
abbrev cX12_condition : ByteArray := prog_14_method_39_code
def yX12_condition : MethodName := ⟨RX12, "condition", "(Z)V"⟩
abbrev cX12_clause : ByteArray := prog_14_method_40_code
def yX12_clause : MethodName := ⟨RX12, "clause", "()V"⟩
abbrev cX12_fault : ByteArray := prog_14_method_41_code
def yX12_fault : MethodName := ⟨RX12, "fault", "()I"⟩
abbrev cX12_plan : ByteArray := prog_14_method_42_code
def yX12_plan : MethodName := ⟨RX12, "plan", "()I"⟩
abbrev cX12_bounded : ByteArray := prog_14_method_43_code
def yX12_bounded : MethodName := ⟨RX12, "bounded", "(J)I"⟩
abbrev cX12_both : ByteArray := prog_14_method_44_code
def yX12_both : MethodName := ⟨RX12, "both", "(III)I"⟩
abbrev cX12_work : ByteArray := prog_14_method_45_code
def yX12_work : MethodName := ⟨RX12, "work", "()I"⟩
abbrev cX12_worthOf : ByteArray := prog_14_method_46_code
def yX12_worthOf : MethodName := ⟨RX12, "worthOf", "(IIIII)I"⟩
abbrev cX12_worth : ByteArray := prog_14_method_47_code
def yX12_worth : MethodName := ⟨RX12, "worth", "(IIIII)I"⟩
abbrev cX12_label : ByteArray := prog_14_method_48_code
def yX12_label : MethodName := ⟨RX12, "label", "(II)I"⟩
abbrev cX12_page : ByteArray := prog_14_method_49_code
def yX12_page : MethodName := ⟨RX12, "page", "(IIII)I"⟩
abbrev cX12_isPage : ByteArray := prog_14_method_50_code
def yX12_isPage : MethodName := ⟨RX12, "isPage", "(I)Z"⟩
abbrev cX12_isLine : ByteArray := prog_14_method_51_code
def yX12_isLine : MethodName := ⟨RX12, "isLine", "(II)Z"⟩
abbrev cX12_placeOf : ByteArray := prog_14_method_52_code
def yX12_placeOf : MethodName := ⟨RX12, "placeOf", "(II)I"⟩
abbrev cX12_isMade : ByteArray := prog_14_method_53_code
def yX12_isMade : MethodName := ⟨RX12, "isMade", "(II)Z"⟩
abbrev cX12_xOf : ByteArray := prog_14_method_54_code
def yX12_xOf : MethodName := ⟨RX12, "xOf", "(II)I"⟩
abbrev cX12_blocks : ByteArray := prog_14_method_55_code
def yX12_blocks : MethodName := ⟨RX12, "blocks", "(I)I"⟩
abbrev cX12_pivots : ByteArray := prog_14_method_56_code
def yX12_pivots : MethodName := ⟨RX12, "pivots", "(I)I"⟩
abbrev cX12_paged : ByteArray := prog_14_method_57_code
def yX12_paged : MethodName := ⟨RX12, "paged", "(II)I"⟩
abbrev cX12_lined : ByteArray := prog_14_method_58_code
def yX12_lined : MethodName := ⟨RX12, "lined", "(III)I"⟩
abbrev cX12_make : ByteArray := prog_14_method_59_code
def yX12_make : MethodName := ⟨RX12, "make", "(IIIIIII)V"⟩
abbrev cX12_makePage : ByteArray := prog_14_method_60_code
def yX12_makePage : MethodName := ⟨RX12, "makePage", "(I)V"⟩
abbrev cX12_clear : ByteArray := prog_14_method_61_code
def yX12_clear : MethodName := ⟨RX12, "clear", "()V"⟩
abbrev cX12_slot : ByteArray := prog_14_method_62_code
def yX12_slot : MethodName := ⟨RX12, "slot", "(I)I"⟩
abbrev cX12_counts : ByteArray := prog_14_method_63_code
def yX12_counts : MethodName := ⟨RX12, "counts", "(II)Z"⟩
abbrev cX12_makeAs : ByteArray := prog_14_method_64_code
def yX12_makeAs : MethodName := ⟨RX12, "makeAs", "(II)V"⟩
abbrev cX12_makeTrue : ByteArray := prog_14_method_65_code
def yX12_makeTrue : MethodName := ⟨RX12, "makeTrue", "(I)V"⟩
abbrev cX12_isColumn : ByteArray := prog_14_method_66_code
def yX12_isColumn : MethodName := ⟨RX12, "isColumn", "(II)Z"⟩
abbrev cX12_slip : ByteArray := prog_14_method_67_code
def yX12_slip : MethodName := ⟨RX12, "slip", "(IIII)I"⟩
abbrev cX12_mend : ByteArray := prog_14_method_68_code
def yX12_mend : MethodName := ⟨RX12, "mend", "(I)Z"⟩
abbrev cX12_trueNumber : ByteArray := prog_14_method_69_code
def yX12_trueNumber : MethodName := ⟨RX12, "trueNumber", "(II)J"⟩
abbrev cX12_trueOf : ByteArray := prog_14_method_70_code
def yX12_trueOf : MethodName := ⟨RX12, "trueOf", "(II)J"⟩
abbrev cX12_figure : ByteArray := prog_14_method_71_code
def yX12_figure : MethodName := ⟨RX12, "figure", "(IIII)J"⟩
abbrev cX12_keptOf : ByteArray := prog_14_method_72_code
def yX12_keptOf : MethodName := ⟨RX12, "keptOf", "(IJ)J"⟩
abbrev cX12_kept : ByteArray := prog_14_method_73_code
def yX12_kept : MethodName := ⟨RX12, "kept", "(III)J"⟩
abbrev cX12_rightOf : ByteArray := prog_14_method_74_code
def yX12_rightOf : MethodName := ⟨RX12, "rightOf", "(II)J"⟩
abbrev cX12_right : ByteArray := prog_14_method_75_code
def yX12_right : MethodName := ⟨RX12, "right", "(II)J"⟩
abbrev cX12_wrong : ByteArray := prog_14_method_76_code
def yX12_wrong : MethodName := ⟨RX12, "wrong", "(II)I"⟩
abbrev cX12_nearestAt : ByteArray := prog_14_method_77_code
def yX12_nearestAt : MethodName := ⟨RX12, "nearestAt", "(II)J"⟩
abbrev cX12_stray : ByteArray := prog_14_method_78_code
def yX12_stray : MethodName := ⟨RX12, "stray", "(II)J"⟩
abbrev cX12_choose : ByteArray := prog_14_method_79_code
def yX12_choose : MethodName := ⟨RX12, "choose", "(II)J"⟩
abbrev cX12_boundOf : ByteArray := prog_14_method_80_code
def yX12_boundOf : MethodName := ⟨RX12, "boundOf", "(II)J"⟩
abbrev cX12_bound : ByteArray := prog_14_method_81_code
def yX12_bound : MethodName := ⟨RX12, "bound", "(II)J"⟩
abbrev cX12_drift : ByteArray := prog_14_method_82_code
def yX12_drift : MethodName := ⟨RX12, "drift", "(I)Z"⟩
abbrev cX12_safe : ByteArray := prog_14_method_83_code
def yX12_safe : MethodName := ⟨RX12, "safe", "(II)I"⟩
abbrev cX12_holds : ByteArray := prog_14_method_84_code
def yX12_holds : MethodName := ⟨RX12, "holds", "(II)Z"⟩
abbrev cX12_difference : ByteArray := prog_14_method_85_code
def yX12_difference : MethodName := ⟨RX12, "difference", "(II)J"⟩
abbrev cX12_failing : ByteArray := prog_14_method_86_code
def yX12_failing : MethodName := ⟨RX12, "failing", "(I)I"⟩
abbrev cX12_check : ByteArray := prog_14_method_87_code
def yX12_check : MethodName := ⟨RX12, "check", "(III)I"⟩
abbrev cX12_fails : ByteArray := prog_14_method_88_code
def yX12_fails : MethodName := ⟨RX12, "fails", "(II)I"⟩
abbrev cX12_kind : ByteArray := prog_14_method_89_code
def yX12_kind : MethodName := ⟨RX12, "kind", "(III)I"⟩
abbrev cX12_unseen : ByteArray := prog_14_method_90_code
def yX12_unseen : MethodName := ⟨RX12, "unseen", "(II)I"⟩
abbrev cX12_keepTruth : ByteArray := prog_14_method_91_code
def yX12_keepTruth : MethodName := ⟨RX12, "keepTruth", "(I)V"⟩
abbrev cX12_healed : ByteArray := prog_14_method_92_code
def yX12_healed : MethodName := ⟨RX12, "healed", "(II)I"⟩
abbrev cX12_spread : ByteArray := prog_14_method_93_code
def yX12_spread : MethodName := ⟨RX12, "spread", "(III)I"⟩
abbrev cX12_seek : ByteArray := prog_14_method_94_code
def yX12_seek : MethodName := ⟨RX12, "seek", "(II)V"⟩
abbrev cX12_mark : ByteArray := prog_14_method_95_code
def yX12_mark : MethodName := ⟨RX12, "mark", "(IIJ)V"⟩
abbrev cX12_findLeast : ByteArray := prog_14_method_96_code
def yX12_findLeast : MethodName := ⟨RX12, "findLeast", "(III)Z"⟩
abbrev cX12_least : ByteArray := prog_14_method_97_code
def yX12_least : MethodName := ⟨RX12, "least", "(III)I"⟩
abbrev cX12_ways : ByteArray := prog_14_method_98_code
def yX12_ways : MethodName := ⟨RX12, "ways", "(III)I"⟩
abbrev cX12_first : ByteArray := prog_14_method_99_code
def yX12_first : MethodName := ⟨RX12, "first", "(IIIII)J"⟩
abbrev cX12_isHand : ByteArray := prog_14_method_100_code
def yX12_isHand : MethodName := ⟨RX12, "isHand", "(I)Z"⟩
abbrev cX12_rate : ByteArray := prog_14_method_101_code
def yX12_rate : MethodName := ⟨RX12, "rate", "(I)I"⟩
abbrev cX12_shut : ByteArray := prog_14_method_102_code
def yX12_shut : MethodName := ⟨RX12, "shut", "(III)I"⟩
abbrev cX12_doubled : ByteArray := prog_14_method_103_code
def yX12_doubled : MethodName := ⟨RX12, "doubled", "(IIIII)Z"⟩
abbrev cX12_left : ByteArray := prog_14_method_104_code
def yX12_left : MethodName := ⟨RX12, "left", "(II)I"⟩
abbrev cX12_isPlate : ByteArray := prog_14_method_105_code
def yX12_isPlate : MethodName := ⟨RX12, "isPlate", "(I)Z"⟩
abbrev cX12_set : ByteArray := prog_14_method_106_code
def yX12_set : MethodName := ⟨RX12, "set", "(I)Z"⟩
abbrev cX12_press : ByteArray := prog_14_method_107_code
def yX12_press : MethodName := ⟨RX12, "press", "(IIII)Z"⟩
abbrev cX12_printedAt : ByteArray := prog_14_method_108_code
def yX12_printedAt : MethodName := ⟨RX12, "printedAt", "(II)J"⟩
abbrev cX12_printed : ByteArray := prog_14_method_109_code
def yX12_printed : MethodName := ⟨RX12, "printed", "(II)J"⟩
abbrev cX12_proof : ByteArray := prog_14_method_110_code
def yX12_proof : MethodName := ⟨RX12, "proof", "(II)I"⟩
abbrev cX12_copy : ByteArray := prog_14_method_111_code
def yX12_copy : MethodName := ⟨RX12, "copy", "(I)I"⟩
abbrev cX12_erratum : ByteArray := prog_14_method_112_code
def yX12_erratum : MethodName := ⟨RX12, "erratum", "(IIJJ)I"⟩
abbrev cX12_isCopy : ByteArray := prog_14_method_113_code
def yX12_isCopy : MethodName := ⟨RX12, "isCopy", "(I)Z"⟩
abbrev cX12_apply : ByteArray := prog_14_method_114_code
def yX12_apply : MethodName := ⟨RX12, "apply", "(II)I"⟩
abbrev cX12_copied : ByteArray := prog_14_method_115_code
def yX12_copied : MethodName := ⟨RX12, "copied", "(II)J"⟩
abbrev cX12_errors : ByteArray := prog_14_method_116_code
def yX12_errors : MethodName := ⟨RX12, "errors", "(I)I"⟩
abbrev cX12_other : ByteArray := prog_14_method_117_code
def yX12_other : MethodName := ⟨RX12, "other", "(I)I"⟩
abbrev cX12_tell : ByteArray := prog_14_method_118_code
def yX12_tell : MethodName := ⟨RX12, "tell", "(IIJ)Z"⟩
abbrev cX12_compare_ : ByteArray := prog_14_method_119_code
def yX12_compare_ : MethodName := ⟨RX12, "compare", "(II)I"⟩
abbrev cX12_sheet : ByteArray := prog_14_method_120_code
def yX12_sheet : MethodName := ⟨RX12, "sheet", "(I)I"⟩
abbrev cX12_isSheet : ByteArray := prog_14_method_121_code
def yX12_isSheet : MethodName := ⟨RX12, "isSheet", "(I)Z"⟩
abbrev cX12_put : ByteArray := prog_14_method_122_code
def yX12_put : MethodName := ⟨RX12, "put", "(III)Z"⟩
abbrev cX12_lose : ByteArray := prog_14_method_123_code
def yX12_lose : MethodName := ⟨RX12, "lose", "(I)Z"⟩
abbrev cX12_take : ByteArray := prog_14_method_124_code
def yX12_take : MethodName := ⟨RX12, "take", "(IIII)I"⟩
abbrev cX12_hours : ByteArray := prog_14_method_125_code
def yX12_hours : MethodName := ⟨RX12, "hours", "(I)Z"⟩
abbrev cX12_best : ByteArray := prog_14_method_126_code
def yX12_best : MethodName := ⟨RX12, "best", "(IIIIIII)I"⟩
abbrev cX12_isRight : ByteArray := prog_14_method_127_code
def yX12_isRight : MethodName := ⟨RX12, "isRight", "(IIIIIIIII)Z"⟩
abbrev cX12_count : ByteArray := prog_14_method_128_code
def yX12_count : MethodName := ⟨RX12, "count", "(I)I"⟩
def RJx145de : String := "java/io/Serializable"
def TJx145de : u_T := fun k => match k with
  | _ => ("", "", "", false)
def tyJx145de : Nat → FieldType := fun k => match k with
  | _ => .int
abbrev wsJx145de0 : List Cond := u_ws RJx145de TJx145de 0
theorem nmJx145de : ∀ a, a < 0 → ∀ b, b < 0 → a ≠ b → (TJx145de a).2.1 ≠ (TJx145de b).2.1 := by decide +kernel
theorem tyJx145de_ok : ∀ k, k < 0 → parseFieldDescriptor (TJx145de k).2.2.1 = some (tyJx145de k) := by decide +kernel
def RJx8e188 : String := "java/lang/Cloneable"
def TJx8e188 : u_T := fun k => match k with
  | _ => ("", "", "", false)
def tyJx8e188 : Nat → FieldType := fun k => match k with
  | _ => .int
abbrev wsJx8e1880 : List Cond := u_ws RJx8e188 TJx8e188 0
theorem nmJx8e188 : ∀ a, a < 0 → ∀ b, b < 0 → a ≠ b → (TJx8e188 a).2.1 ≠ (TJx8e188 b).2.1 := by decide +kernel
theorem tyJx8e188_ok : ∀ k, k < 0 → parseFieldDescriptor (TJx8e188 k).2.2.1 = some (tyJx8e188 k) := by decide +kernel
def RJxab1ab : String := "java/lang/Iterable"
def TJxab1ab : u_T := fun k => match k with
  | _ => ("", "", "", false)
def tyJxab1ab : Nat → FieldType := fun k => match k with
  | _ => .int
abbrev wsJxab1ab0 : List Cond := u_ws RJxab1ab TJxab1ab 0
theorem nmJxab1ab : ∀ a, a < 0 → ∀ b, b < 0 → a ≠ b → (TJxab1ab a).2.1 ≠ (TJxab1ab b).2.1 := by decide +kernel
theorem tyJxab1ab_ok : ∀ k, k < 0 → parseFieldDescriptor (TJxab1ab k).2.2.1 = some (tyJxab1ab k) := by decide +kernel
def RJ9 : String := "java/lang/Math"
def TJ9 : u_T := fun k => match k with
  | _ => ("", "", "", false)
def tyJ9 : Nat → FieldType := fun k => match k with
  | _ => .int
abbrev wsJ90 : List Cond := u_ws RJ9 TJ9 0
theorem nmJ9 : ∀ a, a < 0 → ∀ b, b < 0 → a ≠ b → (TJ9 a).2.1 ≠ (TJ9 b).2.1 := by decide +kernel
theorem tyJ9_ok : ∀ k, k < 0 → parseFieldDescriptor (TJ9 k).2.2.1 = some (tyJ9 k) := by decide +kernel
abbrev cJ9_floorDiv_f86c9 : ByteArray := prog_19_method_49_code
def yJ9_floorDiv_f86c9 : MethodName := ⟨RJ9, "floorDiv", "(JJ)J"⟩
abbrev cJ9_floorMod_f86c9 : ByteArray := prog_19_method_52_code
def yJ9_floorMod_f86c9 : MethodName := ⟨RJ9, "floorMod", "(JJ)J"⟩
abbrev cJ9_abs_067f4 : ByteArray := prog_19_method_61_code
def yJ9_abs_067f4 : MethodName := ⟨RJ9, "abs", "(J)J"⟩
abbrev cJ9_max_7cf53 : ByteArray := prog_19_method_65_code
def yJ9_max_7cf53 : MethodName := ⟨RJ9, "max", "(II)I"⟩
abbrev cJ9_max_f86c9 : ByteArray := prog_19_method_66_code
def yJ9_max_f86c9 : MethodName := ⟨RJ9, "max", "(JJ)J"⟩
abbrev cJ9_min_7cf53 : ByteArray := prog_19_method_69_code
def yJ9_min_7cf53 : MethodName := ⟨RJ9, "min", "(II)I"⟩
abbrev cJ9_min_f86c9 : ByteArray := prog_19_method_70_code
def yJ9_min_f86c9 : MethodName := ⟨RJ9, "min", "(JJ)J"⟩
def RJ10 : String := "java/lang/System"
def TJ10 : u_T := fun k => match k with
  | _ => ("", "", "", false)
def tyJ10 : Nat → FieldType := fun k => match k with
  | _ => .int
abbrev wsJ100 : List Cond := u_ws RJ10 TJ10 0
theorem nmJ10 : ∀ a, a < 0 → ∀ b, b < 0 → a ≠ b → (TJ10 a).2.1 ≠ (TJ10 b).2.1 := by decide +kernel
theorem tyJ10_ok : ∀ k, k < 0 → parseFieldDescriptor (TJ10 k).2.2.1 = some (tyJ10 k) := by decide +kernel
def RJxa1e45 : String := "java/util/AbstractCollection"
def TJxa1e45 : u_T := fun k => match k with
  | _ => ("", "", "", false)
def tyJxa1e45 : Nat → FieldType := fun k => match k with
  | _ => .int
abbrev wsJxa1e450 : List Cond := u_ws RJxa1e45 TJxa1e45 0
theorem nmJxa1e45 : ∀ a, a < 0 → ∀ b, b < 0 → a ≠ b → (TJxa1e45 a).2.1 ≠ (TJxa1e45 b).2.1 := by decide +kernel
theorem tyJxa1e45_ok : ∀ k, k < 0 → parseFieldDescriptor (TJxa1e45 k).2.2.1 = some (tyJxa1e45 k) := by decide +kernel
abbrev cJxa1e45_init_da8c8 : ByteArray := prog_23_method_1_code
def yJxa1e45_init_da8c8 : MethodName := ⟨RJxa1e45, "<init>", "()V"⟩
def RJxc12de : String := "java/util/AbstractList"
def TJxc12de : u_T := fun k => match k with
  | _ => ("", "", "", false)
def tyJxc12de : Nat → FieldType := fun k => match k with
  | _ => .int
abbrev wsJxc12de0 : List Cond := u_ws RJxc12de TJxc12de 0
theorem nmJxc12de : ∀ a, a < 0 → ∀ b, b < 0 → a ≠ b → (TJxc12de a).2.1 ≠ (TJxc12de b).2.1 := by decide +kernel
theorem tyJxc12de_ok : ∀ k, k < 0 → parseFieldDescriptor (TJxc12de k).2.2.1 = some (tyJxc12de k) := by decide +kernel
abbrev cJxc12de_init_da8c8 : ByteArray := prog_24_method_1_code
def yJxc12de_init_da8c8 : MethodName := ⟨RJxc12de, "<init>", "()V"⟩
def RJx4a65c : String := "java/util/ArrayList"
def TJx4a65c : u_T := fun k => match k with
  | 0 => ("java/util/AbstractList", "modCount", "I", false)
  | 1 => ("java/util/ArrayList", "elementData", "[Ljava/lang/Object;", false)
  | _ => ("java/util/ArrayList", "size", "I", false)
def tyJx4a65c : Nat → FieldType := fun k => match k with
  | 0 => .int
  | 1 => .array (.object "java/lang/Object")
  | _ => .int
abbrev wsJx4a65c0 : List Cond := u_ws RJx4a65c TJx4a65c 3
theorem nmJx4a65c : ∀ a, a < 3 → ∀ b, b < 3 → a ≠ b → (TJx4a65c a).2.1 ≠ (TJx4a65c b).2.1 := by decide +kernel
theorem tyJx4a65c_ok : ∀ k, k < 3 → parseFieldDescriptor (TJx4a65c k).2.2.1 = some (tyJx4a65c k) := by decide +kernel
abbrev cJx4a65c_init_da8c8 : ByteArray := prog_25_method_2_code
def yJx4a65c_init_da8c8 : MethodName := ⟨RJx4a65c, "<init>", "()V"⟩
abbrev cJx4a65c_grow_92f84 : ByteArray := prog_25_method_6_code
def yJx4a65c_grow_92f84 : MethodName := ⟨RJx4a65c, "grow", "(I)[Ljava/lang/Object;"⟩
abbrev cJx4a65c_grow_d5877 : ByteArray := prog_25_method_7_code
def yJx4a65c_grow_d5877 : MethodName := ⟨RJx4a65c, "grow", "()[Ljava/lang/Object;"⟩
abbrev cJx4a65c_size_8abf5 : ByteArray := prog_25_method_8_code
def yJx4a65c_size_8abf5 : MethodName := ⟨RJx4a65c, "size", "()I"⟩
abbrev cJx4a65c_elementData_915e3 : ByteArray := prog_25_method_18_code
def yJx4a65c_elementData_915e3 : MethodName := ⟨RJx4a65c, "elementData", "(I)Ljava/lang/Object;"⟩
abbrev cJx4a65c_get_915e3 : ByteArray := prog_25_method_20_code
def yJx4a65c_get_915e3 : MethodName := ⟨RJx4a65c, "get", "(I)Ljava/lang/Object;"⟩
abbrev cJx4a65c_add_72be8 : ByteArray := prog_25_method_24_code
def yJx4a65c_add_72be8 : MethodName := ⟨RJx4a65c, "add", "(Ljava/lang/Object;[Ljava/lang/Object;I)V"⟩
abbrev cJx4a65c_add_9ea2d : ByteArray := prog_25_method_25_code
def yJx4a65c_add_9ea2d : MethodName := ⟨RJx4a65c, "add", "(Ljava/lang/Object;)Z"⟩
def RJ7 : String := "java/util/Arrays"
def TJ7 : u_T := fun k => match k with
  | _ => ("", "", "", false)
def tyJ7 : Nat → FieldType := fun k => match k with
  | _ => .int
abbrev wsJ70 : List Cond := u_ws RJ7 TJ7 0
theorem nmJ7 : ∀ a, a < 0 → ∀ b, b < 0 → a ≠ b → (TJ7 a).2.1 ≠ (TJ7 b).2.1 := by decide +kernel
theorem tyJ7_ok : ∀ k, k < 0 → parseFieldDescriptor (TJ7 k).2.2.1 = some (tyJ7 k) := by decide +kernel
abbrev cJ7_fill_d0a16 : ByteArray := prog_26_method_101_code
def yJ7_fill_d0a16 : MethodName := ⟨RJ7, "fill", "([JJ)V"⟩
abbrev cJ7_fill_53178 : ByteArray := prog_26_method_103_code
def yJ7_fill_53178 : MethodName := ⟨RJ7, "fill", "([II)V"⟩
abbrev cJ7_copyOf_1904c : ByteArray := prog_26_method_119_code
def yJ7_copyOf_1904c : MethodName := ⟨RJ7, "copyOf", "([Ljava/lang/Object;I)[Ljava/lang/Object;"⟩
abbrev cJ7_copyOf_6403c : ByteArray := prog_26_method_120_code
def yJ7_copyOf_6403c : MethodName := ⟨RJ7, "copyOf", "([Ljava/lang/Object;ILjava/lang/Class;)[Ljava/lang/Object;"⟩
def RJx5ef63 : String := "java/util/Collection"
def TJx5ef63 : u_T := fun k => match k with
  | _ => ("", "", "", false)
def tyJx5ef63 : Nat → FieldType := fun k => match k with
  | _ => .int
abbrev wsJx5ef630 : List Cond := u_ws RJx5ef63 TJx5ef63 0
theorem nmJx5ef63 : ∀ a, a < 0 → ∀ b, b < 0 → a ≠ b → (TJx5ef63 a).2.1 ≠ (TJx5ef63 b).2.1 := by decide +kernel
theorem tyJx5ef63_ok : ∀ k, k < 0 → parseFieldDescriptor (TJx5ef63 k).2.2.1 = some (tyJx5ef63 k) := by decide +kernel
def RJxbd725 : String := "java/util/List"
def TJxbd725 : u_T := fun k => match k with
  | _ => ("", "", "", false)
def tyJxbd725 : Nat → FieldType := fun k => match k with
  | _ => .int
abbrev wsJxbd7250 : List Cond := u_ws RJxbd725 TJxbd725 0
theorem nmJxbd725 : ∀ a, a < 0 → ∀ b, b < 0 → a ≠ b → (TJxbd725 a).2.1 ≠ (TJxbd725 b).2.1 := by decide +kernel
theorem tyJxbd725_ok : ∀ k, k < 0 → parseFieldDescriptor (TJxbd725 k).2.2.1 = some (tyJxbd725 k) := by decide +kernel
def RJ15 : String := "java/util/Objects"
def TJ15 : u_T := fun k => match k with
  | _ => ("", "", "", false)
def tyJ15 : Nat → FieldType := fun k => match k with
  | _ => .int
abbrev wsJ150 : List Cond := u_ws RJ15 TJ15 0
theorem nmJ15 : ∀ a, a < 0 → ∀ b, b < 0 → a ≠ b → (TJ15 a).2.1 ≠ (TJ15 b).2.1 := by decide +kernel
theorem tyJ15_ok : ∀ k, k < 0 → parseFieldDescriptor (TJ15 k).2.2.1 = some (tyJ15 k) := by decide +kernel
abbrev cJ15_checkIndex_7cf53 : ByteArray := prog_30_method_17_code
def yJ15_checkIndex_7cf53 : MethodName := ⟨RJ15, "checkIndex", "(II)I"⟩
def RJxf0a74 : String := "java/util/RandomAccess"
def TJxf0a74 : u_T := fun k => match k with
  | _ => ("", "", "", false)
def tyJxf0a74 : Nat → FieldType := fun k => match k with
  | _ => .int
abbrev wsJxf0a740 : List Cond := u_ws RJxf0a74 TJxf0a74 0
theorem nmJxf0a74 : ∀ a, a < 0 → ∀ b, b < 0 → a ≠ b → (TJxf0a74 a).2.1 ≠ (TJxf0a74 b).2.1 := by decide +kernel
theorem tyJxf0a74_ok : ∀ k, k < 0 → parseFieldDescriptor (TJxf0a74 k).2.2.1 = some (tyJxf0a74 k) := by decide +kernel
def RJxa66e6 : String := "java/util/SequencedCollection"
def TJxa66e6 : u_T := fun k => match k with
  | _ => ("", "", "", false)
def tyJxa66e6 : Nat → FieldType := fun k => match k with
  | _ => .int
abbrev wsJxa66e60 : List Cond := u_ws RJxa66e6 TJxa66e6 0
theorem nmJxa66e6 : ∀ a, a < 0 → ∀ b, b < 0 → a ≠ b → (TJxa66e6 a).2.1 ≠ (TJxa66e6 b).2.1 := by decide +kernel
theorem tyJxa66e6_ok : ∀ k, k < 0 → parseFieldDescriptor (TJxa66e6 k).2.2.1 = some (tyJxa66e6 k) := by decide +kernel
def RJ8 : String := "jdk/internal/util/ArraysSupport"
def TJ8 : u_T := fun k => match k with
  | _ => ("", "", "", false)
def tyJ8 : Nat → FieldType := fun k => match k with
  | _ => .int
abbrev wsJ80 : List Cond := u_ws RJ8 TJ8 0
theorem nmJ8 : ∀ a, a < 0 → ∀ b, b < 0 → a ≠ b → (TJ8 a).2.1 ≠ (TJ8 b).2.1 := by decide +kernel
theorem tyJ8_ok : ∀ k, k < 0 → parseFieldDescriptor (TJ8 k).2.2.1 = some (tyJ8 k) := by decide +kernel
abbrev cJ8_newLength_cabcc : ByteArray := prog_33_method_27_code
def yJ8_newLength_cabcc : MethodName := ⟨RJ8, "newLength", "(III)I"⟩
abbrev cJ8_hugeLength_7cf53 : ByteArray := prog_33_method_28_code
def yJ8_hugeLength_7cf53 : MethodName := ⟨RJ8, "hugeLength", "(II)I"⟩
def RJ3 : String := "jdk/internal/util/Preconditions"
def TJ3 : u_T := fun k => match k with
  | _ => ("", "", "", false)
def tyJ3 : Nat → FieldType := fun k => match k with
  | _ => .int
abbrev wsJ30 : List Cond := u_ws RJ3 TJ3 0
theorem nmJ3 : ∀ a, a < 0 → ∀ b, b < 0 → a ≠ b → (TJ3 a).2.1 ≠ (TJ3 b).2.1 := by decide +kernel
theorem tyJ3_ok : ∀ k, k < 0 → parseFieldDescriptor (TJ3 k).2.2.1 = some (tyJ3 k) := by decide +kernel
abbrev cJ3_checkIndex_8e157 : ByteArray := prog_34_method_11_code
def yJ3_checkIndex_8e157 : MethodName := ⟨RJ3, "checkIndex", "(IILjava/util/function/BiFunction;)I"⟩
def RL : String := "FigureHouseLaw"
abbrev cL_worth : ByteArray := method_3_code
def yL_worth : MethodName := ⟨RL, "worth", "(LFigureHouse;IIIII[J)I"⟩
abbrev cL_trueOf : ByteArray := method_4_code
def yL_trueOf : MethodName := ⟨RL, "trueOf", "(LFigureHouse;II[J)I"⟩
abbrev cL_figure : ByteArray := method_5_code
def yL_figure : MethodName := ⟨RL, "figure", "(LFigureHouse;IIII[J)I"⟩
abbrev cL_kept : ByteArray := method_6_code
def yL_kept : MethodName := ⟨RL, "kept", "(LFigureHouse;III[J)I"⟩
abbrev cL_right : ByteArray := method_7_code
def yL_right : MethodName := ⟨RL, "right", "(LFigureHouse;II[J)I"⟩
abbrev cL_stray : ByteArray := method_8_code
def yL_stray : MethodName := ⟨RL, "stray", "(LFigureHouse;II[J)I"⟩
abbrev cL_printed : ByteArray := method_9_code
def yL_printed : MethodName := ⟨RL, "printed", "(LFigureHouse;II[J)I"⟩
abbrev cL_copied : ByteArray := method_10_code
def yL_copied : MethodName := ⟨RL, "copied", "(LFigureHouse;II[J)I"⟩
abbrev cL_law : ByteArray := code
def yL_law : MethodName := ⟨RL, "law", "([I)Z"⟩
abbrev vwCl : List vw_C := [(RJx4a65c, TJx4a65c, 3), (RX0, TX0, 3), (RX1, TX1, 4), (RX2, TX2, 3), (RX3, TX3, 19), (RX4, TX4, 11), (RX5, TX5, 7), (RX6, TX6, 11), (RX7, TX7, 3), (RX8, TX8, 6), (RX9, TX9, 2), (RX10, TX10, 2), (RX11, TX11, 20), (RX12, TX12, 90)]
