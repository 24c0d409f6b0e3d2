set_option maxRecDepth 100000
-- ===== PART A: goes FIRST, ahead of the names: the tables' words, and 'selects' of the private methods out of them =====
/-- a private method of a class that the tables say can be made, by its rows of tables_1 -/
def lw_okq (q : MethodName × Nat) : Prop := (q.1.cls ≠ "java/lang/invoke/MethodHandle" ∧ q.1.cls ≠ "java/lang/invoke/VarHandle") ∧ Cond.instantiable q.1.cls q.2 ∈ tables_1 ∧ Cond.privateMethod q.1 ∈ tables_1 ∧ Cond.instanceMethod q.1 ∈ tables_1
theorem lw_p0 : lw_okq (⟨"BronzeDown", "fails", "(I)I"⟩, 8) := ⟨⟨by decide +kernel, by decide +kernel⟩, List.mem_of_getElem? (i := 16) (by decide +kernel), List.mem_of_getElem? (i := 309) (by decide +kernel), List.mem_of_getElem? (i := 310) (by decide +kernel)⟩
theorem lw_p1 : lw_okq (⟨"BronzeDown$Reader", "readLevel", "(II)V"⟩, 5) := ⟨⟨by decide +kernel, by decide +kernel⟩, List.mem_of_getElem? (i := 204) (by decide +kernel), List.mem_of_getElem? (i := 492) (by decide +kernel), List.mem_of_getElem? (i := 493) (by decide +kernel)⟩
theorem lw_p2 : lw_okq (⟨"BronzeDown$Reader", "readUnit", "(I)V"⟩, 5) := ⟨⟨by decide +kernel, by decide +kernel⟩, List.mem_of_getElem? (i := 204) (by decide +kernel), List.mem_of_getElem? (i := 496) (by decide +kernel), List.mem_of_getElem? (i := 497) (by decide +kernel)⟩
theorem lw_p3 : lw_okq (⟨"BronzeDown$Reader", "next", "()I"⟩, 5) := ⟨⟨by decide +kernel, by decide +kernel⟩, List.mem_of_getElem? (i := 204) (by decide +kernel), List.mem_of_getElem? (i := 500) (by decide +kernel), List.mem_of_getElem? (i := 501) (by decide +kernel)⟩
theorem lw_p4 : lw_okq (⟨"BronzeDown$Reader", "readNumber", "()V"⟩, 5) := ⟨⟨by decide +kernel, by decide +kernel⟩, List.mem_of_getElem? (i := 204) (by decide +kernel), List.mem_of_getElem? (i := 512) (by decide +kernel), List.mem_of_getElem? (i := 513) (by decide +kernel)⟩
theorem lw_p5 : lw_okq (⟨"BronzeDown$Reader", "nameOf", "(I)I"⟩, 5) := ⟨⟨by decide +kernel, by decide +kernel⟩, List.mem_of_getElem? (i := 204) (by decide +kernel), List.mem_of_getElem? (i := 517) (by decide +kernel), List.mem_of_getElem? (i := 518) (by decide +kernel)⟩
theorem lw_p6 : lw_okq (⟨"BronzeDown$Reader", "close", "()V"⟩, 5) := ⟨⟨by decide +kernel, by decide +kernel⟩, List.mem_of_getElem? (i := 204) (by decide +kernel), List.mem_of_getElem? (i := 521) (by decide +kernel), List.mem_of_getElem? (i := 522) (by decide +kernel)⟩
theorem lw_p7 : lw_okq (⟨"BronzeDown$Course", "passYear", "()V"⟩, 9) := ⟨⟨by decide +kernel, by decide +kernel⟩, List.mem_of_getElem? (i := 30) (by decide +kernel), List.mem_of_getElem? (i := 549) (by decide +kernel), List.mem_of_getElem? (i := 550) (by decide +kernel)⟩
theorem lw_p8 : lw_okq (⟨"BronzeDown$State", "draw", "()I"⟩, 5) := ⟨⟨by decide +kernel, by decide +kernel⟩, List.mem_of_getElem? (i := 24) (by decide +kernel), List.mem_of_getElem? (i := 566) (by decide +kernel), List.mem_of_getElem? (i := 567) (by decide +kernel)⟩
theorem lw_p9 : lw_okq (⟨"BronzeDown", "thinkAfresh", "()V"⟩, 8) := ⟨⟨by decide +kernel, by decide +kernel⟩, List.mem_of_getElem? (i := 16) (by decide +kernel), List.mem_of_getElem? (i := 576) (by decide +kernel), List.mem_of_getElem? (i := 577) (by decide +kernel)⟩
theorem lw_p10 : lw_okq (⟨"BronzeDown", "sheetOf", "(I)LBronzeDown$Sheet;"⟩, 8) := ⟨⟨by decide +kernel, by decide +kernel⟩, List.mem_of_getElem? (i := 16) (by decide +kernel), List.mem_of_getElem? (i := 616) (by decide +kernel), List.mem_of_getElem? (i := 617) (by decide +kernel)⟩
theorem lw_p11 : lw_okq (⟨"BronzeDown", "firstUnlike", "(LBronzeDown$Row;)I"⟩, 8) := ⟨⟨by decide +kernel, by decide +kernel⟩, List.mem_of_getElem? (i := 16) (by decide +kernel), List.mem_of_getElem? (i := 624) (by decide +kernel), List.mem_of_getElem? (i := 625) (by decide +kernel)⟩
theorem lw_p12 : lw_okq (⟨"BronzeDown$Grounds", "goodSteps", "(I)I"⟩, 7) := ⟨⟨by decide +kernel, by decide +kernel⟩, List.mem_of_getElem? (i := 146) (by decide +kernel), List.mem_of_getElem? (i := 642) (by decide +kernel), List.mem_of_getElem? (i := 643) (by decide +kernel)⟩
theorem lw_p13 : lw_okq (⟨"BronzeDown$Grounds", "tallOf", "(I)I"⟩, 7) := ⟨⟨by decide +kernel, by decide +kernel⟩, List.mem_of_getElem? (i := 146) (by decide +kernel), List.mem_of_getElem? (i := 653) (by decide +kernel), List.mem_of_getElem? (i := 654) (by decide +kernel)⟩
theorem lw_p14 : lw_okq (⟨"BronzeDown$Grounds", "treesOfRow", "(I)I"⟩, 7) := ⟨⟨by decide +kernel, by decide +kernel⟩, List.mem_of_getElem? (i := 146) (by decide +kernel), List.mem_of_getElem? (i := 675) (by decide +kernel), List.mem_of_getElem? (i := 676) (by decide +kernel)⟩
theorem lw_p15 : lw_okq (⟨"BronzeDown$Grounds", "treesOfLine", "(I)I"⟩, 7) := ⟨⟨by decide +kernel, by decide +kernel⟩, List.mem_of_getElem? (i := 146) (by decide +kernel), List.mem_of_getElem? (i := 679) (by decide +kernel), List.mem_of_getElem? (i := 680) (by decide +kernel)⟩
def lw_privs_1 : List (MethodName × Nat) := [(⟨"BronzeDown", "fails", "(I)I"⟩, 8), (⟨"BronzeDown$Reader", "readLevel", "(II)V"⟩, 5), (⟨"BronzeDown$Reader", "readUnit", "(I)V"⟩, 5), (⟨"BronzeDown$Reader", "next", "()I"⟩, 5), (⟨"BronzeDown$Reader", "readNumber", "()V"⟩, 5), (⟨"BronzeDown$Reader", "nameOf", "(I)I"⟩, 5), (⟨"BronzeDown$Reader", "close", "()V"⟩, 5), (⟨"BronzeDown$Course", "passYear", "()V"⟩, 9), (⟨"BronzeDown$State", "draw", "()I"⟩, 5), (⟨"BronzeDown", "thinkAfresh", "()V"⟩, 8), (⟨"BronzeDown", "sheetOf", "(I)LBronzeDown$Sheet;"⟩, 8), (⟨"BronzeDown", "firstUnlike", "(LBronzeDown$Row;)I"⟩, 8), (⟨"BronzeDown$Grounds", "goodSteps", "(I)I"⟩, 7), (⟨"BronzeDown$Grounds", "tallOf", "(I)I"⟩, 7), (⟨"BronzeDown$Grounds", "treesOfRow", "(I)I"⟩, 7), (⟨"BronzeDown$Grounds", "treesOfLine", "(I)I"⟩, 7)]
theorem lw_r1 : ∀ q ∈ lw_privs_1, lw_okq q := List.forall_mem_cons.mpr ⟨lw_p0, List.forall_mem_cons.mpr ⟨lw_p1, List.forall_mem_cons.mpr ⟨lw_p2, List.forall_mem_cons.mpr ⟨lw_p3, List.forall_mem_cons.mpr ⟨lw_p4, List.forall_mem_cons.mpr ⟨lw_p5, List.forall_mem_cons.mpr ⟨lw_p6, List.forall_mem_cons.mpr ⟨lw_p7, List.forall_mem_cons.mpr ⟨lw_p8, List.forall_mem_cons.mpr ⟨lw_p9, List.forall_mem_cons.mpr ⟨lw_p10, List.forall_mem_cons.mpr ⟨lw_p11, List.forall_mem_cons.mpr ⟨lw_p12, List.forall_mem_cons.mpr ⟨lw_p13, List.forall_mem_cons.mpr ⟨lw_p14, List.forall_mem_cons.mpr ⟨lw_p15, fun _ h => absurd h List.not_mem_nil⟩⟩⟩⟩⟩⟩⟩⟩⟩⟩⟩⟩⟩⟩⟩⟩
theorem lw_p16 : lw_okq (⟨"BronzeDown$Grounds", "treeAt", "(II)I"⟩, 7) := ⟨⟨by decide +kernel, by decide +kernel⟩, List.mem_of_getElem? (i := 146) (by decide +kernel), List.mem_of_getElem? (i := 683) (by decide +kernel), List.mem_of_getElem? (i := 684) (by decide +kernel)⟩
theorem lw_p17 : lw_okq (⟨"BronzeDown$Grounds", "treesNextTo", "(II)I"⟩, 7) := ⟨⟨by decide +kernel, by decide +kernel⟩, List.mem_of_getElem? (i := 146) (by decide +kernel), List.mem_of_getElem? (i := 688) (by decide +kernel), List.mem_of_getElem? (i := 689) (by decide +kernel)⟩
theorem lw_p18 : lw_okq (⟨"BronzeDown$Visitors", "loudOf", "(I)I"⟩, 6) := ⟨⟨by decide +kernel, by decide +kernel⟩, List.mem_of_getElem? (i := 36) (by decide +kernel), List.mem_of_getElem? (i := 704) (by decide +kernel), List.mem_of_getElem? (i := 705) (by decide +kernel)⟩
theorem lw_p19 : lw_okq (⟨"BronzeDown$Grounds", "moveOneFoot", "()V"⟩, 7) := ⟨⟨by decide +kernel, by decide +kernel⟩, List.mem_of_getElem? (i := 146) (by decide +kernel), List.mem_of_getElem? (i := 725) (by decide +kernel), List.mem_of_getElem? (i := 726) (by decide +kernel)⟩
theorem lw_p20 : lw_okq (⟨"BronzeDown$Voices", "say", "(IIII)I"⟩, 4) := ⟨⟨by decide +kernel, by decide +kernel⟩, List.mem_of_getElem? (i := 231) (by decide +kernel), List.mem_of_getElem? (i := 750) (by decide +kernel), List.mem_of_getElem? (i := 751) (by decide +kernel)⟩
theorem lw_p21 : lw_okq (⟨"BronzeDown$Voices", "sayPlain", "(III)I"⟩, 4) := ⟨⟨by decide +kernel, by decide +kernel⟩, List.mem_of_getElem? (i := 231) (by decide +kernel), List.mem_of_getElem? (i := 765) (by decide +kernel), List.mem_of_getElem? (i := 766) (by decide +kernel)⟩
theorem lw_p22 : lw_okq (⟨"BronzeDown$Voices", "saySpecial", "(IIII)I"⟩, 4) := ⟨⟨by decide +kernel, by decide +kernel⟩, List.mem_of_getElem? (i := 231) (by decide +kernel), List.mem_of_getElem? (i := 769) (by decide +kernel), List.mem_of_getElem? (i := 770) (by decide +kernel)⟩
theorem lw_p23 : lw_okq (⟨"BronzeDownModel", "becomes", "(II)I"⟩, 27) := ⟨⟨by decide +kernel, by decide +kernel⟩, List.mem_of_getElem? (i := 871) (by decide +kernel), List.mem_of_getElem? (i := 966) (by decide +kernel), List.mem_of_getElem? (i := 967) (by decide +kernel)⟩
theorem lw_p24 : lw_okq (⟨"BronzeDownModel", "errs", "(I)I"⟩, 27) := ⟨⟨by decide +kernel, by decide +kernel⟩, List.mem_of_getElem? (i := 871) (by decide +kernel), List.mem_of_getElem? (i := 971) (by decide +kernel), List.mem_of_getElem? (i := 972) (by decide +kernel)⟩
theorem lw_p25 : lw_okq (⟨"BronzeDownModel", "isGood", "(I)Z"⟩, 27) := ⟨⟨by decide +kernel, by decide +kernel⟩, List.mem_of_getElem? (i := 871) (by decide +kernel), List.mem_of_getElem? (i := 995) (by decide +kernel), List.mem_of_getElem? (i := 996) (by decide +kernel)⟩
theorem lw_p26 : lw_okq (⟨"BronzeDownModel", "weight", "()I"⟩, 27) := ⟨⟨by decide +kernel, by decide +kernel⟩, List.mem_of_getElem? (i := 871) (by decide +kernel), List.mem_of_getElem? (i := 999) (by decide +kernel), List.mem_of_getElem? (i := 1000) (by decide +kernel)⟩
theorem lw_p27 : lw_okq (⟨"BronzeDownModel", "puts", "(III)V"⟩, 27) := ⟨⟨by decide +kernel, by decide +kernel⟩, List.mem_of_getElem? (i := 871) (by decide +kernel), List.mem_of_getElem? (i := 1012) (by decide +kernel), List.mem_of_getElem? (i := 1013) (by decide +kernel)⟩
theorem lw_p28 : lw_okq (⟨"BronzeDownModel", "isVisitor", "(I)Z"⟩, 27) := ⟨⟨by decide +kernel, by decide +kernel⟩, List.mem_of_getElem? (i := 871) (by decide +kernel), List.mem_of_getElem? (i := 1020) (by decide +kernel), List.mem_of_getElem? (i := 1021) (by decide +kernel)⟩
theorem lw_p29 : lw_okq (⟨"BronzeDownModel", "its", "(II)I"⟩, 27) := ⟨⟨by decide +kernel, by decide +kernel⟩, List.mem_of_getElem? (i := 871) (by decide +kernel), List.mem_of_getElem? (i := 1024) (by decide +kernel), List.mem_of_getElem? (i := 1025) (by decide +kernel)⟩
theorem lw_p30 : lw_okq (⟨"BronzeDownModel", "keeps", "(I)I"⟩, 27) := ⟨⟨by decide +kernel, by decide +kernel⟩, List.mem_of_getElem? (i := 871) (by decide +kernel), List.mem_of_getElem? (i := 1028) (by decide +kernel), List.mem_of_getElem? (i := 1029) (by decide +kernel)⟩
theorem lw_p31 : lw_okq (⟨"BronzeDownModel", "heat", "()I"⟩, 27) := ⟨⟨by decide +kernel, by decide +kernel⟩, List.mem_of_getElem? (i := 871) (by decide +kernel), List.mem_of_getElem? (i := 1032) (by decide +kernel), List.mem_of_getElem? (i := 1033) (by decide +kernel)⟩
def lw_privs_2 : List (MethodName × Nat) := [(⟨"BronzeDown$Grounds", "treeAt", "(II)I"⟩, 7), (⟨"BronzeDown$Grounds", "treesNextTo", "(II)I"⟩, 7), (⟨"BronzeDown$Visitors", "loudOf", "(I)I"⟩, 6), (⟨"BronzeDown$Grounds", "moveOneFoot", "()V"⟩, 7), (⟨"BronzeDown$Voices", "say", "(IIII)I"⟩, 4), (⟨"BronzeDown$Voices", "sayPlain", "(III)I"⟩, 4), (⟨"BronzeDown$Voices", "saySpecial", "(IIII)I"⟩, 4), (⟨"BronzeDownModel", "becomes", "(II)I"⟩, 27), (⟨"BronzeDownModel", "errs", "(I)I"⟩, 27), (⟨"BronzeDownModel", "isGood", "(I)Z"⟩, 27), (⟨"BronzeDownModel", "weight", "()I"⟩, 27), (⟨"BronzeDownModel", "puts", "(III)V"⟩, 27), (⟨"BronzeDownModel", "isVisitor", "(I)Z"⟩, 27), (⟨"BronzeDownModel", "its", "(II)I"⟩, 27), (⟨"BronzeDownModel", "keeps", "(I)I"⟩, 27), (⟨"BronzeDownModel", "heat", "()I"⟩, 27)]
theorem lw_r2 : ∀ q ∈ lw_privs_2, lw_okq q := List.forall_mem_cons.mpr ⟨lw_p16, List.forall_mem_cons.mpr ⟨lw_p17, List.forall_mem_cons.mpr ⟨lw_p18, List.forall_mem_cons.mpr ⟨lw_p19, List.forall_mem_cons.mpr ⟨lw_p20, List.forall_mem_cons.mpr ⟨lw_p21, List.forall_mem_cons.mpr ⟨lw_p22, List.forall_mem_cons.mpr ⟨lw_p23, List.forall_mem_cons.mpr ⟨lw_p24, List.forall_mem_cons.mpr ⟨lw_p25, List.forall_mem_cons.mpr ⟨lw_p26, List.forall_mem_cons.mpr ⟨lw_p27, List.forall_mem_cons.mpr ⟨lw_p28, List.forall_mem_cons.mpr ⟨lw_p29, List.forall_mem_cons.mpr ⟨lw_p30, List.forall_mem_cons.mpr ⟨lw_p31, fun _ h => absurd h List.not_mem_nil⟩⟩⟩⟩⟩⟩⟩⟩⟩⟩⟩⟩⟩⟩⟩⟩
theorem lw_p32 : lw_okq (⟨"BronzeDownModel", "isComing", "(I)Z"⟩, 27) := ⟨⟨by decide +kernel, by decide +kernel⟩, List.mem_of_getElem? (i := 871) (by decide +kernel), List.mem_of_getElem? (i := 1036) (by decide +kernel), List.mem_of_getElem? (i := 1037) (by decide +kernel)⟩
theorem lw_p33 : lw_okq (⟨"BronzeDownModel", "rain", "()I"⟩, 27) := ⟨⟨by decide +kernel, by decide +kernel⟩, List.mem_of_getElem? (i := 871) (by decide +kernel), List.mem_of_getElem? (i := 1040) (by decide +kernel), List.mem_of_getElem? (i := 1041) (by decide +kernel)⟩
theorem lw_p34 : lw_okq (⟨"BronzeDownModel", "lawOf", "(IIII)I"⟩, 27) := ⟨⟨by decide +kernel, by decide +kernel⟩, List.mem_of_getElem? (i := 871) (by decide +kernel), List.mem_of_getElem? (i := 1064) (by decide +kernel), List.mem_of_getElem? (i := 1065) (by decide +kernel)⟩
theorem lw_p35 : lw_okq (⟨"BronzeDownModel", "walks", "(IIII)I"⟩, 27) := ⟨⟨by decide +kernel, by decide +kernel⟩, List.mem_of_getElem? (i := 871) (by decide +kernel), List.mem_of_getElem? (i := 1068) (by decide +kernel), List.mem_of_getElem? (i := 1069) (by decide +kernel)⟩
theorem lw_p36 : lw_okq (⟨"BronzeDownModel", "whole", "()I"⟩, 27) := ⟨⟨by decide +kernel, by decide +kernel⟩, List.mem_of_getElem? (i := 871) (by decide +kernel), List.mem_of_getElem? (i := 1072) (by decide +kernel), List.mem_of_getElem? (i := 1073) (by decide +kernel)⟩
theorem lw_p37 : lw_okq (⟨"BronzeDownModel", "both", "()I"⟩, 27) := ⟨⟨by decide +kernel, by decide +kernel⟩, List.mem_of_getElem? (i := 871) (by decide +kernel), List.mem_of_getElem? (i := 1076) (by decide +kernel), List.mem_of_getElem? (i := 1077) (by decide +kernel)⟩
theorem lw_p38 : lw_okq (⟨"BronzeDownModel", "compared", "()I"⟩, 27) := ⟨⟨by decide +kernel, by decide +kernel⟩, List.mem_of_getElem? (i := 871) (by decide +kernel), List.mem_of_getElem? (i := 1080) (by decide +kernel), List.mem_of_getElem? (i := 1081) (by decide +kernel)⟩
theorem lw_p39 : lw_okq (⟨"BronzeDownModel", "sum", "()I"⟩, 27) := ⟨⟨by decide +kernel, by decide +kernel⟩, List.mem_of_getElem? (i := 871) (by decide +kernel), List.mem_of_getElem? (i := 1084) (by decide +kernel), List.mem_of_getElem? (i := 1085) (by decide +kernel)⟩
theorem lw_p40 : lw_okq (⟨"BronzeDownModel", "product", "()I"⟩, 27) := ⟨⟨by decide +kernel, by decide +kernel⟩, List.mem_of_getElem? (i := 871) (by decide +kernel), List.mem_of_getElem? (i := 1088) (by decide +kernel), List.mem_of_getElem? (i := 1089) (by decide +kernel)⟩
theorem lw_p41 : lw_okq (⟨"BronzeDownModel", "factor", "()I"⟩, 27) := ⟨⟨by decide +kernel, by decide +kernel⟩, List.mem_of_getElem? (i := 871) (by decide +kernel), List.mem_of_getElem? (i := 1092) (by decide +kernel), List.mem_of_getElem? (i := 1093) (by decide +kernel)⟩
theorem lw_p42 : lw_okq (⟨"BronzeDownModel", "byteAt", "(I)I"⟩, 27) := ⟨⟨by decide +kernel, by decide +kernel⟩, List.mem_of_getElem? (i := 871) (by decide +kernel), List.mem_of_getElem? (i := 1096) (by decide +kernel), List.mem_of_getElem? (i := 1097) (by decide +kernel)⟩
theorem lw_p43 : lw_okq (⟨"BronzeDownModel", "number", "()I"⟩, 27) := ⟨⟨by decide +kernel, by decide +kernel⟩, List.mem_of_getElem? (i := 871) (by decide +kernel), List.mem_of_getElem? (i := 1103) (by decide +kernel), List.mem_of_getElem? (i := 1104) (by decide +kernel)⟩
theorem lw_p44 : lw_okq (⟨"BronzeDownModel", "named", "(I)I"⟩, 27) := ⟨⟨by decide +kernel, by decide +kernel⟩, List.mem_of_getElem? (i := 871) (by decide +kernel), List.mem_of_getElem? (i := 1107) (by decide +kernel), List.mem_of_getElem? (i := 1108) (by decide +kernel)⟩
theorem lw_p45 : lw_okq (⟨"BronzeDownModel", "fails", "()I"⟩, 27) := ⟨⟨by decide +kernel, by decide +kernel⟩, List.mem_of_getElem? (i := 871) (by decide +kernel), List.mem_of_getElem? (i := 1111) (by decide +kernel), List.mem_of_getElem? (i := 1112) (by decide +kernel)⟩
theorem lw_p46 : lw_okq (⟨"BronzeDownModel", "moveAll", "([I[I)V"⟩, 27) := ⟨⟨by decide +kernel, by decide +kernel⟩, List.mem_of_getElem? (i := 871) (by decide +kernel), List.mem_of_getElem? (i := 1127) (by decide +kernel), List.mem_of_getElem? (i := 1128) (by decide +kernel)⟩
theorem lw_p47 : lw_okq (⟨"BronzeDownModel", "yearns", "()I"⟩, 27) := ⟨⟨by decide +kernel, by decide +kernel⟩, List.mem_of_getElem? (i := 871) (by decide +kernel), List.mem_of_getElem? (i := 1135) (by decide +kernel), List.mem_of_getElem? (i := 1136) (by decide +kernel)⟩
def lw_privs_3 : List (MethodName × Nat) := [(⟨"BronzeDownModel", "isComing", "(I)Z"⟩, 27), (⟨"BronzeDownModel", "rain", "()I"⟩, 27), (⟨"BronzeDownModel", "lawOf", "(IIII)I"⟩, 27), (⟨"BronzeDownModel", "walks", "(IIII)I"⟩, 27), (⟨"BronzeDownModel", "whole", "()I"⟩, 27), (⟨"BronzeDownModel", "both", "()I"⟩, 27), (⟨"BronzeDownModel", "compared", "()I"⟩, 27), (⟨"BronzeDownModel", "sum", "()I"⟩, 27), (⟨"BronzeDownModel", "product", "()I"⟩, 27), (⟨"BronzeDownModel", "factor", "()I"⟩, 27), (⟨"BronzeDownModel", "byteAt", "(I)I"⟩, 27), (⟨"BronzeDownModel", "number", "()I"⟩, 27), (⟨"BronzeDownModel", "named", "(I)I"⟩, 27), (⟨"BronzeDownModel", "fails", "()I"⟩, 27), (⟨"BronzeDownModel", "moveAll", "([I[I)V"⟩, 27), (⟨"BronzeDownModel", "yearns", "()I"⟩, 27)]
theorem lw_r3 : ∀ q ∈ lw_privs_3, lw_okq q := List.forall_mem_cons.mpr ⟨lw_p32, List.forall_mem_cons.mpr ⟨lw_p33, List.forall_mem_cons.mpr ⟨lw_p34, List.forall_mem_cons.mpr ⟨lw_p35, List.forall_mem_cons.mpr ⟨lw_p36, List.forall_mem_cons.mpr ⟨lw_p37, List.forall_mem_cons.mpr ⟨lw_p38, List.forall_mem_cons.mpr ⟨lw_p39, List.forall_mem_cons.mpr ⟨lw_p40, List.forall_mem_cons.mpr ⟨lw_p41, List.forall_mem_cons.mpr ⟨lw_p42, List.forall_mem_cons.mpr ⟨lw_p43, List.forall_mem_cons.mpr ⟨lw_p44, List.forall_mem_cons.mpr ⟨lw_p45, List.forall_mem_cons.mpr ⟨lw_p46, List.forall_mem_cons.mpr ⟨lw_p47, fun _ h => absurd h List.not_mem_nil⟩⟩⟩⟩⟩⟩⟩⟩⟩⟩⟩⟩⟩⟩⟩⟩
theorem lw_p48 : lw_okq (⟨"BronzeDownModel", "shifts", "()I"⟩, 27) := ⟨⟨by decide +kernel, by decide +kernel⟩, List.mem_of_getElem? (i := 871) (by decide +kernel), List.mem_of_getElem? (i := 1139) (by decide +kernel), List.mem_of_getElem? (i := 1140) (by decide +kernel)⟩
theorem lw_p49 : lw_okq (⟨"BronzeDownModel", "passes", "(I)V"⟩, 27) := ⟨⟨by decide +kernel, by decide +kernel⟩, List.mem_of_getElem? (i := 871) (by decide +kernel), List.mem_of_getElem? (i := 1148) (by decide +kernel), List.mem_of_getElem? (i := 1149) (by decide +kernel)⟩
theorem lw_p50 : lw_okq (⟨"BronzeDownModel", "oneYear", "()V"⟩, 27) := ⟨⟨by decide +kernel, by decide +kernel⟩, List.mem_of_getElem? (i := 871) (by decide +kernel), List.mem_of_getElem? (i := 1152) (by decide +kernel), List.mem_of_getElem? (i := 1153) (by decide +kernel)⟩
theorem lw_p51 : lw_okq (⟨"BronzeDownModel", "drawn", "()I"⟩, 27) := ⟨⟨by decide +kernel, by decide +kernel⟩, List.mem_of_getElem? (i := 871) (by decide +kernel), List.mem_of_getElem? (i := 1160) (by decide +kernel), List.mem_of_getElem? (i := 1161) (by decide +kernel)⟩
theorem lw_p52 : lw_okq (⟨"BronzeDownModel", "behind", "(II)I"⟩, 27) := ⟨⟨by decide +kernel, by decide +kernel⟩, List.mem_of_getElem? (i := 871) (by decide +kernel), List.mem_of_getElem? (i := 1169) (by decide +kernel), List.mem_of_getElem? (i := 1170) (by decide +kernel)⟩
theorem lw_p53 : lw_okq (⟨"BronzeDownModel", "leansSo", "(I)Z"⟩, 27) := ⟨⟨by decide +kernel, by decide +kernel⟩, List.mem_of_getElem? (i := 871) (by decide +kernel), List.mem_of_getElem? (i := 1201) (by decide +kernel), List.mem_of_getElem? (i := 1202) (by decide +kernel)⟩
theorem lw_p54 : lw_okq (⟨"BronzeDownModel", "goodSet", "()I"⟩, 27) := ⟨⟨by decide +kernel, by decide +kernel⟩, List.mem_of_getElem? (i := 871) (by decide +kernel), List.mem_of_getElem? (i := 1213) (by decide +kernel), List.mem_of_getElem? (i := 1214) (by decide +kernel)⟩
theorem lw_p55 : lw_okq (⟨"BronzeDownModel", "tallOf", "(I)I"⟩, 27) := ⟨⟨by decide +kernel, by decide +kernel⟩, List.mem_of_getElem? (i := 871) (by decide +kernel), List.mem_of_getElem? (i := 1220) (by decide +kernel), List.mem_of_getElem? (i := 1221) (by decide +kernel)⟩
theorem lw_p56 : lw_okq (⟨"BronzeDownModel", "isThere", "(II)Z"⟩, 27) := ⟨⟨by decide +kernel, by decide +kernel⟩, List.mem_of_getElem? (i := 871) (by decide +kernel), List.mem_of_getElem? (i := 1232) (by decide +kernel), List.mem_of_getElem? (i := 1233) (by decide +kernel)⟩
theorem lw_p57 : lw_okq (⟨"BronzeDownModel", "treesBy", "(III)I"⟩, 27) := ⟨⟨by decide +kernel, by decide +kernel⟩, List.mem_of_getElem? (i := 871) (by decide +kernel), List.mem_of_getElem? (i := 1236) (by decide +kernel), List.mem_of_getElem? (i := 1237) (by decide +kernel)⟩
theorem lw_p58 : lw_okq (⟨"BronzeDownModel", "tree", "(II)I"⟩, 27) := ⟨⟨by decide +kernel, by decide +kernel⟩, List.mem_of_getElem? (i := 871) (by decide +kernel), List.mem_of_getElem? (i := 1240) (by decide +kernel), List.mem_of_getElem? (i := 1241) (by decide +kernel)⟩
theorem lw_p59 : lw_okq (⟨"BronzeDownModel", "loudOf", "(I)I"⟩, 27) := ⟨⟨by decide +kernel, by decide +kernel⟩, List.mem_of_getElem? (i := 871) (by decide +kernel), List.mem_of_getElem? (i := 1248) (by decide +kernel), List.mem_of_getElem? (i := 1249) (by decide +kernel)⟩
theorem lw_p60 : lw_okq (⟨"BronzeDownModel", "callsIn", "(II)I"⟩, 27) := ⟨⟨by decide +kernel, by decide +kernel⟩, List.mem_of_getElem? (i := 871) (by decide +kernel), List.mem_of_getElem? (i := 1274) (by decide +kernel), List.mem_of_getElem? (i := 1275) (by decide +kernel)⟩
theorem lw_p61 : lw_okq (⟨"BronzeDownModel", "ran", "(I)V"⟩, 27) := ⟨⟨by decide +kernel, by decide +kernel⟩, List.mem_of_getElem? (i := 871) (by decide +kernel), List.mem_of_getElem? (i := 1278) (by decide +kernel), List.mem_of_getElem? (i := 1279) (by decide +kernel)⟩
theorem lw_p62 : lw_okq (⟨"BronzeDownModel", "holdsIn", "(II)I"⟩, 27) := ⟨⟨by decide +kernel, by decide +kernel⟩, List.mem_of_getElem? (i := 871) (by decide +kernel), List.mem_of_getElem? (i := 1282) (by decide +kernel), List.mem_of_getElem? (i := 1283) (by decide +kernel)⟩
theorem lw_p63 : lw_okq (⟨"BronzeDownModel", "nodsIn", "(II)I"⟩, 27) := ⟨⟨by decide +kernel, by decide +kernel⟩, List.mem_of_getElem? (i := 871) (by decide +kernel), List.mem_of_getElem? (i := 1286) (by decide +kernel), List.mem_of_getElem? (i := 1287) (by decide +kernel)⟩
def lw_privs_4 : List (MethodName × Nat) := [(⟨"BronzeDownModel", "shifts", "()I"⟩, 27), (⟨"BronzeDownModel", "passes", "(I)V"⟩, 27), (⟨"BronzeDownModel", "oneYear", "()V"⟩, 27), (⟨"BronzeDownModel", "drawn", "()I"⟩, 27), (⟨"BronzeDownModel", "behind", "(II)I"⟩, 27), (⟨"BronzeDownModel", "leansSo", "(I)Z"⟩, 27), (⟨"BronzeDownModel", "goodSet", "()I"⟩, 27), (⟨"BronzeDownModel", "tallOf", "(I)I"⟩, 27), (⟨"BronzeDownModel", "isThere", "(II)Z"⟩, 27), (⟨"BronzeDownModel", "treesBy", "(III)I"⟩, 27), (⟨"BronzeDownModel", "tree", "(II)I"⟩, 27), (⟨"BronzeDownModel", "loudOf", "(I)I"⟩, 27), (⟨"BronzeDownModel", "callsIn", "(II)I"⟩, 27), (⟨"BronzeDownModel", "ran", "(I)V"⟩, 27), (⟨"BronzeDownModel", "holdsIn", "(II)I"⟩, 27), (⟨"BronzeDownModel", "nodsIn", "(II)I"⟩, 27)]
theorem lw_r4 : ∀ q ∈ lw_privs_4, lw_okq q := List.forall_mem_cons.mpr ⟨lw_p48, List.forall_mem_cons.mpr ⟨lw_p49, List.forall_mem_cons.mpr ⟨lw_p50, List.forall_mem_cons.mpr ⟨lw_p51, List.forall_mem_cons.mpr ⟨lw_p52, List.forall_mem_cons.mpr ⟨lw_p53, List.forall_mem_cons.mpr ⟨lw_p54, List.forall_mem_cons.mpr ⟨lw_p55, List.forall_mem_cons.mpr ⟨lw_p56, List.forall_mem_cons.mpr ⟨lw_p57, List.forall_mem_cons.mpr ⟨lw_p58, List.forall_mem_cons.mpr ⟨lw_p59, List.forall_mem_cons.mpr ⟨lw_p60, List.forall_mem_cons.mpr ⟨lw_p61, List.forall_mem_cons.mpr ⟨lw_p62, List.forall_mem_cons.mpr ⟨lw_p63, fun _ h => absurd h List.not_mem_nil⟩⟩⟩⟩⟩⟩⟩⟩⟩⟩⟩⟩⟩⟩⟩⟩
theorem lw_p64 : lw_okq (⟨"BronzeDownModel", "tellsIn", "(II)I"⟩, 27) := ⟨⟨by decide +kernel, by decide +kernel⟩, List.mem_of_getElem? (i := 871) (by decide +kernel), List.mem_of_getElem? (i := 1290) (by decide +kernel), List.mem_of_getElem? (i := 1291) (by decide +kernel)⟩
theorem lw_p65 : lw_okq (⟨"BronzeDownModel", "sumOfTrees", "()I"⟩, 27) := ⟨⟨by decide +kernel, by decide +kernel⟩, List.mem_of_getElem? (i := 871) (by decide +kernel), List.mem_of_getElem? (i := 1341) (by decide +kernel), List.mem_of_getElem? (i := 1342) (by decide +kernel)⟩
def lw_privs_5 : List (MethodName × Nat) := [(⟨"BronzeDownModel", "tellsIn", "(II)I"⟩, 27), (⟨"BronzeDownModel", "sumOfTrees", "()I"⟩, 27)]
theorem lw_r5 : ∀ q ∈ lw_privs_5, lw_okq q := List.forall_mem_cons.mpr ⟨lw_p64, List.forall_mem_cons.mpr ⟨lw_p65, fun _ h => absurd h List.not_mem_nil⟩⟩
def lw_privs : List (MethodName × Nat) := lw_privs_1 ++ (lw_privs_2 ++ (lw_privs_3 ++ (lw_privs_4 ++ (lw_privs_5))))
def lw_tbl : List Cond := k2_sels lw_privs ++ tables_1
theorem lw_privs_ok : ∀ q ∈ lw_privs, lw_okq q := by
  show ∀ q ∈ lw_privs_1 ++ (lw_privs_2 ++ (lw_privs_3 ++ (lw_privs_4 ++ (lw_privs_5)))), lw_okq q
  exact List.forall_mem_append.mpr ⟨lw_r1, List.forall_mem_append.mpr ⟨lw_r2, List.forall_mem_append.mpr ⟨lw_r3, List.forall_mem_append.mpr ⟨lw_r4, lw_r5⟩⟩⟩⟩

def RX0 : String := "BronzeDown$Course"
def TX0 : u_T := fun k => match k with
  | 0 => ("BronzeDown$Course", "heat", "[I", true)
  | 1 => ("BronzeDown$Course", "rain", "[I", true)
  | 2 => ("BronzeDown$Course", "visitors", "LBronzeDown$Visitors;", true)
  | 3 => ("BronzeDown$Course", "yearns", "LBronzeDown$Law;", true)
  | 4 => ("BronzeDown$Course", "shifts", "LBronzeDown$Law;", true)
  | 5 => ("BronzeDown$Course", "want", "I", false)
  | 6 => ("BronzeDown$Course", "lean", "I", false)
  | 7 => ("BronzeDown$Course", "hat", "I", false)
  | _ => ("BronzeDown$Course", "year", "I", false)
def tyX0 : Nat → FieldType := fun k => match k with
  | 0 => .array .int
  | 1 => .array .int
  | 2 => .object "BronzeDown$Visitors"
  | 3 => .object "BronzeDown$Law"
  | 4 => .object "BronzeDown$Law"
  | 5 => .int
  | 6 => .int
  | 7 => .int
  | _ => .int
abbrev wsX00 : List Cond := u_ws RX0 TX0 9
theorem nmX0 : ∀ a, a < 9 → ∀ b, b < 9 → a ≠ b → (TX0 a).2.1 ≠ (TX0 b).2.1 := by decide +kernel
theorem tyX0_ok : ∀ k, k < 9 → parseFieldDescriptor (TX0 k).2.2.1 = some (tyX0 k) := by decide +kernel
abbrev cX0_init : ByteArray := prog_2_method_1_code
def yX0_init : MethodName := ⟨RX0, "<init>", "()V"⟩
abbrev cX0_rowOfSeasons : ByteArray := prog_2_method_2_code
def yX0_rowOfSeasons : MethodName := ⟨RX0, "rowOfSeasons", "(I)[I"⟩
abbrev cX0_heatNow : ByteArray := prog_2_method_3_code
def yX0_heatNow : MethodName := ⟨RX0, "heatNow", "()I"⟩
abbrev cX0_rainNow : ByteArray := prog_2_method_4_code
def yX0_rainNow : MethodName := ⟨RX0, "rainNow", "()I"⟩
abbrev cX0_weight : ByteArray := prog_2_method_5_code
def yX0_weight : MethodName := ⟨RX0, "weight", "()I"⟩
abbrev cX0_lawOf : ByteArray := prog_2_method_6_code
def yX0_lawOf : MethodName := ⟨RX0, "lawOf", "(I)LBronzeDown$Law;"⟩
abbrev cX0_given : ByteArray := prog_2_method_7_code
def yX0_given : MethodName := ⟨RX0, "given", "(IIII)I"⟩
abbrev cX0_yearning : ByteArray := prog_2_method_8_code
def yX0_yearning : MethodName := ⟨RX0, "yearning", "()I"⟩
abbrev cX0_shifting : ByteArray := prog_2_method_9_code
def yX0_shifting : MethodName := ⟨RX0, "shifting", "()I"⟩
abbrev cX0_pass : ByteArray := prog_2_method_10_code
def yX0_pass : MethodName := ⟨RX0, "pass", "(I)I"⟩
abbrev cX0_passYear : ByteArray := prog_2_method_11_code
def yX0_passYear : MethodName := ⟨RX0, "passYear", "()V"⟩
abbrev cX0_copyFrom : ByteArray := prog_2_method_12_code
def yX0_copyFrom : MethodName := ⟨RX0, "copyFrom", "(LBronzeDown$Course;)V"⟩
def RX1 : String := "BronzeDown$Grounds"
def TX1 : u_T := fun k => match k with
  | 0 => ("BronzeDown$Grounds", "tall", "[I", true)
  | 1 => ("BronzeDown$Grounds", "bears", "[I", true)
  | 2 => ("BronzeDown$Grounds", "trees", "[I", true)
  | 3 => ("BronzeDown$Grounds", "ways", "[I", true)
  | 4 => ("BronzeDown$Grounds", "waysNext", "[I", true)
  | 5 => ("BronzeDown$Grounds", "high", "I", false)
  | _ => ("BronzeDown$Grounds", "feet", "I", false)
def tyX1 : Nat → FieldType := fun k => match k with
  | 0 => .array .int
  | 1 => .array .int
  | 2 => .array .int
  | 3 => .array .int
  | 4 => .array .int
  | 5 => .int
  | _ => .int
abbrev wsX10 : List Cond := u_ws RX1 TX1 7
theorem nmX1 : ∀ a, a < 7 → ∀ b, b < 7 → a ≠ b → (TX1 a).2.1 ≠ (TX1 b).2.1 := by decide +kernel
theorem tyX1_ok : ∀ k, k < 7 → parseFieldDescriptor (TX1 k).2.2.1 = some (tyX1 k) := by decide +kernel
abbrev cX1_init : ByteArray := prog_3_method_1_code
def yX1_init : MethodName := ⟨RX1, "<init>", "()V"⟩
abbrev cX1_rowOfSteps : ByteArray := prog_3_method_2_code
def yX1_rowOfSteps : MethodName := ⟨RX1, "rowOfSteps", "(I)[I"⟩
abbrev cX1_isGood : ByteArray := prog_3_method_3_code
def yX1_isGood : MethodName := ⟨RX1, "isGood", "(II)Z"⟩
abbrev cX1_goodSteps : ByteArray := prog_3_method_4_code
def yX1_goodSteps : MethodName := ⟨RX1, "goodSteps", "(I)I"⟩
abbrev cX1_tallOf : ByteArray := prog_3_method_5_code
def yX1_tallOf : MethodName := ⟨RX1, "tallOf", "(I)I"⟩
abbrev cX1_leastStair : ByteArray := prog_3_method_6_code
def yX1_leastStair : MethodName := ⟨RX1, "leastStair", "(I)I"⟩
abbrev cX1_exactStairs : ByteArray := prog_3_method_7_code
def yX1_exactStairs : MethodName := ⟨RX1, "exactStairs", "(I)I"⟩
abbrev cX1_takeTalls : ByteArray := prog_3_method_8_code
def yX1_takeTalls : MethodName := ⟨RX1, "takeTalls", "(LBronzeDown$Row;)I"⟩
abbrev cX1_treesOfAll : ByteArray := prog_3_method_9_code
def yX1_treesOfAll : MethodName := ⟨RX1, "treesOfAll", "()I"⟩
abbrev cX1_isToldOf : ByteArray := prog_3_method_10_code
def yX1_isToldOf : MethodName := ⟨RX1, "isToldOf", "(ILBronzeDown$Row;)Z"⟩
abbrev cX1_treesOfRow : ByteArray := prog_3_method_11_code
def yX1_treesOfRow : MethodName := ⟨RX1, "treesOfRow", "(I)I"⟩
abbrev cX1_treesOfLine : ByteArray := prog_3_method_12_code
def yX1_treesOfLine : MethodName := ⟨RX1, "treesOfLine", "(I)I"⟩
abbrev cX1_treesNextTo : ByteArray := prog_3_method_13_code
def yX1_treesNextTo : MethodName := ⟨RX1, "treesNextTo", "(II)I"⟩
abbrev cX1_treeAt : ByteArray := prog_3_method_14_code
def yX1_treeAt : MethodName := ⟨RX1, "treeAt", "(II)I"⟩
abbrev cX1_gaits : ByteArray := prog_3_method_15_code
def yX1_gaits : MethodName := ⟨RX1, "gaits", "(I)I"⟩
abbrev cX1_moveOneFoot : ByteArray := prog_3_method_16_code
def yX1_moveOneFoot : MethodName := ⟨RX1, "moveOneFoot", "()V"⟩
abbrev cX1_tumbles : ByteArray := prog_3_method_17_code
def yX1_tumbles : MethodName := ⟨RX1, "tumbles", "(I)Z"⟩
abbrev cX1_copyFrom : ByteArray := prog_3_method_18_code
def yX1_copyFrom : MethodName := ⟨RX1, "copyFrom", "(LBronzeDown$Grounds;)V"⟩
def RX2 : String := "BronzeDown$Law"
def TX2 : u_T := fun k => match k with
  | 0 => ("BronzeDown$Law", "marks", "LBronzeDown$Row;", true)
  | 1 => ("BronzeDown$Law", "stack", "[I", true)
  | _ => ("BronzeDown$Law", "isThere", "Z", false)
def tyX2 : Nat → FieldType := fun k => match k with
  | 0 => .object "BronzeDown$Row"
  | 1 => .array .int
  | _ => .boolean
abbrev wsX20 : List Cond := u_ws RX2 TX2 3
theorem nmX2 : ∀ a, a < 3 → ∀ b, b < 3 → a ≠ b → (TX2 a).2.1 ≠ (TX2 b).2.1 := by decide +kernel
theorem tyX2_ok : ∀ k, k < 3 → parseFieldDescriptor (TX2 k).2.2.1 = some (tyX2 k) := by decide +kernel
abbrev cX2_init : ByteArray := prog_4_method_1_code
def yX2_init : MethodName := ⟨RX2, "<init>", "()V"⟩
abbrev cX2_copyFrom : ByteArray := prog_4_method_2_code
def yX2_copyFrom : MethodName := ⟨RX2, "copyFrom", "(LBronzeDown$Law;)V"⟩
abbrev cX2_workOut : ByteArray := prog_4_method_3_code
def yX2_workOut : MethodName := ⟨RX2, "workOut", "(III)I"⟩
abbrev cX2_operand : ByteArray := prog_4_method_4_code
def yX2_operand : MethodName := ⟨RX2, "operand", "(IIII)I"⟩
abbrev cX2_joined : ByteArray := prog_4_method_5_code
def yX2_joined : MethodName := ⟨RX2, "joined", "(III)I"⟩
def RX3 : String := "BronzeDown$Reader"
def TX3 : u_T := fun k => match k with
  | 0 => ("BronzeDown$Reader", "signs", "LBronzeDown$Row;", true)
  | 1 => ("BronzeDown$Reader", "law", "LBronzeDown$Law;", true)
  | 2 => ("BronzeDown$Reader", "use", "I", false)
  | 3 => ("BronzeDown$Reader", "at", "I", false)
  | _ => ("BronzeDown$Reader", "faulty", "Z", false)
def tyX3 : Nat → FieldType := fun k => match k with
  | 0 => .object "BronzeDown$Row"
  | 1 => .object "BronzeDown$Law"
  | 2 => .int
  | 3 => .int
  | _ => .boolean
abbrev wsX30 : List Cond := u_ws RX3 TX3 5
theorem nmX3 : ∀ a, a < 5 → ∀ b, b < 5 → a ≠ b → (TX3 a).2.1 ≠ (TX3 b).2.1 := by decide +kernel
theorem tyX3_ok : ∀ k, k < 5 → parseFieldDescriptor (TX3 k).2.2.1 = some (tyX3 k) := by decide +kernel
abbrev cX3_init : ByteArray := prog_5_method_1_code
def yX3_init : MethodName := ⟨RX3, "<init>", "()V"⟩
abbrev cX3_read : ByteArray := prog_5_method_2_code
def yX3_read : MethodName := ⟨RX3, "read", "(LBronzeDown$Row;I)I"⟩
abbrev cX3_readLevel : ByteArray := prog_5_method_3_code
def yX3_readLevel : MethodName := ⟨RX3, "readLevel", "(II)V"⟩
abbrev cX3_readUnit : ByteArray := prog_5_method_4_code
def yX3_readUnit : MethodName := ⟨RX3, "readUnit", "(I)V"⟩
abbrev cX3_close : ByteArray := prog_5_method_5_code
def yX3_close : MethodName := ⟨RX3, "close", "()V"⟩
abbrev cX3_readNumber : ByteArray := prog_5_method_6_code
def yX3_readNumber : MethodName := ⟨RX3, "readNumber", "()V"⟩
abbrev cX3_next : ByteArray := prog_5_method_7_code
def yX3_next : MethodName := ⟨RX3, "next", "()I"⟩
abbrev cX3_isDigit : ByteArray := prog_5_method_8_code
def yX3_isDigit : MethodName := ⟨RX3, "isDigit", "(I)Z"⟩
abbrev cX3_nameOf : ByteArray := prog_5_method_9_code
def yX3_nameOf : MethodName := ⟨RX3, "nameOf", "(I)I"⟩
abbrev cX3_levelOf : ByteArray := prog_5_method_10_code
def yX3_levelOf : MethodName := ⟨RX3, "levelOf", "(I)I"⟩
def RX4 : String := "BronzeDown$Row"
def TX4 : u_T := fun k => match k with
  | 0 => ("BronzeDown$Row", "numbers", "[I", true)
  | _ => ("BronzeDown$Row", "size", "I", false)
def tyX4 : Nat → FieldType := fun k => match k with
  | 0 => .array .int
  | _ => .int
abbrev wsX40 : List Cond := u_ws RX4 TX4 2
theorem nmX4 : ∀ a, a < 2 → ∀ b, b < 2 → a ≠ b → (TX4 a).2.1 ≠ (TX4 b).2.1 := by decide +kernel
theorem tyX4_ok : ∀ k, k < 2 → parseFieldDescriptor (TX4 k).2.2.1 = some (tyX4 k) := by decide +kernel
abbrev cX4_init : ByteArray := prog_6_method_1_code
def yX4_init : MethodName := ⟨RX4, "<init>", "(I)V"⟩
abbrev cX4_has : ByteArray := prog_6_method_2_code
def yX4_has : MethodName := ⟨RX4, "has", "(I)Z"⟩
abbrev cX4_at : ByteArray := prog_6_method_3_code
def yX4_at : MethodName := ⟨RX4, "at", "(I)I"⟩
abbrev cX4_write : ByteArray := prog_6_method_4_code
def yX4_write : MethodName := ⟨RX4, "write", "(II)V"⟩
abbrev cX4_add : ByteArray := prog_6_method_5_code
def yX4_add : MethodName := ⟨RX4, "add", "(I)Z"⟩
abbrev cX4_clear : ByteArray := prog_6_method_6_code
def yX4_clear : MethodName := ⟨RX4, "clear", "()V"⟩
abbrev cX4_fillWithZeros : ByteArray := prog_6_method_7_code
def yX4_fillWithZeros : MethodName := ⟨RX4, "fillWithZeros", "(I)V"⟩
abbrev cX4_hasRun : ByteArray := prog_6_method_8_code
def yX4_hasRun : MethodName := ⟨RX4, "hasRun", "(II)Z"⟩
abbrev cX4_takeRun : ByteArray := prog_6_method_9_code
def yX4_takeRun : MethodName := ⟨RX4, "takeRun", "(LBronzeDown$Row;III)V"⟩
abbrev cX4_copyFrom : ByteArray := prog_6_method_10_code
def yX4_copyFrom : MethodName := ⟨RX4, "copyFrom", "(LBronzeDown$Row;)V"⟩
def RX5 : String := "BronzeDown$Sheet"
def TX5 : u_T := fun k => match k with
  | 0 => ("BronzeDown$Sheet", "row", "LBronzeDown$Row;", true)
  | _ => ("BronzeDown$Sheet", "bits", "I", false)
def tyX5 : Nat → FieldType := fun k => match k with
  | 0 => .object "BronzeDown$Row"
  | _ => .int
abbrev wsX50 : List Cond := u_ws RX5 TX5 2
theorem nmX5 : ∀ a, a < 2 → ∀ b, b < 2 → a ≠ b → (TX5 a).2.1 ≠ (TX5 b).2.1 := by decide +kernel
theorem tyX5_ok : ∀ k, k < 2 → parseFieldDescriptor (TX5 k).2.2.1 = some (tyX5 k) := by decide +kernel
abbrev cX5_init : ByteArray := prog_7_method_1_code
def yX5_init : MethodName := ⟨RX5, "<init>", "()V"⟩
abbrev cX5_areBits : ByteArray := prog_7_method_2_code
def yX5_areBits : MethodName := ⟨RX5, "areBits", "(I)Z"⟩
abbrev cX5_isMissing : ByteArray := prog_7_method_3_code
def yX5_isMissing : MethodName := ⟨RX5, "isMissing", "()Z"⟩
abbrev cX5_make : ByteArray := prog_7_method_4_code
def yX5_make : MethodName := ⟨RX5, "make", "(II)V"⟩
abbrev cX5_write : ByteArray := prog_7_method_5_code
def yX5_write : MethodName := ⟨RX5, "write", "(II)V"⟩
def RX6 : String := "BronzeDown$State"
def TX6 : u_T := fun k => match k with
  | 0 => ("BronzeDown$State", "course", "LBronzeDown$Course;", true)
  | 1 => ("BronzeDown$State", "grounds", "LBronzeDown$Grounds;", true)
  | 2 => ("BronzeDown$State", "tape", "LBronzeDown$Row;", true)
  | 3 => ("BronzeDown$State", "waiting", "LBronzeDown$Row;", true)
  | _ => ("BronzeDown$State", "z", "I", false)
def tyX6 : Nat → FieldType := fun k => match k with
  | 0 => .object "BronzeDown$Course"
  | 1 => .object "BronzeDown$Grounds"
  | 2 => .object "BronzeDown$Row"
  | 3 => .object "BronzeDown$Row"
  | _ => .int
abbrev wsX60 : List Cond := u_ws RX6 TX6 5
theorem nmX6 : ∀ a, a < 5 → ∀ b, b < 5 → a ≠ b → (TX6 a).2.1 ≠ (TX6 b).2.1 := by decide +kernel
theorem tyX6_ok : ∀ k, k < 5 → parseFieldDescriptor (TX6 k).2.2.1 = some (tyX6 k) := by decide +kernel
abbrev cX6_init : ByteArray := prog_8_method_1_code
def yX6_init : MethodName := ⟨RX6, "<init>", "()V"⟩
abbrev cX6_partOfFigure : ByteArray := prog_8_method_2_code
def yX6_partOfFigure : MethodName := ⟨RX6, "partOfFigure", "(I)I"⟩
abbrev cX6_setPartOfFigure : ByteArray := prog_8_method_3_code
def yX6_setPartOfFigure : MethodName := ⟨RX6, "setPartOfFigure", "(II)V"⟩
abbrev cX6_drawRain : ByteArray := prog_8_method_4_code
def yX6_drawRain : MethodName := ⟨RX6, "drawRain", "()V"⟩
abbrev cX6_draw : ByteArray := prog_8_method_5_code
def yX6_draw : MethodName := ⟨RX6, "draw", "()I"⟩
abbrev cX6_copyFrom : ByteArray := prog_8_method_6_code
def yX6_copyFrom : MethodName := ⟨RX6, "copyFrom", "(LBronzeDown$State;)V"⟩
def RX7 : String := "BronzeDown$Visitors"
def TX7 : u_T := fun k => match k with
  | 0 => ("BronzeDown$Visitors", "kind", "[I", true)
  | 1 => ("BronzeDown$Visitors", "m", "[I", true)
  | 2 => ("BronzeDown$Visitors", "loud", "[I", true)
  | 3 => ("BronzeDown$Visitors", "every", "[I", true)
  | 4 => ("BronzeDown$Visitors", "size", "I", false)
  | _ => ("BronzeDown$Visitors", "away", "I", false)
def tyX7 : Nat → FieldType := fun k => match k with
  | 0 => .array .int
  | 1 => .array .int
  | 2 => .array .int
  | 3 => .array .int
  | 4 => .int
  | _ => .int
abbrev wsX70 : List Cond := u_ws RX7 TX7 6
theorem nmX7 : ∀ a, a < 6 → ∀ b, b < 6 → a ≠ b → (TX7 a).2.1 ≠ (TX7 b).2.1 := by decide +kernel
theorem tyX7_ok : ∀ k, k < 6 → parseFieldDescriptor (TX7 k).2.2.1 = some (tyX7 k) := by decide +kernel
abbrev cX7_init : ByteArray := prog_9_method_1_code
def yX7_init : MethodName := ⟨RX7, "<init>", "()V"⟩
abbrev cX7_has : ByteArray := prog_9_method_2_code
def yX7_has : MethodName := ⟨RX7, "has", "(I)Z"⟩
abbrev cX7_add : ByteArray := prog_9_method_3_code
def yX7_add : MethodName := ⟨RX7, "add", "(III)I"⟩
abbrev cX7_kindAbove : ByteArray := prog_9_method_4_code
def yX7_kindAbove : MethodName := ⟨RX7, "kindAbove", "(I)I"⟩
abbrev cX7_isUnder : ByteArray := prog_9_method_5_code
def yX7_isUnder : MethodName := ⟨RX7, "isUnder", "(II)Z"⟩
abbrev cX7_comes : ByteArray := prog_9_method_6_code
def yX7_comes : MethodName := ⟨RX7, "comes", "(III)Z"⟩
abbrev cX7_keeps : ByteArray := prog_9_method_7_code
def yX7_keeps : MethodName := ⟨RX7, "keeps", "(III)I"⟩
abbrev cX7_loudOfAll : ByteArray := prog_9_method_8_code
def yX7_loudOfAll : MethodName := ⟨RX7, "loudOfAll", "()I"⟩
abbrev cX7_loudOf : ByteArray := prog_9_method_9_code
def yX7_loudOf : MethodName := ⟨RX7, "loudOf", "(I)I"⟩
abbrev cX7_ordersTippedBy : ByteArray := prog_9_method_10_code
def yX7_ordersTippedBy : MethodName := ⟨RX7, "ordersTippedBy", "(I)I"⟩
abbrev cX7_ordersOf : ByteArray := prog_9_method_11_code
def yX7_ordersOf : MethodName := ⟨RX7, "ordersOf", "(I)I"⟩
abbrev cX7_firstNotSoLoud : ByteArray := prog_9_method_12_code
def yX7_firstNotSoLoud : MethodName := ⟨RX7, "firstNotSoLoud", "(LBronzeDown$Row;)I"⟩
abbrev cX7_copyFrom : ByteArray := prog_9_method_13_code
def yX7_copyFrom : MethodName := ⟨RX7, "copyFrom", "(LBronzeDown$Visitors;)V"⟩
def RX8 : String := "BronzeDown$Voices"
def TX8 : u_T := fun k => match k with
  | 0 => ("BronzeDown$Voices", "bodies", "LBronzeDown$Row;", true)
  | 1 => ("BronzeDown$Voices", "number", "I", false)
  | 2 => ("BronzeDown$Voices", "kind", "I", false)
  | _ => ("BronzeDown$Voices", "m", "I", false)
def tyX8 : Nat → FieldType := fun k => match k with
  | 0 => .object "BronzeDown$Row"
  | 1 => .int
  | 2 => .int
  | _ => .int
abbrev wsX80 : List Cond := u_ws RX8 TX8 4
theorem nmX8 : ∀ a, a < 4 → ∀ b, b < 4 → a ≠ b → (TX8 a).2.1 ≠ (TX8 b).2.1 := by decide +kernel
theorem tyX8_ok : ∀ k, k < 4 → parseFieldDescriptor (TX8 k).2.2.1 = some (tyX8 k) := by decide +kernel
abbrev cX8_init : ByteArray := prog_10_method_1_code
def yX8_init : MethodName := ⟨RX8, "<init>", "()V"⟩
abbrev cX8_raise : ByteArray := prog_10_method_2_code
def yX8_raise : MethodName := ⟨RX8, "raise", "(IIIII)I"⟩
abbrev cX8_say : ByteArray := prog_10_method_3_code
def yX8_say : MethodName := ⟨RX8, "say", "(IIII)I"⟩
abbrev cX8_sayPlain : ByteArray := prog_10_method_4_code
def yX8_sayPlain : MethodName := ⟨RX8, "sayPlain", "(III)I"⟩
abbrev cX8_saySpecial : ByteArray := prog_10_method_5_code
def yX8_saySpecial : MethodName := ⟨RX8, "saySpecial", "(IIII)I"⟩
abbrev cX8_ownerOf : ByteArray := prog_10_method_6_code
def yX8_ownerOf : MethodName := ⟨RX8, "ownerOf", "(II)I"⟩
abbrev cX8_bodyOf : ByteArray := prog_10_method_7_code
def yX8_bodyOf : MethodName := ⟨RX8, "bodyOf", "(II)I"⟩
def RX9 : String := "BronzeDown"
def TX9 : u_T := fun k => match k with
  | 0 => ("BronzeDown", "now", "LBronzeDown$State;", true)
  | 1 => ("BronzeDown", "kept", "LBronzeDown$State;", true)
  | 2 => ("BronzeDown", "images", "I", false)
  | 3 => ("BronzeDown", "thought", "LBronzeDown$Course;", true)
  | 4 => ("BronzeDown", "sheets", "[LBronzeDown$Sheet;", true)
  | 5 => ("BronzeDown", "reader", "LBronzeDown$Reader;", true)
  | 6 => ("BronzeDown", "voices", "LBronzeDown$Voices;", true)
  | _ => ("BronzeDown", "errors", "[I", true)
def tyX9 : Nat → FieldType := fun k => match k with
  | 0 => .object "BronzeDown$State"
  | 1 => .object "BronzeDown$State"
  | 2 => .int
  | 3 => .object "BronzeDown$Course"
  | 4 => .array (.object "BronzeDown$Sheet")
  | 5 => .object "BronzeDown$Reader"
  | 6 => .object "BronzeDown$Voices"
  | _ => .array .int
abbrev wsX90 : List Cond := u_ws RX9 TX9 8
theorem nmX9 : ∀ a, a < 8 → ∀ b, b < 8 → a ≠ b → (TX9 a).2.1 ≠ (TX9 b).2.1 := by decide +kernel
theorem tyX9_ok : ∀ k, k < 8 → parseFieldDescriptor (TX9 k).2.2.1 = some (tyX9 k) := by decide +kernel
abbrev cX9_init : ByteArray := prog_1_method_1_code
def yX9_init : MethodName := ⟨RX9, "<init>", "()V"⟩
abbrev cX9_season : ByteArray := prog_1_method_2_code
def yX9_season : MethodName := ⟨RX9, "season", "(III)I"⟩
abbrev cX9_ofSeason : ByteArray := prog_1_method_3_code
def yX9_ofSeason : MethodName := ⟨RX9, "ofSeason", "(II)I"⟩
abbrev cX9_figure : ByteArray := prog_1_method_4_code
def yX9_figure : MethodName := ⟨RX9, "figure", "(II)I"⟩
abbrev cX9_ofFigure : ByteArray := prog_1_method_5_code
def yX9_ofFigure : MethodName := ⟨RX9, "ofFigure", "(I)I"⟩
abbrev cX9_step : ByteArray := prog_1_method_6_code
def yX9_step : MethodName := ⟨RX9, "step", "(III)I"⟩
abbrev cX9_ofStep : ByteArray := prog_1_method_7_code
def yX9_ofStep : MethodName := ⟨RX9, "ofStep", "(II)I"⟩
abbrev cX9_trees : ByteArray := prog_1_method_8_code
def yX9_trees : MethodName := ⟨RX9, "trees", "(II)I"⟩
abbrev cX9_visitor : ByteArray := prog_1_method_9_code
def yX9_visitor : MethodName := ⟨RX9, "visitor", "(III)I"⟩
abbrev cX9_ofVisitor : ByteArray := prog_1_method_10_code
def yX9_ofVisitor : MethodName := ⟨RX9, "ofVisitor", "(II)I"⟩
abbrev cX9_change : ByteArray := prog_1_method_11_code
def yX9_change : MethodName := ⟨RX9, "change", "(III)I"⟩
abbrev cX9_become : ByteArray := prog_1_method_12_code
def yX9_become : MethodName := ⟨RX9, "become", "(II)I"⟩
abbrev cX9_as : ByteArray := prog_1_method_13_code
def yX9_as : MethodName := ⟨RX9, "as", "(II)I"⟩
abbrev cX9_feed : ByteArray := prog_1_method_14_code
def yX9_feed : MethodName := ⟨RX9, "feed", "(JI)I"⟩
abbrev cX9_text : ByteArray := prog_1_method_15_code
def yX9_text : MethodName := ⟨RX9, "text", "(I)I"⟩
abbrev cX9_law : ByteArray := prog_1_method_16_code
def yX9_law : MethodName := ⟨RX9, "law", "(IIII)I"⟩
abbrev cX9_years : ByteArray := prog_1_method_17_code
def yX9_years : MethodName := ⟨RX9, "years", "(I)I"⟩
abbrev cX9_loose : ByteArray := prog_1_method_18_code
def yX9_loose : MethodName := ⟨RX9, "loose", "(I)I"⟩
abbrev cX9_then : ByteArray := prog_1_method_19_code
def yX9_then : MethodName := ⟨RX9, "then", "(II)I"⟩
abbrev cX9_falls : ByteArray := prog_1_method_20_code
def yX9_falls : MethodName := ⟨RX9, "falls", "()I"⟩
abbrev cX9_wet : ByteArray := prog_1_method_21_code
def yX9_wet : MethodName := ⟨RX9, "wet", "(II)I"⟩
abbrev cX9_loudFor : ByteArray := prog_1_method_22_code
def yX9_loudFor : MethodName := ⟨RX9, "loudFor", "(III)I"⟩
abbrev cX9_everyFor : ByteArray := prog_1_method_23_code
def yX9_everyFor : MethodName := ⟨RX9, "everyFor", "(II)I"⟩
abbrev cX9_needless : ByteArray := prog_1_method_24_code
def yX9_needless : MethodName := ⟨RX9, "needless", "(I)I"⟩
abbrev cX9_wanted : ByteArray := prog_1_method_25_code
def yX9_wanted : MethodName := ⟨RX9, "wanted", "(II)I"⟩
abbrev cX9_which : ByteArray := prog_1_method_26_code
def yX9_which : MethodName := ⟨RX9, "which", "(II)I"⟩
abbrev cX9_stair : ByteArray := prog_1_method_27_code
def yX9_stair : MethodName := ⟨RX9, "stair", "(I)I"⟩
abbrev cX9_exact : ByteArray := prog_1_method_28_code
def yX9_exact : MethodName := ⟨RX9, "exact", "()I"⟩
abbrev cX9_house : ByteArray := prog_1_method_29_code
def yX9_house : MethodName := ⟨RX9, "house", "(II)I"⟩
abbrev cX9_power : ByteArray := prog_1_method_30_code
def yX9_power : MethodName := ⟨RX9, "power", "(I)I"⟩
abbrev cX9_gait : ByteArray := prog_1_method_31_code
def yX9_gait : MethodName := ⟨RX9, "gait", "(I)I"⟩
abbrev cX9_odds : ByteArray := prog_1_method_32_code
def yX9_odds : MethodName := ⟨RX9, "odds", "(III)I"⟩
abbrev cX9_seed : ByteArray := prog_1_method_33_code
def yX9_seed : MethodName := ⟨RX9, "seed", "(I)I"⟩
abbrev cX9_voice : ByteArray := prog_1_method_34_code
def yX9_voice : MethodName := ⟨RX9, "voice", "(III)I"⟩
abbrev cX9_trace : ByteArray := prog_1_method_35_code
def yX9_trace : MethodName := ⟨RX9, "trace", "(I)I"⟩
abbrev cX9_sheet : ByteArray := prog_1_method_36_code
def yX9_sheet : MethodName := ⟨RX9, "sheet", "(III)I"⟩
abbrev cX9_put : ByteArray := prog_1_method_37_code
def yX9_put : MethodName := ⟨RX9, "put", "(III)I"⟩
abbrev cX9_move : ByteArray := prog_1_method_38_code
def yX9_move : MethodName := ⟨RX9, "move", "(IIIII)I"⟩
abbrev cX9_talls : ByteArray := prog_1_method_39_code
def yX9_talls : MethodName := ⟨RX9, "talls", "(I)I"⟩
abbrev cX9_judge : ByteArray := prog_1_method_40_code
def yX9_judge : MethodName := ⟨RX9, "judge", "(I)I"⟩
abbrev cX9_image : ByteArray := prog_1_method_41_code
def yX9_image : MethodName := ⟨RX9, "image", "()I"⟩
abbrev cX9_restore : ByteArray := prog_1_method_42_code
def yX9_restore : MethodName := ⟨RX9, "restore", "()I"⟩
abbrev cX9_tell : ByteArray := prog_1_method_43_code
def yX9_tell : MethodName := ⟨RX9, "tell", "(I)I"⟩
abbrev cX9_check : ByteArray := prog_1_method_44_code
def yX9_check : MethodName := ⟨RX9, "check", "()I"⟩
abbrev cX9_count : ByteArray := prog_1_method_45_code
def yX9_count : MethodName := ⟨RX9, "count", "(I)I"⟩
abbrev cX9_told : ByteArray := prog_1_method_46_code
def yX9_told : MethodName := ⟨RX9, "told", "(I)I"⟩
abbrev cX9_fails : ByteArray := prog_1_method_47_code
def yX9_fails : MethodName := ⟨RX9, "fails", "(I)I"⟩
abbrev cX9_within : ByteArray := prog_1_method_48_code
def yX9_within : MethodName := ⟨RX9, "within", "(III)Z"⟩
abbrev cX9_isPlace : ByteArray := prog_1_method_49_code
def yX9_isPlace : MethodName := ⟨RX9, "isPlace", "(I[I)Z"⟩
abbrev cX9_inLowestTerms : ByteArray := prog_1_method_50_code
def yX9_inLowestTerms : MethodName := ⟨RX9, "inLowestTerms", "(III)I"⟩
abbrev cX9_sheetOf : ByteArray := prog_1_method_51_code
def yX9_sheetOf : MethodName := ⟨RX9, "sheetOf", "(I)LBronzeDown$Sheet;"⟩
abbrev cX9_thinkAfresh : ByteArray := prog_1_method_52_code
def yX9_thinkAfresh : MethodName := ⟨RX9, "thinkAfresh", "()V"⟩
abbrev cX9_firstUnlike : ByteArray := prog_1_method_53_code
def yX9_firstUnlike : MethodName := ⟨RX9, "firstUnlike", "(LBronzeDown$Row;)I"⟩
def RX10 : String := "BronzeDownModel"
def TX10 : u_T := fun k => match k with
  | 0 => ("BronzeDownModel", "row", "[I", true)
  | 1 => ("BronzeDownModel", "kept", "[I", true)
  | 2 => ("BronzeDownModel", "tried", "[I", true)
  | 3 => ("BronzeDownModel", "before", "[I", true)
  | 4 => ("BronzeDownModel", "isKept", "Z", false)
  | 5 => ("BronzeDownModel", "images", "I", false)
  | 6 => ("BronzeDownModel", "found", "[I", true)
  | 7 => ("BronzeDownModel", "away", "I", false)
  | 8 => ("BronzeDownModel", "use", "I", false)
  | 9 => ("BronzeDownModel", "at", "I", false)
  | 10 => ("BronzeDownModel", "end", "I", false)
  | 11 => ("BronzeDownModel", "open", "I", false)
  | 12 => ("BronzeDownModel", "namedA", "I", false)
  | 13 => ("BronzeDownModel", "namedB", "I", false)
  | 14 => ("BronzeDownModel", "namedC", "I", false)
  | 15 => ("BronzeDownModel", "good", "Z", false)
  | 16 => ("BronzeDownModel", "bitsOf", "[I", true)
  | 17 => ("BronzeDownModel", "sizeOf", "[I", true)
  | 18 => ("BronzeDownModel", "sheets", "[I", true)
  | 19 => ("BronzeDownModel", "moved", "[I", true)
  | 20 => ("BronzeDownModel", "ways", "[I", true)
  | 21 => ("BronzeDownModel", "waysThen", "[I", true)
  | 22 => ("BronzeDownModel", "traced", "[I", true)
  | 23 => ("BronzeDownModel", "tracedMany", "I", false)
  | 24 => ("BronzeDownModel", "voiceKind", "I", false)
  | 25 => ("BronzeDownModel", "voiceN", "I", false)
  | _ => ("BronzeDownModel", "voiceM", "I", false)
def tyX10 : Nat → FieldType := fun k => match k with
  | 0 => .array .int
  | 1 => .array .int
  | 2 => .array .int
  | 3 => .array .int
  | 4 => .boolean
  | 5 => .int
  | 6 => .array .int
  | 7 => .int
  | 8 => .int
  | 9 => .int
  | 10 => .int
  | 11 => .int
  | 12 => .int
  | 13 => .int
  | 14 => .int
  | 15 => .boolean
  | 16 => .array .int
  | 17 => .array .int
  | 18 => .array .int
  | 19 => .array .int
  | 20 => .array .int
  | 21 => .array .int
  | 22 => .array .int
  | 23 => .int
  | 24 => .int
  | 25 => .int
  | _ => .int
abbrev wsX100 : List Cond := u_ws RX10 TX10 27
theorem nmX10 : ∀ a, a < 27 → ∀ b, b < 27 → a ≠ b → (TX10 a).2.1 ≠ (TX10 b).2.1 := by decide +kernel
theorem tyX10_ok : ∀ k, k < 27 → parseFieldDescriptor (TX10 k).2.2.1 = some (tyX10 k) := by decide +kernel
abbrev cX10_init : ByteArray := prog_12_method_1_code
def yX10_init : MethodName := ⟨RX10, "<init>", "()V"⟩
abbrev cX10_in : ByteArray := prog_12_method_2_code
def yX10_in : MethodName := ⟨RX10, "in", "(III)Z"⟩
abbrev cX10_errs : ByteArray := prog_12_method_3_code
def yX10_errs : MethodName := ⟨RX10, "errs", "(I)I"⟩
abbrev cX10_held : ByteArray := prog_12_method_4_code
def yX10_held : MethodName := ⟨RX10, "held", "(III)I"⟩
abbrev cX10_moveAll : ByteArray := prog_12_method_5_code
def yX10_moveAll : MethodName := ⟨RX10, "moveAll", "([I[I)V"⟩
abbrev cX10_ones : ByteArray := prog_12_method_6_code
def yX10_ones : MethodName := ⟨RX10, "ones", "(I)I"⟩
abbrev cX10_its : ByteArray := prog_12_method_7_code
def yX10_its : MethodName := ⟨RX10, "its", "(II)I"⟩
abbrev cX10_puts : ByteArray := prog_12_method_8_code
def yX10_puts : MethodName := ⟨RX10, "puts", "(III)V"⟩
abbrev cX10_isVisitor : ByteArray := prog_12_method_9_code
def yX10_isVisitor : MethodName := ⟨RX10, "isVisitor", "(I)Z"⟩
abbrev cX10_becomes : ByteArray := prog_12_method_10_code
def yX10_becomes : MethodName := ⟨RX10, "becomes", "(II)I"⟩
abbrev cX10_season : ByteArray := prog_12_method_11_code
def yX10_season : MethodName := ⟨RX10, "season", "(III)I"⟩
abbrev cX10_ofSeason : ByteArray := prog_12_method_12_code
def yX10_ofSeason : MethodName := ⟨RX10, "ofSeason", "(II)I"⟩
abbrev cX10_mostOf : ByteArray := prog_12_method_13_code
def yX10_mostOf : MethodName := ⟨RX10, "mostOf", "(I)I"⟩
abbrev cX10_figure : ByteArray := prog_12_method_14_code
def yX10_figure : MethodName := ⟨RX10, "figure", "(II)I"⟩
abbrev cX10_weight : ByteArray := prog_12_method_15_code
def yX10_weight : MethodName := ⟨RX10, "weight", "()I"⟩
abbrev cX10_isGood : ByteArray := prog_12_method_16_code
def yX10_isGood : MethodName := ⟨RX10, "isGood", "(I)Z"⟩
abbrev cX10_step : ByteArray := prog_12_method_17_code
def yX10_step : MethodName := ⟨RX10, "step", "(III)I"⟩
abbrev cX10_ofStep : ByteArray := prog_12_method_18_code
def yX10_ofStep : MethodName := ⟨RX10, "ofStep", "(II)I"⟩
abbrev cX10_trees : ByteArray := prog_12_method_19_code
def yX10_trees : MethodName := ⟨RX10, "trees", "(II)I"⟩
abbrev cX10_visitor : ByteArray := prog_12_method_20_code
def yX10_visitor : MethodName := ⟨RX10, "visitor", "(III)I"⟩
abbrev cX10_ofVisitor : ByteArray := prog_12_method_21_code
def yX10_ofVisitor : MethodName := ⟨RX10, "ofVisitor", "(II)I"⟩
abbrev cX10_change : ByteArray := prog_12_method_22_code
def yX10_change : MethodName := ⟨RX10, "change", "(III)I"⟩
abbrev cX10_become : ByteArray := prog_12_method_23_code
def yX10_become : MethodName := ⟨RX10, "become", "(II)I"⟩
abbrev cX10_above : ByteArray := prog_12_method_24_code
def yX10_above : MethodName := ⟨RX10, "above", "(I)I"⟩
abbrev cX10_as : ByteArray := prog_12_method_25_code
def yX10_as : MethodName := ⟨RX10, "as", "(II)I"⟩
abbrev cX10_byteAt : ByteArray := prog_12_method_26_code
def yX10_byteAt : MethodName := ⟨RX10, "byteAt", "(I)I"⟩
abbrev cX10_isDigit : ByteArray := prog_12_method_27_code
def yX10_isDigit : MethodName := ⟨RX10, "isDigit", "(I)Z"⟩
abbrev cX10_fails : ByteArray := prog_12_method_28_code
def yX10_fails : MethodName := ⟨RX10, "fails", "()I"⟩
abbrev cX10_number : ByteArray := prog_12_method_29_code
def yX10_number : MethodName := ⟨RX10, "number", "()I"⟩
abbrev cX10_named : ByteArray := prog_12_method_30_code
def yX10_named : MethodName := ⟨RX10, "named", "(I)I"⟩
abbrev cX10_factor : ByteArray := prog_12_method_31_code
def yX10_factor : MethodName := ⟨RX10, "factor", "()I"⟩
abbrev cX10_product : ByteArray := prog_12_method_32_code
def yX10_product : MethodName := ⟨RX10, "product", "()I"⟩
abbrev cX10_sum : ByteArray := prog_12_method_33_code
def yX10_sum : MethodName := ⟨RX10, "sum", "()I"⟩
abbrev cX10_compared : ByteArray := prog_12_method_34_code
def yX10_compared : MethodName := ⟨RX10, "compared", "()I"⟩
abbrev cX10_both : ByteArray := prog_12_method_35_code
def yX10_both : MethodName := ⟨RX10, "both", "()I"⟩
abbrev cX10_whole : ByteArray := prog_12_method_36_code
def yX10_whole : MethodName := ⟨RX10, "whole", "()I"⟩
abbrev cX10_walks : ByteArray := prog_12_method_37_code
def yX10_walks : MethodName := ⟨RX10, "walks", "(IIII)I"⟩
abbrev cX10_lawOf : ByteArray := prog_12_method_38_code
def yX10_lawOf : MethodName := ⟨RX10, "lawOf", "(IIII)I"⟩
abbrev cX10_law : ByteArray := prog_12_method_39_code
def yX10_law : MethodName := ⟨RX10, "law", "(IIII)I"⟩
abbrev cX10_feed : ByteArray := prog_12_method_40_code
def yX10_feed : MethodName := ⟨RX10, "feed", "(JI)I"⟩
abbrev cX10_text : ByteArray := prog_12_method_41_code
def yX10_text : MethodName := ⟨RX10, "text", "(I)I"⟩
abbrev cX10_heat : ByteArray := prog_12_method_42_code
def yX10_heat : MethodName := ⟨RX10, "heat", "()I"⟩
abbrev cX10_rain : ByteArray := prog_12_method_43_code
def yX10_rain : MethodName := ⟨RX10, "rain", "()I"⟩
abbrev cX10_isComing : ByteArray := prog_12_method_44_code
def yX10_isComing : MethodName := ⟨RX10, "isComing", "(I)Z"⟩
abbrev cX10_keeps : ByteArray := prog_12_method_45_code
def yX10_keeps : MethodName := ⟨RX10, "keeps", "(I)I"⟩
abbrev cX10_yearns : ByteArray := prog_12_method_46_code
def yX10_yearns : MethodName := ⟨RX10, "yearns", "()I"⟩
abbrev cX10_shifts : ByteArray := prog_12_method_47_code
def yX10_shifts : MethodName := ⟨RX10, "shifts", "()I"⟩
abbrev cX10_ofFigure : ByteArray := prog_12_method_48_code
def yX10_ofFigure : MethodName := ⟨RX10, "ofFigure", "(I)I"⟩
abbrev cX10_oneYear : ByteArray := prog_12_method_49_code
def yX10_oneYear : MethodName := ⟨RX10, "oneYear", "()V"⟩
abbrev cX10_passes : ByteArray := prog_12_method_50_code
def yX10_passes : MethodName := ⟨RX10, "passes", "(I)V"⟩
abbrev cX10_years : ByteArray := prog_12_method_51_code
def yX10_years : MethodName := ⟨RX10, "years", "(I)I"⟩
abbrev cX10_drawn : ByteArray := prog_12_method_52_code
def yX10_drawn : MethodName := ⟨RX10, "drawn", "()I"⟩
abbrev cX10_loose : ByteArray := prog_12_method_53_code
def yX10_loose : MethodName := ⟨RX10, "loose", "(I)I"⟩
abbrev cX10_behind : ByteArray := prog_12_method_54_code
def yX10_behind : MethodName := ⟨RX10, "behind", "(II)I"⟩
abbrev cX10_then : ByteArray := prog_12_method_55_code
def yX10_then : MethodName := ⟨RX10, "then", "(II)I"⟩
abbrev cX10_falls : ByteArray := prog_12_method_56_code
def yX10_falls : MethodName := ⟨RX10, "falls", "()I"⟩
abbrev cX10_wet : ByteArray := prog_12_method_57_code
def yX10_wet : MethodName := ⟨RX10, "wet", "(II)I"⟩
abbrev cX10_loudFor : ByteArray := prog_12_method_58_code
def yX10_loudFor : MethodName := ⟨RX10, "loudFor", "(III)I"⟩
abbrev cX10_everyFor : ByteArray := prog_12_method_59_code
def yX10_everyFor : MethodName := ⟨RX10, "everyFor", "(II)I"⟩
abbrev cX10_needless : ByteArray := prog_12_method_60_code
def yX10_needless : MethodName := ⟨RX10, "needless", "(I)I"⟩
abbrev cX10_isSheet : ByteArray := prog_12_method_61_code
def yX10_isSheet : MethodName := ⟨RX10, "isSheet", "(I)Z"⟩
abbrev cX10_leansSo : ByteArray := prog_12_method_62_code
def yX10_leansSo : MethodName := ⟨RX10, "leansSo", "(I)Z"⟩
abbrev cX10_wanted : ByteArray := prog_12_method_63_code
def yX10_wanted : MethodName := ⟨RX10, "wanted", "(II)I"⟩
abbrev cX10_which : ByteArray := prog_12_method_64_code
def yX10_which : MethodName := ⟨RX10, "which", "(II)I"⟩
abbrev cX10_goodSet : ByteArray := prog_12_method_65_code
def yX10_goodSet : MethodName := ⟨RX10, "goodSet", "()I"⟩
abbrev cX10_tallOf : ByteArray := prog_12_method_66_code
def yX10_tallOf : MethodName := ⟨RX10, "tallOf", "(I)I"⟩
abbrev cX10_stair : ByteArray := prog_12_method_67_code
def yX10_stair : MethodName := ⟨RX10, "stair", "(I)I"⟩
abbrev cX10_exact : ByteArray := prog_12_method_68_code
def yX10_exact : MethodName := ⟨RX10, "exact", "()I"⟩
abbrev cX10_tree : ByteArray := prog_12_method_69_code
def yX10_tree : MethodName := ⟨RX10, "tree", "(II)I"⟩
abbrev cX10_treesBy : ByteArray := prog_12_method_70_code
def yX10_treesBy : MethodName := ⟨RX10, "treesBy", "(III)I"⟩
abbrev cX10_isThere : ByteArray := prog_12_method_71_code
def yX10_isThere : MethodName := ⟨RX10, "isThere", "(II)Z"⟩
abbrev cX10_house : ByteArray := prog_12_method_72_code
def yX10_house : MethodName := ⟨RX10, "house", "(II)I"⟩
abbrev cX10_loudOf : ByteArray := prog_12_method_73_code
def yX10_loudOf : MethodName := ⟨RX10, "loudOf", "(I)I"⟩
abbrev cX10_orders : ByteArray := prog_12_method_74_code
def yX10_orders : MethodName := ⟨RX10, "orders", "(I)I"⟩
abbrev cX10_power : ByteArray := prog_12_method_75_code
def yX10_power : MethodName := ⟨RX10, "power", "(I)I"⟩
abbrev cX10_stands : ByteArray := prog_12_method_76_code
def yX10_stands : MethodName := ⟨RX10, "stands", "(I)Z"⟩
abbrev cX10_gait : ByteArray := prog_12_method_77_code
def yX10_gait : MethodName := ⟨RX10, "gait", "(I)I"⟩
abbrev cX10_odds : ByteArray := prog_12_method_78_code
def yX10_odds : MethodName := ⟨RX10, "odds", "(III)I"⟩
abbrev cX10_seed : ByteArray := prog_12_method_79_code
def yX10_seed : MethodName := ⟨RX10, "seed", "(I)I"⟩
abbrev cX10_ran : ByteArray := prog_12_method_80_code
def yX10_ran : MethodName := ⟨RX10, "ran", "(I)V"⟩
abbrev cX10_callsIn : ByteArray := prog_12_method_81_code
def yX10_callsIn : MethodName := ⟨RX10, "callsIn", "(II)I"⟩
abbrev cX10_nodsIn : ByteArray := prog_12_method_82_code
def yX10_nodsIn : MethodName := ⟨RX10, "nodsIn", "(II)I"⟩
abbrev cX10_holdsIn : ByteArray := prog_12_method_83_code
def yX10_holdsIn : MethodName := ⟨RX10, "holdsIn", "(II)I"⟩
abbrev cX10_tellsIn : ByteArray := prog_12_method_84_code
def yX10_tellsIn : MethodName := ⟨RX10, "tellsIn", "(II)I"⟩
abbrev cX10_voice : ByteArray := prog_12_method_85_code
def yX10_voice : MethodName := ⟨RX10, "voice", "(III)I"⟩
abbrev cX10_trace : ByteArray := prog_12_method_86_code
def yX10_trace : MethodName := ⟨RX10, "trace", "(I)I"⟩
abbrev cX10_narrow : ByteArray := prog_12_method_87_code
def yX10_narrow : MethodName := ⟨RX10, "narrow", "(II)I"⟩
abbrev cX10_sheet : ByteArray := prog_12_method_88_code
def yX10_sheet : MethodName := ⟨RX10, "sheet", "(III)I"⟩
abbrev cX10_put : ByteArray := prog_12_method_89_code
def yX10_put : MethodName := ⟨RX10, "put", "(III)I"⟩
abbrev cX10_move : ByteArray := prog_12_method_90_code
def yX10_move : MethodName := ⟨RX10, "move", "(IIIII)I"⟩
abbrev cX10_talls : ByteArray := prog_12_method_91_code
def yX10_talls : MethodName := ⟨RX10, "talls", "(I)I"⟩
abbrev cX10_judge : ByteArray := prog_12_method_92_code
def yX10_judge : MethodName := ⟨RX10, "judge", "(I)I"⟩
abbrev cX10_image : ByteArray := prog_12_method_93_code
def yX10_image : MethodName := ⟨RX10, "image", "()I"⟩
abbrev cX10_restore : ByteArray := prog_12_method_94_code
def yX10_restore : MethodName := ⟨RX10, "restore", "()I"⟩
abbrev cX10_tell : ByteArray := prog_12_method_95_code
def yX10_tell : MethodName := ⟨RX10, "tell", "(I)I"⟩
abbrev cX10_check : ByteArray := prog_12_method_96_code
def yX10_check : MethodName := ⟨RX10, "check", "()I"⟩
abbrev cX10_sumOfTrees : ByteArray := prog_12_method_97_code
def yX10_sumOfTrees : MethodName := ⟨RX10, "sumOfTrees", "()I"⟩
abbrev cX10_count : ByteArray := prog_12_method_98_code
def yX10_count : MethodName := ⟨RX10, "count", "(I)I"⟩
abbrev cX10_told : ByteArray := prog_12_method_99_code
def yX10_told : MethodName := ⟨RX10, "told", "(I)I"⟩
abbrev vwCl : List vw_C := [(RX0, TX0, 9), (RX1, TX1, 7), (RX2, TX2, 3), (RX3, TX3, 5), (RX4, TX4, 2), (RX5, TX5, 2), (RX6, TX6, 5), (RX7, TX7, 6), (RX8, TX8, 4), (RX9, TX9, 8), (RX10, TX10, 27)]
abbrev cJ_bitCount : ByteArray := prog_13_method_49_code
def yJ_bitCount : MethodName := ⟨"java/lang/Integer", "bitCount", "(I)I"⟩
abbrev cJ_floorMod : ByteArray := prog_14_method_50_code
def yJ_floorMod : MethodName := ⟨"java/lang/Math", "floorMod", "(II)I"⟩
abbrev cJ_max : ByteArray := prog_14_method_65_code
def yJ_max : MethodName := ⟨"java/lang/Math", "max", "(II)I"⟩
abbrev cJ_min : ByteArray := prog_14_method_69_code
def yJ_min : MethodName := ⟨"java/lang/Math", "min", "(II)I"⟩
def bzNest : Cond → Bool
  | .fieldLinkNest .. => true
  | .methodLinkNest .. => true
  | _ => false
def GW : List Cond := lw_tbl.filter goodWord
def NW : List Cond := lw_tbl.filter bzNest
theorem bz_gw0 {i : Nat} {w : Cond} (h : (k2_sels lw_privs)[i]? = some w) (hg : goodWord w = true) : w ∈ GW := List.mem_filter.mpr ⟨List.mem_append_left _ (List.mem_of_getElem? h), hg⟩
theorem bz_in1 {w : Cond} (h : w ∈ tables_1_1) : w ∈ lw_tbl := List.mem_append_right _ (List.mem_append_left _ h)
theorem bz_gw1 {i : Nat} {w : Cond} (h : tables_1_1[i]? = some w) (hg : goodWord w = true) : w ∈ GW := List.mem_filter.mpr ⟨bz_in1 (List.mem_of_getElem? h), hg⟩
theorem bz_nw1 {i : Nat} {w : Cond} (h : tables_1_1[i]? = some w) (hg : bzNest w = true) : w ∈ NW := List.mem_filter.mpr ⟨bz_in1 (List.mem_of_getElem? h), hg⟩
theorem bz_in2 {w : Cond} (h : w ∈ tables_1_2) : w ∈ lw_tbl := List.mem_append_right _ (List.mem_append_right _ (List.mem_append_left _ h))
theorem bz_gw2 {i : Nat} {w : Cond} (h : tables_1_2[i]? = some w) (hg : goodWord w = true) : w ∈ GW := List.mem_filter.mpr ⟨bz_in2 (List.mem_of_getElem? h), hg⟩
theorem bz_nw2 {i : Nat} {w : Cond} (h : tables_1_2[i]? = some w) (hg : bzNest w = true) : w ∈ NW := List.mem_filter.mpr ⟨bz_in2 (List.mem_of_getElem? h), hg⟩
theorem bz_in3 {w : Cond} (h : w ∈ tables_1_3) : w ∈ lw_tbl := List.mem_append_right _ (List.mem_append_right _ (List.mem_append_right _ (List.mem_append_left _ h)))
theorem bz_gw3 {i : Nat} {w : Cond} (h : tables_1_3[i]? = some w) (hg : goodWord w = true) : w ∈ GW := List.mem_filter.mpr ⟨bz_in3 (List.mem_of_getElem? h), hg⟩
theorem bz_nw3 {i : Nat} {w : Cond} (h : tables_1_3[i]? = some w) (hg : bzNest w = true) : w ∈ NW := List.mem_filter.mpr ⟨bz_in3 (List.mem_of_getElem? h), hg⟩
theorem bz_in4 {w : Cond} (h : w ∈ tables_1_4) : w ∈ lw_tbl := List.mem_append_right _ (List.mem_append_right _ (List.mem_append_right _ (List.mem_append_right _ (List.mem_append_left _ h))))
theorem bz_gw4 {i : Nat} {w : Cond} (h : tables_1_4[i]? = some w) (hg : goodWord w = true) : w ∈ GW := List.mem_filter.mpr ⟨bz_in4 (List.mem_of_getElem? h), hg⟩
theorem bz_nw4 {i : Nat} {w : Cond} (h : tables_1_4[i]? = some w) (hg : bzNest w = true) : w ∈ NW := List.mem_filter.mpr ⟨bz_in4 (List.mem_of_getElem? h), hg⟩
theorem bz_in5 {w : Cond} (h : w ∈ tables_1_5) : w ∈ lw_tbl := List.mem_append_right _ (List.mem_append_right _ (List.mem_append_right _ (List.mem_append_right _ (List.mem_append_right _ (List.mem_append_left _ h)))))
theorem bz_gw5 {i : Nat} {w : Cond} (h : tables_1_5[i]? = some w) (hg : goodWord w = true) : w ∈ GW := List.mem_filter.mpr ⟨bz_in5 (List.mem_of_getElem? h), hg⟩
theorem bz_nw5 {i : Nat} {w : Cond} (h : tables_1_5[i]? = some w) (hg : bzNest w = true) : w ∈ NW := List.mem_filter.mpr ⟨bz_in5 (List.mem_of_getElem? h), hg⟩
theorem bz_in6 {w : Cond} (h : w ∈ tables_1_6) : w ∈ lw_tbl := List.mem_append_right _ (List.mem_append_right _ (List.mem_append_right _ (List.mem_append_right _ (List.mem_append_right _ (List.mem_append_right _ (h))))))
theorem bz_gw6 {i : Nat} {w : Cond} (h : tables_1_6[i]? = some w) (hg : goodWord w = true) : w ∈ GW := List.mem_filter.mpr ⟨bz_in6 (List.mem_of_getElem? h), hg⟩
theorem bz_nw6 {i : Nat} {w : Cond} (h : tables_1_6[i]? = some w) (hg : bzNest w = true) : w ∈ NW := List.mem_filter.mpr ⟨bz_in6 (List.mem_of_getElem? h), hg⟩
theorem bz_all : GoodIn GW GW := fun w h => ⟨h, good_of_word (List.mem_filter.mp h).2⟩
theorem inW0 : ∀ w ∈ u_ws RX0 TX0 9, w ∈ GW := by
  intro w hw
  obtain ⟨k, hk, rfl⟩ := List.mem_map.mp hw
  have hk := List.mem_range.mp hk
  have key : ∀ k, k < 9 → u_lay RX0 TX0 k ∈ lw_tbl ∧ goodWord (u_lay RX0 TX0 k) = true := by decide +kernel
  exact List.mem_filter.mpr (key k hk)
theorem inW1 : ∀ w ∈ u_ws RX1 TX1 7, w ∈ GW := by
  intro w hw
  obtain ⟨k, hk, rfl⟩ := List.mem_map.mp hw
  have hk := List.mem_range.mp hk
  have key : ∀ k, k < 7 → u_lay RX1 TX1 k ∈ lw_tbl ∧ goodWord (u_lay RX1 TX1 k) = true := by decide +kernel
  exact List.mem_filter.mpr (key k hk)
theorem inW2 : ∀ w ∈ u_ws RX2 TX2 3, w ∈ GW := by
  intro w hw
  obtain ⟨k, hk, rfl⟩ := List.mem_map.mp hw
  have hk := List.mem_range.mp hk
  have key : ∀ k, k < 3 → u_lay RX2 TX2 k ∈ lw_tbl ∧ goodWord (u_lay RX2 TX2 k) = true := by decide +kernel
  exact List.mem_filter.mpr (key k hk)
theorem inW3 : ∀ w ∈ u_ws RX3 TX3 5, w ∈ GW := by
  intro w hw
  obtain ⟨k, hk, rfl⟩ := List.mem_map.mp hw
  have hk := List.mem_range.mp hk
  have key : ∀ k, k < 5 → u_lay RX3 TX3 k ∈ lw_tbl ∧ goodWord (u_lay RX3 TX3 k) = true := by decide +kernel
  exact List.mem_filter.mpr (key k hk)
theorem inW4 : ∀ w ∈ u_ws RX4 TX4 2, w ∈ GW := by
  intro w hw
  obtain ⟨k, hk, rfl⟩ := List.mem_map.mp hw
  have hk := List.mem_range.mp hk
  have key : ∀ k, k < 2 → u_lay RX4 TX4 k ∈ lw_tbl ∧ goodWord (u_lay RX4 TX4 k) = true := by decide +kernel
  exact List.mem_filter.mpr (key k hk)
theorem inW5 : ∀ w ∈ u_ws RX5 TX5 2, w ∈ GW := by
  intro w hw
  obtain ⟨k, hk, rfl⟩ := List.mem_map.mp hw
  have hk := List.mem_range.mp hk
  have key : ∀ k, k < 2 → u_lay RX5 TX5 k ∈ lw_tbl ∧ goodWord (u_lay RX5 TX5 k) = true := by decide +kernel
  exact List.mem_filter.mpr (key k hk)
theorem inW6 : ∀ w ∈ u_ws RX6 TX6 5, w ∈ GW := by
  intro w hw
  obtain ⟨k, hk, rfl⟩ := List.mem_map.mp hw
  have hk := List.mem_range.mp hk
  have key : ∀ k, k < 5 → u_lay RX6 TX6 k ∈ lw_tbl ∧ goodWord (u_lay RX6 TX6 k) = true := by decide +kernel
  exact List.mem_filter.mpr (key k hk)
theorem inW7 : ∀ w ∈ u_ws RX7 TX7 6, w ∈ GW := by
  intro w hw
  obtain ⟨k, hk, rfl⟩ := List.mem_map.mp hw
  have hk := List.mem_range.mp hk
  have key : ∀ k, k < 6 → u_lay RX7 TX7 k ∈ lw_tbl ∧ goodWord (u_lay RX7 TX7 k) = true := by decide +kernel
  exact List.mem_filter.mpr (key k hk)
theorem inW8 : ∀ w ∈ u_ws RX8 TX8 4, w ∈ GW := by
  intro w hw
  obtain ⟨k, hk, rfl⟩ := List.mem_map.mp hw
  have hk := List.mem_range.mp hk
  have key : ∀ k, k < 4 → u_lay RX8 TX8 k ∈ lw_tbl ∧ goodWord (u_lay RX8 TX8 k) = true := by decide +kernel
  exact List.mem_filter.mpr (key k hk)
theorem inW9 : ∀ w ∈ u_ws RX9 TX9 8, w ∈ GW := by
  intro w hw
  obtain ⟨k, hk, rfl⟩ := List.mem_map.mp hw
  have hk := List.mem_range.mp hk
  have key : ∀ k, k < 8 → u_lay RX9 TX9 k ∈ lw_tbl ∧ goodWord (u_lay RX9 TX9 k) = true := by decide +kernel
  exact List.mem_filter.mpr (key k hk)
theorem inW10 : ∀ w ∈ u_ws RX10 TX10 27, w ∈ GW := by
  intro w hw
  obtain ⟨k, hk, rfl⟩ := List.mem_map.mp hw
  have hk := List.mem_range.mp hk
  have key : ∀ k, k < 27 → u_lay RX10 TX10 k ∈ lw_tbl ∧ goodWord (u_lay RX10 TX10 k) = true := by decide +kernel
  exact List.mem_filter.mpr (key k hk)
