section
-- ===== PART A: goes FIRST, ahead of the names: the tables' words, and 'selects' of the private methods out of them =====
/-- a private method of a class that the tables say can be made, by its rows of tables_1 -/
def lw_okq (q : MethodName × Nat) : Prop := (q.1.cls ≠ "java/lang/invoke/MethodHandle" ∧ q.1.cls ≠ "java/lang/invoke/VarHandle") ∧ Cond.instantiable q.1.cls q.2 ∈ tables_1 ∧ Cond.privateMethod q.1 ∈ tables_1 ∧ Cond.instanceMethod q.1 ∈ tables_1
theorem lw_p0 : lw_okq (⟨"TakerBook", "refuse", "(I)I"⟩, 15) := ⟨⟨by decide +kernel, by decide +kernel⟩, List.mem_of_getElem? (i := 18) (by decide +kernel), List.mem_of_getElem? (i := 336) (by decide +kernel), List.mem_of_getElem? (i := 337) (by decide +kernel)⟩
theorem lw_p1 : lw_okq (⟨"TakerBook", "refusedPlace", "(II)I"⟩, 15) := ⟨⟨by decide +kernel, by decide +kernel⟩, List.mem_of_getElem? (i := 18) (by decide +kernel), List.mem_of_getElem? (i := 344) (by decide +kernel), List.mem_of_getElem? (i := 345) (by decide +kernel)⟩
theorem lw_p2 : lw_okq (⟨"TakerBook", "refusedRow", "(I)I"⟩, 15) := ⟨⟨by decide +kernel, by decide +kernel⟩, List.mem_of_getElem? (i := 18) (by decide +kernel), List.mem_of_getElem? (i := 348) (by decide +kernel), List.mem_of_getElem? (i := 349) (by decide +kernel)⟩
theorem lw_p3 : lw_okq (⟨"TakerBook", "refusedText", "(I)I"⟩, 15) := ⟨⟨by decide +kernel, by decide +kernel⟩, List.mem_of_getElem? (i := 18) (by decide +kernel), List.mem_of_getElem? (i := 385) (by decide +kernel), List.mem_of_getElem? (i := 386) (by decide +kernel)⟩
theorem lw_p4 : lw_okq (⟨"TakerBook$Reader", "skipBlanks", "([BI)V"⟩, 5) := ⟨⟨by decide +kernel, by decide +kernel⟩, List.mem_of_getElem? (i := 30) (by decide +kernel), List.mem_of_getElem? (i := 397) (by decide +kernel), List.mem_of_getElem? (i := 398) (by decide +kernel)⟩
theorem lw_p5 : lw_okq (⟨"TakerBook$Reader", "readFigures", "([BI[II[I[I)Z"⟩, 5) := ⟨⟨by decide +kernel, by decide +kernel⟩, List.mem_of_getElem? (i := 30) (by decide +kernel), List.mem_of_getElem? (i := 405) (by decide +kernel), List.mem_of_getElem? (i := 406) (by decide +kernel)⟩
theorem lw_p6 : lw_okq (⟨"TakerBook$Reader", "readThief", "([BI)Z"⟩, 5) := ⟨⟨by decide +kernel, by decide +kernel⟩, List.mem_of_getElem? (i := 30) (by decide +kernel), List.mem_of_getElem? (i := 409) (by decide +kernel), List.mem_of_getElem? (i := 410) (by decide +kernel)⟩
theorem lw_p7 : lw_okq (⟨"TakerBook", "isOpen", "()Z"⟩, 15) := ⟨⟨by decide +kernel, by decide +kernel⟩, List.mem_of_getElem? (i := 18) (by decide +kernel), List.mem_of_getElem? (i := 582) (by decide +kernel), List.mem_of_getElem? (i := 583) (by decide +kernel)⟩
theorem lw_p8 : lw_okq (⟨"TakerBook", "enact", "(II)V"⟩, 15) := ⟨⟨by decide +kernel, by decide +kernel⟩, List.mem_of_getElem? (i := 18) (by decide +kernel), List.mem_of_getElem? (i := 586) (by decide +kernel), List.mem_of_getElem? (i := 587) (by decide +kernel)⟩
theorem lw_p9 : lw_okq (⟨"TakerBook", "replay", "()V"⟩, 15) := ⟨⟨by decide +kernel, by decide +kernel⟩, List.mem_of_getElem? (i := 18) (by decide +kernel), List.mem_of_getElem? (i := 623) (by decide +kernel), List.mem_of_getElem? (i := 624) (by decide +kernel)⟩
theorem lw_p10 : lw_okq (⟨"TakerBook$Marks", "begin", "(LTakerBook$Band;)V"⟩, 6) := ⟨⟨by decide +kernel, by decide +kernel⟩, List.mem_of_getElem? (i := 235) (by decide +kernel), List.mem_of_getElem? (i := 667) (by decide +kernel), List.mem_of_getElem? (i := 668) (by decide +kernel)⟩
theorem lw_p11 : lw_okq (⟨"TakerBook$Marks", "seekFrom", "(IIII)V"⟩, 6) := ⟨⟨by decide +kernel, by decide +kernel⟩, List.mem_of_getElem? (i := 235) (by decide +kernel), List.mem_of_getElem? (i := 672) (by decide +kernel), List.mem_of_getElem? (i := 673) (by decide +kernel)⟩
theorem lw_p12 : lw_okq (⟨"TakerBook$Plans", "goOnFrom", "(IIII)V"⟩, 12) := ⟨⟨by decide +kernel, by decide +kernel⟩, List.mem_of_getElem? (i := 186) (by decide +kernel), List.mem_of_getElem? (i := 706) (by decide +kernel), List.mem_of_getElem? (i := 707) (by decide +kernel)⟩
theorem lw_p13 : lw_okq (⟨"TakerBook$Plans", "end", "(II)V"⟩, 12) := ⟨⟨by decide +kernel, by decide +kernel⟩, List.mem_of_getElem? (i := 186) (by decide +kernel), List.mem_of_getElem? (i := 710) (by decide +kernel), List.mem_of_getElem? (i := 711) (by decide +kernel)⟩
theorem lw_p14 : lw_okq (⟨"TakerBook$Plans", "passWeek", "(IIIII)V"⟩, 12) := ⟨⟨by decide +kernel, by decide +kernel⟩, List.mem_of_getElem? (i := 186) (by decide +kernel), List.mem_of_getElem? (i := 714) (by decide +kernel), List.mem_of_getElem? (i := 715) (by decide +kernel)⟩
theorem lw_p15 : lw_okq (⟨"TakerBook", "tellNumbers", "(JJ)V"⟩, 15) := ⟨⟨by decide +kernel, by decide +kernel⟩, List.mem_of_getElem? (i := 18) (by decide +kernel), List.mem_of_getElem? (i := 724) (by decide +kernel), List.mem_of_getElem? (i := 725) (by decide +kernel)⟩
def lw_privs_1 : List (MethodName × Nat) := [(⟨"TakerBook", "refuse", "(I)I"⟩, 15), (⟨"TakerBook", "refusedPlace", "(II)I"⟩, 15), (⟨"TakerBook", "refusedRow", "(I)I"⟩, 15), (⟨"TakerBook", "refusedText", "(I)I"⟩, 15), (⟨"TakerBook$Reader", "skipBlanks", "([BI)V"⟩, 5), (⟨"TakerBook$Reader", "readFigures", "([BI[II[I[I)Z"⟩, 5), (⟨"TakerBook$Reader", "readThief", "([BI)Z"⟩, 5), (⟨"TakerBook", "isOpen", "()Z"⟩, 15), (⟨"TakerBook", "enact", "(II)V"⟩, 15), (⟨"TakerBook", "replay", "()V"⟩, 15), (⟨"TakerBook$Marks", "begin", "(LTakerBook$Band;)V"⟩, 6), (⟨"TakerBook$Marks", "seekFrom", "(IIII)V"⟩, 6), (⟨"TakerBook$Plans", "goOnFrom", "(IIII)V"⟩, 12), (⟨"TakerBook$Plans", "end", "(II)V"⟩, 12), (⟨"TakerBook$Plans", "passWeek", "(IIIII)V"⟩, 12), (⟨"TakerBook", "tellNumbers", "(JJ)V"⟩, 15)]
theorem lw_r1 : ∀ q ∈ lw_privs_1, lw_okq q := List.forall_mem_cons.mpr ⟨lw_p0, List.forall_mem_cons.mpr ⟨lw_p1, List.forall_mem_cons.mpr ⟨lw_p2, List.forall_mem_cons.mpr ⟨lw_p3, List.forall_mem_cons.mpr ⟨lw_p4, List.forall_mem_cons.mpr ⟨lw_p5, List.forall_mem_cons.mpr ⟨lw_p6, List.forall_mem_cons.mpr ⟨lw_p7, List.forall_mem_cons.mpr ⟨lw_p8, List.forall_mem_cons.mpr ⟨lw_p9, List.forall_mem_cons.mpr ⟨lw_p10, List.forall_mem_cons.mpr ⟨lw_p11, List.forall_mem_cons.mpr ⟨lw_p12, List.forall_mem_cons.mpr ⟨lw_p13, List.forall_mem_cons.mpr ⟨lw_p14, List.forall_mem_cons.mpr ⟨lw_p15, fun _ h => absurd h List.not_mem_nil⟩⟩⟩⟩⟩⟩⟩⟩⟩⟩⟩⟩⟩⟩⟩⟩
theorem lw_p16 : lw_okq (⟨"TakerBook", "isPlan", "([II)Z"⟩, 15) := ⟨⟨by decide +kernel, by decide +kernel⟩, List.mem_of_getElem? (i := 18) (by decide +kernel), List.mem_of_getElem? (i := 732) (by decide +kernel), List.mem_of_getElem? (i := 733) (by decide +kernel)⟩
theorem lw_p17 : lw_okq (⟨"TakerBook", "isSuchSet", "(II)Z"⟩, 15) := ⟨⟨by decide +kernel, by decide +kernel⟩, List.mem_of_getElem? (i := 18) (by decide +kernel), List.mem_of_getElem? (i := 747) (by decide +kernel), List.mem_of_getElem? (i := 748) (by decide +kernel)⟩
theorem lw_p18 : lw_okq (⟨"TakerBook", "refusedGoods", "(I)I"⟩, 15) := ⟨⟨by decide +kernel, by decide +kernel⟩, List.mem_of_getElem? (i := 18) (by decide +kernel), List.mem_of_getElem? (i := 755) (by decide +kernel), List.mem_of_getElem? (i := 756) (by decide +kernel)⟩
theorem lw_p19 : lw_okq (⟨"TakerBook", "greaterPart", "(II)I"⟩, 15) := ⟨⟨by decide +kernel, by decide +kernel⟩, List.mem_of_getElem? (i := 18) (by decide +kernel), List.mem_of_getElem? (i := 763) (by decide +kernel), List.mem_of_getElem? (i := 764) (by decide +kernel)⟩
theorem lw_p20 : lw_okq (⟨"TakerBook", "refusedTriples", "(II)I"⟩, 15) := ⟨⟨by decide +kernel, by decide +kernel⟩, List.mem_of_getElem? (i := 18) (by decide +kernel), List.mem_of_getElem? (i := 772) (by decide +kernel), List.mem_of_getElem? (i := 773) (by decide +kernel)⟩
theorem lw_p21 : lw_okq (⟨"TakerBook", "spokeSo", "(IIII)Z"⟩, 15) := ⟨⟨by decide +kernel, by decide +kernel⟩, List.mem_of_getElem? (i := 18) (by decide +kernel), List.mem_of_getElem? (i := 779) (by decide +kernel), List.mem_of_getElem? (i := 780) (by decide +kernel)⟩
theorem lw_p22 : lw_okq (⟨"TakerBook", "kindsBy", "(II)I"⟩, 15) := ⟨⟨by decide +kernel, by decide +kernel⟩, List.mem_of_getElem? (i := 18) (by decide +kernel), List.mem_of_getElem? (i := 789) (by decide +kernel), List.mem_of_getElem? (i := 790) (by decide +kernel)⟩
theorem lw_p23 : lw_okq (⟨"TakerBook", "greaterPartOfKinds", "(IIII)I"⟩, 15) := ⟨⟨by decide +kernel, by decide +kernel⟩, List.mem_of_getElem? (i := 18) (by decide +kernel), List.mem_of_getElem? (i := 797) (by decide +kernel), List.mem_of_getElem? (i := 798) (by decide +kernel)⟩
theorem lw_p24 : lw_okq (⟨"TakerBook$Marks", "turn", "(III)I"⟩, 6) := ⟨⟨by decide +kernel, by decide +kernel⟩, List.mem_of_getElem? (i := 235) (by decide +kernel), List.mem_of_getElem? (i := 811) (by decide +kernel), List.mem_of_getElem? (i := 812) (by decide +kernel)⟩
theorem lw_p25 : lw_okq (⟨"TakerBook", "goodsFor", "(I)I"⟩, 15) := ⟨⟨by decide +kernel, by decide +kernel⟩, List.mem_of_getElem? (i := 18) (by decide +kernel), List.mem_of_getElem? (i := 823) (by decide +kernel), List.mem_of_getElem? (i := 824) (by decide +kernel)⟩
theorem lw_p26 : lw_okq (⟨"TakerBook", "deedByLot", "(II)I"⟩, 15) := ⟨⟨by decide +kernel, by decide +kernel⟩, List.mem_of_getElem? (i := 18) (by decide +kernel), List.mem_of_getElem? (i := 859) (by decide +kernel), List.mem_of_getElem? (i := 860) (by decide +kernel)⟩
theorem lw_p27 : lw_okq (⟨"TakerBook", "keptBooks", "()I"⟩, 15) := ⟨⟨by decide +kernel, by decide +kernel⟩, List.mem_of_getElem? (i := 18) (by decide +kernel), List.mem_of_getElem? (i := 882) (by decide +kernel), List.mem_of_getElem? (i := 883) (by decide +kernel)⟩
theorem lw_p28 : lw_okq (⟨"TakerBookModel", "meets", "(I)I"⟩, 40) := ⟨⟨by decide +kernel, by decide +kernel⟩, List.mem_of_getElem? (i := 901) (by decide +kernel), List.mem_of_getElem? (i := 1058) (by decide +kernel), List.mem_of_getElem? (i := 1059) (by decide +kernel)⟩
theorem lw_p29 : lw_okq (⟨"TakerBookModel", "rowAt", "(II)I"⟩, 40) := ⟨⟨by decide +kernel, by decide +kernel⟩, List.mem_of_getElem? (i := 901) (by decide +kernel), List.mem_of_getElem? (i := 1066) (by decide +kernel), List.mem_of_getElem? (i := 1067) (by decide +kernel)⟩
theorem lw_p30 : lw_okq (⟨"TakerBookModel", "tells", "(II)I"⟩, 40) := ⟨⟨by decide +kernel, by decide +kernel⟩, List.mem_of_getElem? (i := 901) (by decide +kernel), List.mem_of_getElem? (i := 1070) (by decide +kernel), List.mem_of_getElem? (i := 1071) (by decide +kernel)⟩
theorem lw_p31 : lw_okq (⟨"TakerBookModel", "faultOf", "(I)I"⟩, 40) := ⟨⟨by decide +kernel, by decide +kernel⟩, List.mem_of_getElem? (i := 901) (by decide +kernel), List.mem_of_getElem? (i := 1105) (by decide +kernel), List.mem_of_getElem? (i := 1106) (by decide +kernel)⟩
def lw_privs_2 : List (MethodName × Nat) := [(⟨"TakerBook", "isPlan", "([II)Z"⟩, 15), (⟨"TakerBook", "isSuchSet", "(II)Z"⟩, 15), (⟨"TakerBook", "refusedGoods", "(I)I"⟩, 15), (⟨"TakerBook", "greaterPart", "(II)I"⟩, 15), (⟨"TakerBook", "refusedTriples", "(II)I"⟩, 15), (⟨"TakerBook", "spokeSo", "(IIII)Z"⟩, 15), (⟨"TakerBook", "kindsBy", "(II)I"⟩, 15), (⟨"TakerBook", "greaterPartOfKinds", "(IIII)I"⟩, 15), (⟨"TakerBook$Marks", "turn", "(III)I"⟩, 6), (⟨"TakerBook", "goodsFor", "(I)I"⟩, 15), (⟨"TakerBook", "deedByLot", "(II)I"⟩, 15), (⟨"TakerBook", "keptBooks", "()I"⟩, 15), (⟨"TakerBookModel", "meets", "(I)I"⟩, 40), (⟨"TakerBookModel", "rowAt", "(II)I"⟩, 40), (⟨"TakerBookModel", "tells", "(II)I"⟩, 40), (⟨"TakerBookModel", "faultOf", "(I)I"⟩, 40)]
theorem lw_r2 : ∀ q ∈ lw_privs_2, lw_okq q := List.forall_mem_cons.mpr ⟨lw_p16, List.forall_mem_cons.mpr ⟨lw_p17, List.forall_mem_cons.mpr ⟨lw_p18, List.forall_mem_cons.mpr ⟨lw_p19, List.forall_mem_cons.mpr ⟨lw_p20, List.forall_mem_cons.mpr ⟨lw_p21, List.forall_mem_cons.mpr ⟨lw_p22, List.forall_mem_cons.mpr ⟨lw_p23, List.forall_mem_cons.mpr ⟨lw_p24, List.forall_mem_cons.mpr ⟨lw_p25, List.forall_mem_cons.mpr ⟨lw_p26, List.forall_mem_cons.mpr ⟨lw_p27, List.forall_mem_cons.mpr ⟨lw_p28, List.forall_mem_cons.mpr ⟨lw_p29, List.forall_mem_cons.mpr ⟨lw_p30, List.forall_mem_cons.mpr ⟨lw_p31, fun _ h => absurd h List.not_mem_nil⟩⟩⟩⟩⟩⟩⟩⟩⟩⟩⟩⟩⟩⟩⟩⟩
theorem lw_p32 : lw_okq (⟨"TakerBookModel", "byteAt", "(II)I"⟩, 40) := ⟨⟨by decide +kernel, by decide +kernel⟩, List.mem_of_getElem? (i := 901) (by decide +kernel), List.mem_of_getElem? (i := 1109) (by decide +kernel), List.mem_of_getElem? (i := 1110) (by decide +kernel)⟩
theorem lw_p33 : lw_okq (⟨"TakerBookModel", "readsThief", "(I)Z"⟩, 40) := ⟨⟨by decide +kernel, by decide +kernel⟩, List.mem_of_getElem? (i := 901) (by decide +kernel), List.mem_of_getElem? (i := 1113) (by decide +kernel), List.mem_of_getElem? (i := 1114) (by decide +kernel)⟩
theorem lw_p34 : lw_okq (⟨"TakerBookModel", "figure", "(III)I"⟩, 40) := ⟨⟨by decide +kernel, by decide +kernel⟩, List.mem_of_getElem? (i := 901) (by decide +kernel), List.mem_of_getElem? (i := 1120) (by decide +kernel), List.mem_of_getElem? (i := 1121) (by decide +kernel)⟩
theorem lw_p35 : lw_okq (⟨"TakerBookModel", "readsHead", "(I)Z"⟩, 40) := ⟨⟨by decide +kernel, by decide +kernel⟩, List.mem_of_getElem? (i := 901) (by decide +kernel), List.mem_of_getElem? (i := 1124) (by decide +kernel), List.mem_of_getElem? (i := 1125) (by decide +kernel)⟩
theorem lw_p36 : lw_okq (⟨"TakerBookModel", "isThief", "(I)Z"⟩, 40) := ⟨⟨by decide +kernel, by decide +kernel⟩, List.mem_of_getElem? (i := 901) (by decide +kernel), List.mem_of_getElem? (i := 1136) (by decide +kernel), List.mem_of_getElem? (i := 1137) (by decide +kernel)⟩
theorem lw_p37 : lw_okq (⟨"TakerBookModel", "thiefTells", "(II)I"⟩, 40) := ⟨⟨by decide +kernel, by decide +kernel⟩, List.mem_of_getElem? (i := 901) (by decide +kernel), List.mem_of_getElem? (i := 1140) (by decide +kernel), List.mem_of_getElem? (i := 1141) (by decide +kernel)⟩
theorem lw_p38 : lw_okq (⟨"TakerBookModel", "steals", "([II)I"⟩, 40) := ⟨⟨by decide +kernel, by decide +kernel⟩, List.mem_of_getElem? (i := 901) (by decide +kernel), List.mem_of_getElem? (i := 1144) (by decide +kernel), List.mem_of_getElem? (i := 1145) (by decide +kernel)⟩
theorem lw_p39 : lw_okq (⟨"TakerBookModel", "others", "([II)I"⟩, 40) := ⟨⟨by decide +kernel, by decide +kernel⟩, List.mem_of_getElem? (i := 901) (by decide +kernel), List.mem_of_getElem? (i := 1148) (by decide +kernel), List.mem_of_getElem? (i := 1149) (by decide +kernel)⟩
theorem lw_p40 : lw_okq (⟨"TakerBookModel", "isGang", "(I)Z"⟩, 40) := ⟨⟨by decide +kernel, by decide +kernel⟩, List.mem_of_getElem? (i := 901) (by decide +kernel), List.mem_of_getElem? (i := 1152) (by decide +kernel), List.mem_of_getElem? (i := 1153) (by decide +kernel)⟩
theorem lw_p41 : lw_okq (⟨"TakerBookModel", "isSpeaking", "([II)Z"⟩, 40) := ⟨⟨by decide +kernel, by decide +kernel⟩, List.mem_of_getElem? (i := 901) (by decide +kernel), List.mem_of_getElem? (i := 1159) (by decide +kernel), List.mem_of_getElem? (i := 1160) (by decide +kernel)⟩
theorem lw_p42 : lw_okq (⟨"TakerBookModel", "headOf", "([II)I"⟩, 40) := ⟨⟨by decide +kernel, by decide +kernel⟩, List.mem_of_getElem? (i := 901) (by decide +kernel), List.mem_of_getElem? (i := 1166) (by decide +kernel), List.mem_of_getElem? (i := 1167) (by decide +kernel)⟩
theorem lw_p43 : lw_okq (⟨"TakerBookModel", "speakers", "([I)I"⟩, 40) := ⟨⟨by decide +kernel, by decide +kernel⟩, List.mem_of_getElem? (i := 901) (by decide +kernel), List.mem_of_getElem? (i := 1174) (by decide +kernel), List.mem_of_getElem? (i := 1175) (by decide +kernel)⟩
theorem lw_p44 : lw_okq (⟨"TakerBookModel", "isOver", "()Z"⟩, 40) := ⟨⟨by decide +kernel, by decide +kernel⟩, List.mem_of_getElem? (i := 901) (by decide +kernel), List.mem_of_getElem? (i := 1185) (by decide +kernel), List.mem_of_getElem? (i := 1186) (by decide +kernel)⟩
theorem lw_p45 : lw_okq (⟨"TakerBookModel", "remember", "()V"⟩, 40) := ⟨⟨by decide +kernel, by decide +kernel⟩, List.mem_of_getElem? (i := 901) (by decide +kernel), List.mem_of_getElem? (i := 1189) (by decide +kernel), List.mem_of_getElem? (i := 1190) (by decide +kernel)⟩
theorem lw_p46 : lw_okq (⟨"TakerBookModel", "passes", "([I)V"⟩, 40) := ⟨⟨by decide +kernel, by decide +kernel⟩, List.mem_of_getElem? (i := 901) (by decide +kernel), List.mem_of_getElem? (i := 1193) (by decide +kernel), List.mem_of_getElem? (i := 1194) (by decide +kernel)⟩
theorem lw_p47 : lw_okq (⟨"TakerBookModel", "isTrial", "([I)Z"⟩, 40) := ⟨⟨by decide +kernel, by decide +kernel⟩, List.mem_of_getElem? (i := 901) (by decide +kernel), List.mem_of_getElem? (i := 1197) (by decide +kernel), List.mem_of_getElem? (i := 1198) (by decide +kernel)⟩
def lw_privs_3 : List (MethodName × Nat) := [(⟨"TakerBookModel", "byteAt", "(II)I"⟩, 40), (⟨"TakerBookModel", "readsThief", "(I)Z"⟩, 40), (⟨"TakerBookModel", "figure", "(III)I"⟩, 40), (⟨"TakerBookModel", "readsHead", "(I)Z"⟩, 40), (⟨"TakerBookModel", "isThief", "(I)Z"⟩, 40), (⟨"TakerBookModel", "thiefTells", "(II)I"⟩, 40), (⟨"TakerBookModel", "steals", "([II)I"⟩, 40), (⟨"TakerBookModel", "others", "([II)I"⟩, 40), (⟨"TakerBookModel", "isGang", "(I)Z"⟩, 40), (⟨"TakerBookModel", "isSpeaking", "([II)Z"⟩, 40), (⟨"TakerBookModel", "headOf", "([II)I"⟩, 40), (⟨"TakerBookModel", "speakers", "([I)I"⟩, 40), (⟨"TakerBookModel", "isOver", "()Z"⟩, 40), (⟨"TakerBookModel", "remember", "()V"⟩, 40), (⟨"TakerBookModel", "passes", "([I)V"⟩, 40), (⟨"TakerBookModel", "isTrial", "([I)Z"⟩, 40)]
theorem lw_r3 : ∀ q ∈ lw_privs_3, lw_okq q := List.forall_mem_cons.mpr ⟨lw_p32, List.forall_mem_cons.mpr ⟨lw_p33, List.forall_mem_cons.mpr ⟨lw_p34, List.forall_mem_cons.mpr ⟨lw_p35, List.forall_mem_cons.mpr ⟨lw_p36, List.forall_mem_cons.mpr ⟨lw_p37, List.forall_mem_cons.mpr ⟨lw_p38, List.forall_mem_cons.mpr ⟨lw_p39, List.forall_mem_cons.mpr ⟨lw_p40, List.forall_mem_cons.mpr ⟨lw_p41, List.forall_mem_cons.mpr ⟨lw_p42, List.forall_mem_cons.mpr ⟨lw_p43, List.forall_mem_cons.mpr ⟨lw_p44, List.forall_mem_cons.mpr ⟨lw_p45, List.forall_mem_cons.mpr ⟨lw_p46, List.forall_mem_cons.mpr ⟨lw_p47, fun _ h => absurd h List.not_mem_nil⟩⟩⟩⟩⟩⟩⟩⟩⟩⟩⟩⟩⟩⟩⟩⟩
theorem lw_p48 : lw_okq (⟨"TakerBookModel", "loot", "([I)I"⟩, 40) := ⟨⟨by decide +kernel, by decide +kernel⟩, List.mem_of_getElem? (i := 901) (by decide +kernel), List.mem_of_getElem? (i := 1201) (by decide +kernel), List.mem_of_getElem? (i := 1202) (by decide +kernel)⟩
theorem lw_p49 : lw_okq (⟨"TakerBookModel", "canCross", "(I)Z"⟩, 40) := ⟨⟨by decide +kernel, by decide +kernel⟩, List.mem_of_getElem? (i := 901) (by decide +kernel), List.mem_of_getElem? (i := 1213) (by decide +kernel), List.mem_of_getElem? (i := 1214) (by decide +kernel)⟩
theorem lw_p50 : lw_okq (⟨"TakerBookModel", "givesUp", "([II)V"⟩, 40) := ⟨⟨by decide +kernel, by decide +kernel⟩, List.mem_of_getElem? (i := 901) (by decide +kernel), List.mem_of_getElem? (i := 1221) (by decide +kernel), List.mem_of_getElem? (i := 1222) (by decide +kernel)⟩
theorem lw_p51 : lw_okq (⟨"TakerBookModel", "copyNow", "()V"⟩, 40) := ⟨⟨by decide +kernel, by decide +kernel⟩, List.mem_of_getElem? (i := 901) (by decide +kernel), List.mem_of_getElem? (i := 1245) (by decide +kernel), List.mem_of_getElem? (i := 1246) (by decide +kernel)⟩
theorem lw_p52 : lw_okq (⟨"TakerBookModel", "codes", "()I"⟩, 40) := ⟨⟨by decide +kernel, by decide +kernel⟩, List.mem_of_getElem? (i := 901) (by decide +kernel), List.mem_of_getElem? (i := 1254) (by decide +kernel), List.mem_of_getElem? (i := 1255) (by decide +kernel)⟩
theorem lw_p53 : lw_okq (⟨"TakerBookModel", "more", "(I)I"⟩, 40) := ⟨⟨by decide +kernel, by decide +kernel⟩, List.mem_of_getElem? (i := 901) (by decide +kernel), List.mem_of_getElem? (i := 1258) (by decide +kernel), List.mem_of_getElem? (i := 1259) (by decide +kernel)⟩
theorem lw_p54 : lw_okq (⟨"TakerBookModel", "marked", "([I)I"⟩, 40) := ⟨⟨by decide +kernel, by decide +kernel⟩, List.mem_of_getElem? (i := 901) (by decide +kernel), List.mem_of_getElem? (i := 1262) (by decide +kernel), List.mem_of_getElem? (i := 1263) (by decide +kernel)⟩
theorem lw_p55 : lw_okq (⟨"TakerBookModel", "need", "(Z)I"⟩, 40) := ⟨⟨by decide +kernel, by decide +kernel⟩, List.mem_of_getElem? (i := 901) (by decide +kernel), List.mem_of_getElem? (i := 1270) (by decide +kernel), List.mem_of_getElem? (i := 1271) (by decide +kernel)⟩
theorem lw_p56 : lw_okq (⟨"TakerBookModel", "headsOf", "(I)I"⟩, 40) := ⟨⟨by decide +kernel, by decide +kernel⟩, List.mem_of_getElem? (i := 901) (by decide +kernel), List.mem_of_getElem? (i := 1274) (by decide +kernel), List.mem_of_getElem? (i := 1275) (by decide +kernel)⟩
theorem lw_p57 : lw_okq (⟨"TakerBookModel", "needPlan", "(Z)I"⟩, 40) := ⟨⟨by decide +kernel, by decide +kernel⟩, List.mem_of_getElem? (i := 901) (by decide +kernel), List.mem_of_getElem? (i := 1282) (by decide +kernel), List.mem_of_getElem? (i := 1283) (by decide +kernel)⟩
theorem lw_p58 : lw_okq (⟨"TakerBookModel", "planCodes", "(I)I"⟩, 40) := ⟨⟨by decide +kernel, by decide +kernel⟩, List.mem_of_getElem? (i := 901) (by decide +kernel), List.mem_of_getElem? (i := 1286) (by decide +kernel), List.mem_of_getElem? (i := 1287) (by decide +kernel)⟩
theorem lw_p59 : lw_okq (⟨"TakerBookModel", "isPlan", "(II)Z"⟩, 40) := ⟨⟨by decide +kernel, by decide +kernel⟩, List.mem_of_getElem? (i := 901) (by decide +kernel), List.mem_of_getElem? (i := 1290) (by decide +kernel), List.mem_of_getElem? (i := 1291) (by decide +kernel)⟩
theorem lw_p60 : lw_okq (⟨"TakerBookModel", "goes", "(I)I"⟩, 40) := ⟨⟨by decide +kernel, by decide +kernel⟩, List.mem_of_getElem? (i := 901) (by decide +kernel), List.mem_of_getElem? (i := 1294) (by decide +kernel), List.mem_of_getElem? (i := 1295) (by decide +kernel)⟩
theorem lw_p61 : lw_okq (⟨"TakerBookModel", "fraction", "(JJ)I"⟩, 40) := ⟨⟨by decide +kernel, by decide +kernel⟩, List.mem_of_getElem? (i := 901) (by decide +kernel), List.mem_of_getElem? (i := 1302) (by decide +kernel), List.mem_of_getElem? (i := 1303) (by decide +kernel)⟩
theorem lw_p62 : lw_okq (⟨"TakerBookModel", "layFits", "(I)V"⟩, 40) := ⟨⟨by decide +kernel, by decide +kernel⟩, List.mem_of_getElem? (i := 901) (by decide +kernel), List.mem_of_getElem? (i := 1314) (by decide +kernel), List.mem_of_getElem? (i := 1315) (by decide +kernel)⟩
theorem lw_p63 : lw_okq (⟨"TakerBookModel", "isFit", "(II)Z"⟩, 40) := ⟨⟨by decide +kernel, by decide +kernel⟩, List.mem_of_getElem? (i := 901) (by decide +kernel), List.mem_of_getElem? (i := 1318) (by decide +kernel), List.mem_of_getElem? (i := 1319) (by decide +kernel)⟩
def lw_privs_4 : List (MethodName × Nat) := [(⟨"TakerBookModel", "loot", "([I)I"⟩, 40), (⟨"TakerBookModel", "canCross", "(I)Z"⟩, 40), (⟨"TakerBookModel", "givesUp", "([II)V"⟩, 40), (⟨"TakerBookModel", "copyNow", "()V"⟩, 40), (⟨"TakerBookModel", "codes", "()I"⟩, 40), (⟨"TakerBookModel", "more", "(I)I"⟩, 40), (⟨"TakerBookModel", "marked", "([I)I"⟩, 40), (⟨"TakerBookModel", "need", "(Z)I"⟩, 40), (⟨"TakerBookModel", "headsOf", "(I)I"⟩, 40), (⟨"TakerBookModel", "needPlan", "(Z)I"⟩, 40), (⟨"TakerBookModel", "planCodes", "(I)I"⟩, 40), (⟨"TakerBookModel", "isPlan", "(II)Z"⟩, 40), (⟨"TakerBookModel", "goes", "(I)I"⟩, 40), (⟨"TakerBookModel", "fraction", "(JJ)I"⟩, 40), (⟨"TakerBookModel", "layFits", "(I)V"⟩, 40), (⟨"TakerBookModel", "isFit", "(II)Z"⟩, 40)]
theorem lw_r4 : ∀ q ∈ lw_privs_4, lw_okq q := List.forall_mem_cons.mpr ⟨lw_p48, List.forall_mem_cons.mpr ⟨lw_p49, List.forall_mem_cons.mpr ⟨lw_p50, List.forall_mem_cons.mpr ⟨lw_p51, List.forall_mem_cons.mpr ⟨lw_p52, List.forall_mem_cons.mpr ⟨lw_p53, List.forall_mem_cons.mpr ⟨lw_p54, List.forall_mem_cons.mpr ⟨lw_p55, List.forall_mem_cons.mpr ⟨lw_p56, List.forall_mem_cons.mpr ⟨lw_p57, List.forall_mem_cons.mpr ⟨lw_p58, List.forall_mem_cons.mpr ⟨lw_p59, List.forall_mem_cons.mpr ⟨lw_p60, List.forall_mem_cons.mpr ⟨lw_p61, List.forall_mem_cons.mpr ⟨lw_p62, List.forall_mem_cons.mpr ⟨lw_p63, fun _ h => absurd h List.not_mem_nil⟩⟩⟩⟩⟩⟩⟩⟩⟩⟩⟩⟩⟩⟩⟩⟩
theorem lw_p64 : lw_okq (⟨"TakerBookModel", "needTriples", "(II)I"⟩, 40) := ⟨⟨by decide +kernel, by decide +kernel⟩, List.mem_of_getElem? (i := 901) (by decide +kernel), List.mem_of_getElem? (i := 1334) (by decide +kernel), List.mem_of_getElem? (i := 1335) (by decide +kernel)⟩
theorem lw_p65 : lw_okq (⟨"TakerBookModel", "isTold", "(IIII)Z"⟩, 40) := ⟨⟨by decide +kernel, by decide +kernel⟩, List.mem_of_getElem? (i := 901) (by decide +kernel), List.mem_of_getElem? (i := 1338) (by decide +kernel), List.mem_of_getElem? (i := 1339) (by decide +kernel)⟩
theorem lw_p66 : lw_okq (⟨"TakerBookModel", "kindSet", "(II)I"⟩, 40) := ⟨⟨by decide +kernel, by decide +kernel⟩, List.mem_of_getElem? (i := 901) (by decide +kernel), List.mem_of_getElem? (i := 1346) (by decide +kernel), List.mem_of_getElem? (i := 1347) (by decide +kernel)⟩
theorem lw_p67 : lw_okq (⟨"TakerBookModel", "turned", "(IZ)I"⟩, 40) := ⟨⟨by decide +kernel, by decide +kernel⟩, List.mem_of_getElem? (i := 901) (by decide +kernel), List.mem_of_getElem? (i := 1358) (by decide +kernel), List.mem_of_getElem? (i := 1359) (by decide +kernel)⟩
theorem lw_p68 : lw_okq (⟨"TakerBookModel", "goodsOf", "(I)I"⟩, 40) := ⟨⟨by decide +kernel, by decide +kernel⟩, List.mem_of_getElem? (i := 901) (by decide +kernel), List.mem_of_getElem? (i := 1366) (by decide +kernel), List.mem_of_getElem? (i := 1367) (by decide +kernel)⟩
theorem lw_p69 : lw_okq (⟨"TakerBookModel", "layParts", "(I)V"⟩, 40) := ⟨⟨by decide +kernel, by decide +kernel⟩, List.mem_of_getElem? (i := 901) (by decide +kernel), List.mem_of_getElem? (i := 1374) (by decide +kernel), List.mem_of_getElem? (i := 1375) (by decide +kernel)⟩
theorem lw_p70 : lw_okq (⟨"TakerBookModel", "counted", "(I)I"⟩, 40) := ⟨⟨by decide +kernel, by decide +kernel⟩, List.mem_of_getElem? (i := 901) (by decide +kernel), List.mem_of_getElem? (i := 1396) (by decide +kernel), List.mem_of_getElem? (i := 1397) (by decide +kernel)⟩
theorem lw_p71 : lw_okq (⟨"TakerBookModel", "mix", "(J)V"⟩, 40) := ⟨⟨by decide +kernel, by decide +kernel⟩, List.mem_of_getElem? (i := 901) (by decide +kernel), List.mem_of_getElem? (i := 1405) (by decide +kernel), List.mem_of_getElem? (i := 1406) (by decide +kernel)⟩
theorem lw_p72 : lw_okq (⟨"TakerBookModel", "mixBook", "()V"⟩, 40) := ⟨⟨by decide +kernel, by decide +kernel⟩, List.mem_of_getElem? (i := 901) (by decide +kernel), List.mem_of_getElem? (i := 1410) (by decide +kernel), List.mem_of_getElem? (i := 1411) (by decide +kernel)⟩
def lw_privs_5 : List (MethodName × Nat) := [(⟨"TakerBookModel", "needTriples", "(II)I"⟩, 40), (⟨"TakerBookModel", "isTold", "(IIII)Z"⟩, 40), (⟨"TakerBookModel", "kindSet", "(II)I"⟩, 40), (⟨"TakerBookModel", "turned", "(IZ)I"⟩, 40), (⟨"TakerBookModel", "goodsOf", "(I)I"⟩, 40), (⟨"TakerBookModel", "layParts", "(I)V"⟩, 40), (⟨"TakerBookModel", "counted", "(I)I"⟩, 40), (⟨"TakerBookModel", "mix", "(J)V"⟩, 40), (⟨"TakerBookModel", "mixBook", "()V"⟩, 40)]
theorem lw_r5 : ∀ q ∈ lw_privs_5, lw_okq q := List.forall_mem_cons.mpr ⟨lw_p64, List.forall_mem_cons.mpr ⟨lw_p65, List.forall_mem_cons.mpr ⟨lw_p66, List.forall_mem_cons.mpr ⟨lw_p67, List.forall_mem_cons.mpr ⟨lw_p68, List.forall_mem_cons.mpr ⟨lw_p69, List.forall_mem_cons.mpr ⟨lw_p70, List.forall_mem_cons.mpr ⟨lw_p71, List.forall_mem_cons.mpr ⟨lw_p72, fun _ h => absurd h List.not_mem_nil⟩⟩⟩⟩⟩⟩⟩⟩⟩
def lw_privs : List (MethodName × Nat) := lw_privs_1 ++ (lw_privs_2 ++ (lw_privs_3 ++ (lw_privs_4 ++ (lw_privs_5))))
def lw_tbl : List Cond := k2_sels lw_privs ++ tables_1
theorem lw_privs_ok : ∀ q ∈ lw_privs, lw_okq q := by
  show ∀ q ∈ lw_privs_1 ++ (lw_privs_2 ++ (lw_privs_3 ++ (lw_privs_4 ++ (lw_privs_5)))), lw_okq q
  exact List.forall_mem_append.mpr ⟨lw_r1, List.forall_mem_append.mpr ⟨lw_r2, List.forall_mem_append.mpr ⟨lw_r3, List.forall_mem_append.mpr ⟨lw_r4, lw_r5⟩⟩⟩⟩
def tbG : List Cond := lw_tbl.filter goodWord
theorem inG {w : Cond} (h : w ∈ lw_tbl) (hg : goodWord w = true) : w ∈ tbG := List.mem_filter.mpr ⟨h, hg⟩
theorem tbG_sub {w : Cond} (h : w ∈ tbG) : w ∈ lw_tbl := (List.mem_filter.mp h).1
theorem tbG_good {w : Cond} (h : w ∈ tbG) : (w.onTables && w.keeps) = true ∨ ∃ ty, w = .arrayClass ty := good_of_word (List.mem_filter.mp h).2
end
section
-- names: each class, its fields (declaring class, name, descriptor, final); by program
def R_T : String := "TakerBook"
def F_T : u_T := fun k => match k with
  | 0 => ("TakerBook", "rows", "[[I", true)
  | 1 => ("TakerBook", "rowSizes", "[I", true)
  | 2 => ("TakerBook", "texts", "[[B", true)
  | 3 => ("TakerBook", "textSizes", "[I", true)
  | 4 => ("TakerBook", "reader", "LTakerBook$Reader;", true)
  | 5 => ("TakerBook", "band", "LTakerBook$Band;", true)
  | 6 => ("TakerBook", "plans", "LTakerBook$Plans;", true)
  | 7 => ("TakerBook", "marks", "LTakerBook$Marks;", true)
  | 8 => ("TakerBook", "deeds", "LTakerBook$Deeds;", true)
  | 9 => ("TakerBook", "keptDeeds", "[LTakerBook$Deeds;", true)
  | 10 => ("TakerBook", "found", "[I", true)
  | 11 => ("TakerBook", "latestFinding", "I", false)
  | 12 => ("TakerBook", "told", "I", false)
  | 13 => ("TakerBook", "upperNumber", "J", false)
  | _ => ("TakerBook", "lowerNumber", "J", false)
def R_B : String := "TakerBook$Band"
def F_B : u_T := fun k => match k with
  | 0 => ("TakerBook$Band", "natures", "[LTakerBook$Thief;", true)
  | 1 => ("TakerBook$Band", "kind", "[I", true)
  | 2 => ("TakerBook$Band", "skill", "[I", true)
  | 3 => ("TakerBook$Band", "boldness", "[I", true)
  | 4 => ("TakerBook$Band", "firstCrosses", "[I", true)
  | 5 => ("TakerBook$Band", "crosses", "[I", true)
  | 6 => ("TakerBook$Band", "lootNow", "[I", true)
  | 7 => ("TakerBook$Band", "priceNow", "[I", true)
  | 8 => ("TakerBook$Band", "thieves", "I", false)
  | 9 => ("TakerBook$Band", "bounty", "I", false)
  | 10 => ("TakerBook$Band", "fee", "I", false)
  | 11 => ("TakerBook$Band", "fear", "I", false)
  | 12 => ("TakerBook$Band", "bench", "I", false)
  | 13 => ("TakerBook$Band", "gang", "I", false)
  | 14 => ("TakerBook$Band", "left", "I", false)
  | 15 => ("TakerBook$Band", "weeks", "I", false)
  | 16 => ("TakerBook$Band", "money", "I", false)
  | 17 => ("TakerBook$Band", "stock", "I", false)
  | _ => ("TakerBook$Band", "tried", "Z", false)
def R_P : String := "TakerBook$Plans"
def F_P : u_T := fun k => match k with
  | 0 => ("TakerBook$Plans", "trying", "[Z", true)
  | 1 => ("TakerBook$Plans", "loot", "[I", true)
  | 2 => ("TakerBook$Plans", "price", "[I", true)
  | 3 => ("TakerBook$Plans", "plan", "[I", true)
  | 4 => ("TakerBook$Plans", "first", "[I", true)
  | 5 => ("TakerBook$Plans", "weeks", "I", false)
  | 6 => ("TakerBook$Plans", "fee", "I", false)
  | 7 => ("TakerBook$Plans", "leftAtFirst", "I", false)
  | 8 => ("TakerBook$Plans", "most", "I", false)
  | 9 => ("TakerBook$Plans", "untried", "I", false)
  | 10 => ("TakerBook$Plans", "givenInAll", "I", false)
  | _ => ("TakerBook$Plans", "trial", "I", false)
def R_K : String := "TakerBook$Marks"
def F_K : u_T := fun k => match k with
  | 0 => ("TakerBook$Marks", "talking", "[[I", true)
  | 1 => ("TakerBook$Marks", "crosses", "[I", true)
  | 2 => ("TakerBook$Marks", "left", "I", false)
  | 3 => ("TakerBook$Marks", "bench", "I", false)
  | 4 => ("TakerBook$Marks", "fewest", "I", false)
  | _ => ("TakerBook$Marks", "withTwo", "I", false)
def R_D : String := "TakerBook$Deeds"
def F_D : u_T := fun k => match k with
  | 0 => ("TakerBook$Deeds", "what", "[I", true)
  | 1 => ("TakerBook$Deeds", "of", "[I", true)
  | _ => ("TakerBook$Deeds", "size", "I", false)
def R_R : String := "TakerBook$Reader"
def F_R : u_T := fun k => match k with
  | 0 => ("TakerBook$Reader", "kind", "[I", true)
  | 1 => ("TakerBook$Reader", "ofBook", "[I", true)
  | 2 => ("TakerBook$Reader", "ofThieves", "[I", true)
  | 3 => ("TakerBook$Reader", "thieves", "I", false)
  | _ => ("TakerBook$Reader", "place", "I", false)
def R_Th : String := "TakerBook$Thief"
def F_Th : u_T := fun k => match k with
  | _ => ("", "", "I", false)
def R_Re : String := "TakerBook$Returned"
def F_Re : u_T := fun k => match k with
  | _ => ("", "", "I", false)
def R_Cl : String := "TakerBook$Clerk"
def F_Cl : u_T := fun k => match k with
  | _ => ("", "", "I", false)
def R_Ga : String := "TakerBook$Gang"
def F_Ga : u_T := fun k => match k with
  | _ => ("", "", "I", false)
def R_La : String := "TakerBook$Lace"
def F_La : u_T := fun k => match k with
  | _ => ("", "", "I", false)
def R_Yo : String := "TakerBook$Young"
def F_Yo : u_T := fun k => match k with
  | _ => ("", "", "I", false)
def R_M : String := "TakerBookModel"
def F_M : u_T := fun k => match k with
  | 0 => ("TakerBookModel", "latest", "I", false)
  | 1 => ("TakerBookModel", "came", "[I", true)
  | 2 => ("TakerBookModel", "asked", "I", false)
  | 3 => ("TakerBookModel", "upper", "J", false)
  | 4 => ("TakerBookModel", "lower", "J", false)
  | 5 => ("TakerBookModel", "sizes", "[I", true)
  | 6 => ("TakerBookModel", "rows", "[I", true)
  | 7 => ("TakerBookModel", "copied", "[I", true)
  | 8 => ("TakerBookModel", "textSizes", "[I", true)
  | 9 => ("TakerBookModel", "bytes", "[B", true)
  | 10 => ("TakerBookModel", "n", "I", false)
  | 11 => ("TakerBookModel", "head", "[I", true)
  | 12 => ("TakerBookModel", "kindOf", "[I", true)
  | 13 => ("TakerBookModel", "skills", "[I", true)
  | 14 => ("TakerBookModel", "boldness", "[I", true)
  | 15 => ("TakerBookModel", "readAt", "I", false)
  | 16 => ("TakerBookModel", "readMany", "I", false)
  | 17 => ("TakerBookModel", "isHead", "Z", false)
  | 18 => ("TakerBookModel", "readHead", "[I", true)
  | 19 => ("TakerBookModel", "readThief", "[I", true)
  | 20 => ("TakerBookModel", "now", "[I", true)
  | 21 => ("TakerBookModel", "tried", "[I", true)
  | 22 => ("TakerBookModel", "deedMany", "I", false)
  | 23 => ("TakerBookModel", "log", "[I", true)
  | 24 => ("TakerBookModel", "isKept", "[Z", true)
  | 25 => ("TakerBookModel", "keptMany", "[I", true)
  | 26 => ("TakerBookModel", "keptNow", "[I", true)
  | 27 => ("TakerBookModel", "keptLog", "[I", true)
  | 28 => ("TakerBookModel", "plan", "[I", true)
  | 29 => ("TakerBookModel", "trialIn", "I", false)
  | 30 => ("TakerBookModel", "fitMany", "I", false)
  | 31 => ("TakerBookModel", "fitFirst", "I", false)
  | 32 => ("TakerBookModel", "fitAll", "I", false)
  | 33 => ("TakerBookModel", "fitAny", "I", false)
  | 34 => ("TakerBookModel", "fitWith", "[I", true)
  | 35 => ("TakerBookModel", "ends", "[I", true)
  | 36 => ("TakerBookModel", "ahead", "[I", true)
  | 37 => ("TakerBookModel", "partSum", "J", false)
  | 38 => ("TakerBookModel", "whole", "J", false)
  | _ => ("TakerBookModel", "hash", "J", false)
def cls : List vw_C := [(R_T, F_T, 15), (R_B, F_B, 19), (R_P, F_P, 12), (R_K, F_K, 6), (R_D, F_D, 3), (R_R, F_R, 5), (R_Th, F_Th, 0), (R_Re, F_Re, 0), (R_Cl, F_Cl, 0), (R_Ga, F_Ga, 0), (R_La, F_La, 0), (R_Yo, F_Yo, 0), (R_M, F_M, 40)]
theorem u_pos {C : String} {T : u_T} {N : Nat} (ps : List Nat) (h : ps.map (fun i => lw_tbl[i]?) = (u_ws C T N).map some) : ∀ w ∈ u_ws C T N, w ∈ lw_tbl := by
  intro w hw
  have h1 : some w ∈ ps.map (fun i => lw_tbl[i]?) := by rw [h]; exact List.mem_map.mpr ⟨w, hw, rfl⟩
  obtain ⟨i, -, hi⟩ := List.mem_map.mp h1
  exact List.mem_of_getElem? hi
set_option maxRecDepth 20000 in
theorem i_T : ∀ w ∈ u_ws R_T F_T 15, w ∈ lw_tbl := u_pos [370, 372, 374, 376, 378, 380, 382, 384, 386, 388, 390, 392, 394, 396, 398] (by decide +kernel)
set_option maxRecDepth 20000 in
theorem i_B : ∀ w ∈ u_ws R_B F_B 19, w ∈ lw_tbl := u_pos [219, 221, 223, 225, 227, 229, 231, 233, 235, 237, 239, 241, 243, 245, 247, 249, 251, 253, 255] (by decide +kernel)
set_option maxRecDepth 20000 in
theorem i_P : ∀ w ∈ u_ws R_P F_P 12, w ∈ lw_tbl := u_pos [281, 283, 285, 287, 289, 291, 293, 295, 297, 299, 301, 303] (by decide +kernel)
set_option maxRecDepth 20000 in
theorem i_K : ∀ w ∈ u_ws R_K F_K 6, w ∈ lw_tbl := u_pos [322, 324, 326, 328, 330, 332] (by decide +kernel)
set_option maxRecDepth 20000 in
theorem i_D : ∀ w ∈ u_ws R_D F_D 3, w ∈ lw_tbl := u_pos [347, 349, 351] (by decide +kernel)
set_option maxRecDepth 20000 in
theorem i_R : ∀ w ∈ u_ws R_R F_R 5, w ∈ lw_tbl := u_pos [117, 119, 121, 123, 125] (by decide +kernel)
set_option maxRecDepth 20000 in
theorem i_Th : ∀ w ∈ u_ws R_Th F_Th 0, w ∈ lw_tbl := u_pos [] (by decide +kernel)
set_option maxRecDepth 20000 in
theorem i_Re : ∀ w ∈ u_ws R_Re F_Re 0, w ∈ lw_tbl := u_pos [] (by decide +kernel)
set_option maxRecDepth 20000 in
theorem i_Cl : ∀ w ∈ u_ws R_Cl F_Cl 0, w ∈ lw_tbl := u_pos [] (by decide +kernel)
set_option maxRecDepth 20000 in
theorem i_Ga : ∀ w ∈ u_ws R_Ga F_Ga 0, w ∈ lw_tbl := u_pos [] (by decide +kernel)
set_option maxRecDepth 20000 in
theorem i_La : ∀ w ∈ u_ws R_La F_La 0, w ∈ lw_tbl := u_pos [] (by decide +kernel)
set_option maxRecDepth 20000 in
theorem i_Yo : ∀ w ∈ u_ws R_Yo F_Yo 0, w ∈ lw_tbl := u_pos [] (by decide +kernel)
set_option maxRecDepth 20000 in
theorem i_M : ∀ w ∈ u_ws R_M F_M 40, w ∈ lw_tbl := u_pos [1019, 1021, 1023, 1025, 1027, 1029, 1031, 1033, 1035, 1037, 1039, 1041, 1043, 1045, 1047, 1049, 1051, 1053, 1055, 1057, 1059, 1061, 1063, 1065, 1067, 1069, 1071, 1073, 1075, 1077, 1079, 1081, 1083, 1085, 1087, 1089, 1091, 1093, 1095, 1097] (by decide +kernel)
abbrev Sh : Type := (FieldType × Nat) ⊕ ((FieldType × Nat × (Nat → Nat)) ⊕ (Nat × List (Nat ⊕ Bool)))
/-- the cells, by number: arrays of numbers; arrays of cells; objects (class, fields: a cell, an int, a long) -/
def Gam : List Sh := [
  .inr (.inr (0, [.inl 1, .inl 8, .inl 9, .inl 14, .inl 15, .inl 19, .inl 34, .inl 40, .inl 49, .inl 52, .inl 62, .inr false, .inr false, .inr true, .inr true])), -- 0 T
  .inr (.inl ((.array .int), 6, fun j => 2 + j)), -- 1 rows
  .inl (.int, 40), -- 2 row0
  .inl (.int, 40), -- 3 row1
  .inl (.int, 40), -- 4 row2
  .inl (.int, 40), -- 5 row3
  .inl (.int, 40), -- 6 row4
  .inl (.int, 40), -- 7 row5
  .inl (.int, 6), -- 8 rowSizes
  .inr (.inl ((.array .byte), 4, fun j => 10 + j)), -- 9 texts
  .inl (.byte, 60), -- 10 text0
  .inl (.byte, 60), -- 11 text1
  .inl (.byte, 60), -- 12 text2
  .inl (.byte, 60), -- 13 text3
  .inl (.int, 4), -- 14 textSizes
  .inr (.inr (5, [.inl 16, .inl 17, .inl 18, .inr false, .inr false])), -- 15 R
  .inl (.int, 6), -- 16 R.kind
  .inl (.int, 4), -- 17 R.ofBook
  .inl (.int, 18), -- 18 R.ofThieves
  .inr (.inr (1, [.inl 20, .inl 27, .inl 28, .inl 29, .inl 30, .inl 31, .inl 32, .inl 33, .inr false, .inr false, .inr false, .inr false, .inr false, .inr false, .inr false, .inr false, .inr false, .inr false, .inr false])), -- 19 B
  .inr (.inl ((.object "TakerBook$Thief"), 6, fun j => 21 + j)), -- 20 natures
  .inr (.inr (6, [])), -- 21 nat0
  .inr (.inr (7, [])), -- 22 nat1
  .inr (.inr (8, [])), -- 23 nat2
  .inr (.inr (9, [])), -- 24 nat3
  .inr (.inr (10, [])), -- 25 nat4
  .inr (.inr (11, [])), -- 26 nat5
  .inl (.int, 6), -- 27 B.kind
  .inl (.int, 6), -- 28 B.skill
  .inl (.int, 6), -- 29 B.boldness
  .inl (.int, 6), -- 30 B.firstCrosses
  .inl (.int, 6), -- 31 B.crosses
  .inl (.int, 6), -- 32 B.lootNow
  .inl (.int, 6), -- 33 B.priceNow
  .inr (.inr (2, [.inl 35, .inl 36, .inl 37, .inl 38, .inl 39, .inr false, .inr false, .inr false, .inr false, .inr false, .inr false, .inr false])), -- 34 P
  .inl (.boolean, 64), -- 35 P.trying
  .inl (.int, 64), -- 36 P.loot
  .inl (.int, 6), -- 37 P.price
  .inl (.int, 4), -- 38 P.plan
  .inl (.int, 4), -- 39 P.first
  .inr (.inr (3, [.inl 41, .inl 48, .inr false, .inr false, .inr false, .inr false])), -- 40 K
  .inr (.inl ((.array .int), 6, fun j => 42 + j)), -- 41 K.talking
  .inl (.int, 3), -- 42 K.talk0
  .inl (.int, 3), -- 43 K.talk1
  .inl (.int, 3), -- 44 K.talk2
  .inl (.int, 3), -- 45 K.talk3
  .inl (.int, 3), -- 46 K.talk4
  .inl (.int, 3), -- 47 K.talk5
  .inl (.int, 6), -- 48 K.crosses
  .inr (.inr (4, [.inl 50, .inl 51, .inr false])), -- 49 D
  .inl (.int, 40), -- 50 D.what
  .inl (.int, 40), -- 51 D.of
  .inr (.inl ((.object "TakerBook$Deeds"), 3, fun j => 53 + 3 * j)), -- 52 kept
  .inr (.inr (4, [.inl 54, .inl 55, .inr false])), -- 53 D0
  .inl (.int, 40), -- 54 D0.what
  .inl (.int, 40), -- 55 D0.of
  .inr (.inr (4, [.inl 57, .inl 58, .inr false])), -- 56 D1
  .inl (.int, 40), -- 57 D1.what
  .inl (.int, 40), -- 58 D1.of
  .inr (.inr (4, [.inl 60, .inl 61, .inr false])), -- 59 D2
  .inl (.int, 40), -- 60 D2.what
  .inl (.int, 40), -- 61 D2.of
  .inl (.int, 6), -- 62 found
  .inr (.inr (12, [.inr false, .inl 64, .inr false, .inr true, .inr true, .inl 65, .inl 66, .inl 67, .inl 68, .inl 69, .inr false, .inl 70, .inl 71, .inl 72, .inl 73, .inr false, .inr false, .inr false, .inl 74, .inl 75, .inl 76, .inl 77, .inr false, .inl 78, .inl 79, .inl 80, .inl 81, .inl 82, .inl 83, .inr false, .inr false, .inr false, .inr false, .inr false, .inl 84, .inl 85, .inl 86, .inr true, .inr true, .inr true])), -- 63 M
  .inl (.int, 6), -- 64 M.came
  .inl (.int, 6), -- 65 M.sizes
  .inl (.int, 240), -- 66 M.rows
  .inl (.int, 40), -- 67 M.copied
  .inl (.int, 4), -- 68 M.textSizes
  .inl (.byte, 240), -- 69 M.bytes
  .inl (.int, 4), -- 70 M.head
  .inl (.int, 6), -- 71 M.kindOf
  .inl (.int, 6), -- 72 M.skills
  .inl (.int, 6), -- 73 M.boldness
  .inl (.int, 4), -- 74 M.readHead
  .inl (.int, 24), -- 75 M.readThief
  .inl (.int, 11), -- 76 M.now
  .inl (.int, 11), -- 77 M.tried
  .inl (.int, 440), -- 78 M.log
  .inl (.boolean, 3), -- 79 M.isKept
  .inl (.int, 3), -- 80 M.keptMany
  .inl (.int, 33), -- 81 M.keptNow
  .inl (.int, 1320), -- 82 M.keptLog
  .inl (.int, 4), -- 83 M.plan
  .inl (.int, 6), -- 84 M.fitWith
  .inl (.int, 729), -- 85 M.ends
  .inl (.int, 729) -- 86 M.ahead
  ]
/-- the links to nest mates: (own class, entry, method, host) -/
def nestL : List (String × Nat × MethodName × String) := [
  ("TakerBook", 28, ({ cls := "TakerBook$Reader", name := "<init>", desc := "()V" } : Jvm.MethodName), "TakerBook"),
  ("TakerBook", 35, ({ cls := "TakerBook$Band", name := "<init>", desc := "()V" } : Jvm.MethodName), "TakerBook"),
  ("TakerBook$Band", 11, ({ cls := "TakerBook$Thief", name := "<init>", desc := "()V" } : Jvm.MethodName), "TakerBook"),
  ("TakerBook$Band", 14, ({ cls := "TakerBook$Returned", name := "<init>", desc := "()V" } : Jvm.MethodName), "TakerBook"),
  ("TakerBook$Returned", 3, ({ cls := "TakerBook$Thief", name := "<init>", desc := "()V" } : Jvm.MethodName), "TakerBook"),
  ("TakerBook$Band", 17, ({ cls := "TakerBook$Clerk", name := "<init>", desc := "()V" } : Jvm.MethodName), "TakerBook"),
  ("TakerBook$Clerk", 3, ({ cls := "TakerBook$Thief", name := "<init>", desc := "()V" } : Jvm.MethodName), "TakerBook"),
  ("TakerBook$Band", 20, ({ cls := "TakerBook$Gang", name := "<init>", desc := "()V" } : Jvm.MethodName), "TakerBook"),
  ("TakerBook$Gang", 3, ({ cls := "TakerBook$Thief", name := "<init>", desc := "()V" } : Jvm.MethodName), "TakerBook"),
  ("TakerBook$Band", 23, ({ cls := "TakerBook$Lace", name := "<init>", desc := "()V" } : Jvm.MethodName), "TakerBook"),
  ("TakerBook$Lace", 3, ({ cls := "TakerBook$Returned", name := "<init>", desc := "()V" } : Jvm.MethodName), "TakerBook"),
  ("TakerBook$Band", 26, ({ cls := "TakerBook$Young", name := "<init>", desc := "()V" } : Jvm.MethodName), "TakerBook"),
  ("TakerBook$Young", 3, ({ cls := "TakerBook$Gang", name := "<init>", desc := "()V" } : Jvm.MethodName), "TakerBook"),
  ("TakerBook", 42, ({ cls := "TakerBook$Plans", name := "<init>", desc := "()V" } : Jvm.MethodName), "TakerBook"),
  ("TakerBook", 49, ({ cls := "TakerBook$Marks", name := "<init>", desc := "()V" } : Jvm.MethodName), "TakerBook"),
  ("TakerBook", 56, ({ cls := "TakerBook$Deeds", name := "<init>", desc := "()V" } : Jvm.MethodName), "TakerBook"),
  ("TakerBook$Band", 111, ({ cls := "TakerBook", name := "isIn", desc := "(II)Z" } : Jvm.MethodName), "TakerBook"),
  ("TakerBook$Marks", 53, ({ cls := "TakerBook", name := "isBetter", desc := "(IIII)Z" } : Jvm.MethodName), "TakerBook"),
  ("TakerBook$Marks", 57, ({ cls := "TakerBook", name := "isIn", desc := "(II)Z" } : Jvm.MethodName), "TakerBook"),
  ("TakerBook$Plans", 85, ({ cls := "TakerBook", name := "isIn", desc := "(II)Z" } : Jvm.MethodName), "TakerBook")
  ]
def nestW (q : String × Nat × MethodName × String) : Cond := .methodLinkNest q.1 q.2.1 q.2.2.1 q.2.2.2
set_option maxRecDepth 20000 in
theorem nest_in : ∀ q ∈ nestL, nestW q ∈ lw_tbl := by decide +kernel
/-- the static arrays that nobody writes: field, type, length, contents -/
def stab : List (String × String × FieldType × Nat × (Nat → Int32)) := [
  ("LETTERS", "[C", .char, 6, fun j => [116, 114, 99, 103, 108, 121].getD j 0),
  ("LEAST_OF_BOOK", "[I", .int, 4, fun j => [0, 0, 0, 1].getD j 0),
  ("MOST_OF_BOOK", "[I", .int, 4, fun j => [9, 9, 9, 6].getD j 0),
  ("LEAST_OF_THIEF", "[I", .int, 3, fun j => [0, 0, 0].getD j 0),
  ("MOST_OF_THIEF", "[I", .int, 3, fun j => [9, 9, 2].getD j 0)]
end
section
-- one world for both objects: every cell has a number; a state gives the numbers that the cells hold
abbrev St : Type := (Nat → Nat → Int32) × (Nat → Nat → Int64)
abbrev Un : Type := va_G × ((Nat → Nat) × (Nat → ClassId))
def g_f (A : Nat → Nat) (σ : St) (k j : Nat) : Nat ⊕ Bool → Value
  | .inl r => .ref (A r)
  | .inr false => .int (σ.1 k j)
  | .inr true => .long (σ.2 k j)
def g_fs (A : Nat → Nat) (σ : St) (k : Nat) : Nat → List (Nat ⊕ Bool) → List Value
  | _, [] => []
  | j, f :: fs => g_f A σ k j f :: g_fs A σ k (j + 1) fs
theorem g_fs_get (A : Nat → Nat) (σ : St) (k : Nat) : ∀ (fs : List (Nat ⊕ Bool)) (j i : Nat), (g_fs A σ k j fs)[i]? = (fs[i]?).map (g_f A σ k (j + i))
  | [], j, i => by simp [g_fs]
  | f :: fs, j, 0 => by simp [g_fs]
  | f :: fs, j, i + 1 => by
    rw [g_fs, List.getElem?_cons_succ, List.getElem?_cons_succ, g_fs_get A σ k fs (j + 1) i, Nat.add_right_comm, Nat.add_assoc]
theorem g_fs_len (A : Nat → Nat) (σ : St) (k : Nat) : ∀ (fs : List (Nat ⊕ Bool)) (j : Nat), (g_fs A σ k j fs).length = fs.length
  | [], j => rfl
  | f :: fs, j => by simp [g_fs, g_fs_len A σ k fs (j + 1)]
def g_e (u : Un) (σ : St) (k : Nat) : Sh → va_E
  | .inl (_, n) => .inl (u.2.2 k, n, .inl (σ.1 k))
  | .inr (.inl (_, n, r)) => .inl (u.2.2 k, n, .inr (.inr (.inr (.inr (fun j => some (u.2.1 (r j)))))))
  | .inr (.inr (ci, fs)) => .inr (ci, g_fs u.2.1 σ k 0 fs)
def w_from (u : Un) (σ : St) : Nat → List Sh → va_W
  | _, [] => []
  | k, x :: xs => (u.2.1 k, g_e u σ k x) :: w_from u σ (k + 1) xs
theorem w_from_get (u : Un) (σ : St) : ∀ (xs : List Sh) (k i : Nat), (w_from u σ k xs)[i]? = (xs[i]?).map (fun x => (u.2.1 (k + i), g_e u σ (k + i) x))
  | [], k, i => by simp [w_from]
  | x :: xs, k, 0 => by simp [w_from]
  | x :: xs, k, i + 1 => by
    rw [w_from, List.getElem?_cons_succ, List.getElem?_cons_succ, w_from_get u σ xs (k + 1) i, Nat.add_right_comm, Nat.add_assoc]
def wU (u : Un) (σ : St) : va_W := w_from u σ 0 Gam
theorem wU_get (u : Un) (σ : St) {k : Nat} {x : Sh} (h : Gam[k]? = some x) : (wU u σ)[k]? = some (u.2.1 k, g_e u σ k x) := by
  rw [wU, w_from_get, h]
  simp
theorem g_e_eq (u : Un) {σ σ' : St} {k : Nat} (x : Sh) (h1 : σ'.1 k = σ.1 k) (h2 : σ'.2 k = σ.2 k) : g_e u σ' k x = g_e u σ k x := by
  rcases x with ⟨t, n⟩ | ⟨t, n, r⟩ | ⟨ci, fs⟩
  · simp only [g_e, h1]
  · rfl
  · simp only [g_e]
    congr 2
    apply List.ext_getElem?
    intro i
    rw [g_fs_get, g_fs_get]
    congr 1
    funext f
    rcases f with r | b
    · rfl
    · cases b
      · simp only [g_f, h1]
      · simp only [g_f, h2]
/-- a cell's new contents are the world of the new state -/
theorem wU_set (u : Un) {σ σ' : St} {k : Nat} {x : Sh} {e : va_E} (h : Gam[k]? = some x) (he : g_e u σ' k x = e) (h1 : ∀ a, a ≠ k → σ'.1 a = σ.1 a) (h2 : ∀ a, a ≠ k → σ'.2 a = σ.2 a) :
    (wU u σ).set k (u.2.1 k, e) = wU u σ' := by
  have hl : k < (wU u σ).length := (List.getElem?_eq_some_iff.mp (wU_get u σ h)).1
  apply List.ext_getElem?
  intro i
  by_cases hi : i = k
  · subst hi
    rw [List.getElem?_set_self hl, wU_get u σ' h, he]
  · rw [List.getElem?_set_ne (Ne.symm hi), wU, wU, w_from_get, w_from_get]
    congr 1
    funext y
    rw [Nat.zero_add, g_e_eq u y (h1 i hi) (h2 i hi)]
/-- the addresses of the world -/
def AU (u : Un) : Nat → Prop := fun q => ∃ k, k < Gam.length ∧ u.2.1 k = q
def Ap (u : Un) : Prop := ∀ i j, i < Gam.length → j < Gam.length → u.2.1 i = u.2.1 j → i = j
theorem wU_mem (u : Un) (σ : St) {k : Nat} {q : Nat × va_E} (h : (wU u σ)[k]? = some q) : k < Gam.length ∧ q.1 = u.2.1 k := by
  rw [wU, w_from_get] at h
  cases hx : Gam[k]? with
  | none => rw [hx] at h; cases h
  | some x =>
    rw [hx] at h
    simp only [Option.map_some, Option.some.injEq] at h
    exact ⟨(List.getElem?_eq_some_iff.mp hx).1, by rw [← h, Nat.zero_add]⟩
theorem Ap.D {u : Un} (h : Ap u) (σ : St) : va_D (AU u) (wU u σ) := by
  refine ⟨fun i j p q hi hj e => ?_, fun k q hk => ?_⟩
  · obtain ⟨a1, a2⟩ := wU_mem u σ hi
    obtain ⟨b1, b2⟩ := wU_mem u σ hj
    exact h i j a1 b1 (by rw [← a2, ← b2]; exact e)
  · obtain ⟨a1, a2⟩ := wU_mem u σ hk
    exact ⟨k, a1, a2.symm⟩
def aTy (k : Nat) : Option FieldType := match Gam[k]? with
  | some (.inl (t, _)) => some t
  | some (.inr (.inl (t, _, _))) => some t
  | _ => none
/-- what is known of the classes -/
def Uk (u : Un) (U : State) : Prop := (∀ (c : Nat) (q : vw_C), cls[c]? = some q → u_Kn U q.1 q.2.1 q.2.2 (u.1.1 c) (u.1.2 c)) ∧ ∀ (k : Nat) (ty : FieldType), aTy k = some ty → ArrOfT U (u.2.2 k) ty ∧ va_RA U (u.2.2 k) ty
theorem Uk.moved {u : Un} {s U : State} (hvm : s.vm.Alike U.vm) (h : Uk u s) : Uk u U := ⟨fun c q hq => u_Kn_moved hvm (h.1 c q hq), fun k ty hk => ⟨arrOfT_moved hvm (h.2 k ty hk).1, (h.2 k ty hk).2.moved hvm⟩⟩
theorem Uk.K0 {u : Un} {s : State} (h : Uk u s) : va_K u.1 cls [] s := ⟨h.1, fun k q hk => by simp at hk⟩
theorem Uk.K1 {u : Un} {s : State} (h : Uk u s) {k : Nat} {ty : FieldType} (hk : aTy k = some ty) : va_K u.1 cls [(u.2.2 k, ty)] s := ⟨h.1, fun i q hi => by
  have : q = (u.2.2 k, ty) := by
    have := List.mem_of_getElem? hi
    simpa using this
  subst this
  exact h.2 k ty hk⟩
theorem Uk.K2 {u : Un} {s : State} (h : Uk u s) {k k2 : Nat} {ty ty2 : FieldType} (hk : aTy k = some ty) (hk2 : aTy k2 = some ty2) : va_K u.1 cls [(u.2.2 k, ty), (u.2.2 k2, ty2)] s := ⟨h.1, fun i q hi => by
  have : q = (u.2.2 k, ty) ∨ q = (u.2.2 k2, ty2) := by
    have := List.mem_of_getElem? hi
    simpa using this
  rcases this with rfl | rfl
  · exact h.2 k ty hk
  · exact h.2 k2 ty2 hk2⟩
/-- the statics and the nest links -/
def Us (u : Un) (U : State) : Prop := (∀ (i : Nat) (q : String × String × FieldType × Nat × (Nat → Int32)), stab[i]? = some q → va_Z "TakerBook$Reader" q.1 q.2.1 (.ref (u.2.1 (1000 + i))) (AU u) U U.heap ∧ va_T q.2.2.1 (u.2.1 (1000 + i)) q.2.2.2.1 (fun j => .int (q.2.2.2.2 j)) (AU u) U U.heap) ∧ ∀ q ∈ nestL, va_Nw (nestW q) U
theorem Us.moved {u : Un} {s U : State} {H : Heap} {locs : List Loc} (h : Us u s) (hS : va_S (AU u) s.heap H locs) (hU : U.heap = H) (hW : s.WarmedH U.vm) : Us u U := by
  have hk : ∀ a : Nat, a < s.heap.size → ¬ AU u a → U.heap[a]? = s.heap[a]? := fun a h1 h2 => by rw [hU]; exact hS.2.1 a h1 h2
  refine ⟨fun i q hq => ⟨va_Z.moved hW.alike (va_Z.kept (h.1 i q hq).1 hk), va_T.moved hW.alike (va_T.kept (h.1 i q hq).2 hk)⟩, fun q hq => ?_⟩
  exact va_Nw.warmM hW (h.2 q hq)
/-- a method's start, and its end -/
def rmD (d : Nat) : Room := { frames := d, cells := 0, slots := 0, locals := d * 40 }
def wsY (y : MethodName) (cc : ByteArray) (nL : Nat) (ret : Option FieldType) : List Cond := .code y cc nL ret :: tbG
def PcU (u : Un) (as : List Value) (σ : St) : Array Value → State → Prop := va_Pc as (fun U => va_P u.1 cls (wU u σ) U.heap ∧ Uk u U ∧ Us u U)
def BU (u : Un) : St → State → Prop := fun σ t => va_P u.1 cls (wU u σ) t.heap
theorem PcU_blind (u : Un) (as : List Value) (σ : St) : FrameBlind (PcU u as σ) := by
  intro a U g mk h
  obtain ⟨h0, h1, h2, h3⟩ := h
  refine ⟨h0, h1, Uk.moved (Vm.Alike.refl U.vm) h2, ?_, ?_⟩
  · intro i q hq
    exact ⟨va_Z.moved (Vm.Alike.refl U.vm) (h3.1 i q hq).1, va_T.moved (Vm.Alike.refl U.vm) (h3.1 i q hq).2⟩
  · intro q hq
    exact va_Nw.same rfl rfl (h3.2 q hq)
/-- a frame's constants -/
abbrev FX : Type := Program × Launch × Env × State × MethodId × Array Value × List Frame × Method × Code
abbrev FX.s (X : FX) : State := X.2.2.2.1
abbrev FX.m (X : FX) : MethodId := X.2.2.2.2.1
abbrev FX.args (X : FX) : Array Value := X.2.2.2.2.2.1
abbrev FX.below (X : FX) : List Frame := X.2.2.2.2.2.2.1
abbrev FX.meth (X : FX) : Method := X.2.2.2.2.2.2.2.1
abbrev FX.c (X : FX) : Code := X.2.2.2.2.2.2.2.2
def Fr (X : FX) (u : Un) (own : String) (cc : ByteArray) (nL : Nat) : Prop :=
  X.1.tables.exec = Jvm.exec ∧ X.c.code = cc ∧ X.c.maxLocals = nL ∧ X.s.vm.findClass own = some X.m.cls ∧ (∀ w ∈ tbG, w.before X.args X.s = true) ∧ Uk u X.s ∧ Us u X.s ∧ Ap u ∧ X.meth.locks = false
/-- from here the method comes to its end Q -/
def V (X : FX) (u : Un) (d nL : Nat) (Q : State → Prop) (pc : Nat) (ls : List (Nat × Value)) (st : List Value) (σ : St) : Prop :=
  ∀ (H : Heap) (locs : List Loc) (la : Array Slot), va_P u.1 cls (wU u σ) H → va_S (AU u) X.s.heap H locs → lv_has la nL ls → W X.1 X.2.1 X.2.2.1 (rmD d) X.s X.m X.args X.below X.meth X.c H locs 0 0 Q (F0 X.m pc la st)
def MTi (l : Launch) (u : Un) (y : MethodName) (cc : ByteArray) (nL : Nat) (ret : FieldType) (d : Nat) (as : List Value) (σ : St) (P : Int32 → St → Prop) : Prop := Met l y (wsY y cc nL (some ret)) (rmD d) (PcU u as σ) (va_Qi P (BU u) (AU u)) 0 0 (AU u)
def MTl (l : Launch) (u : Un) (y : MethodName) (cc : ByteArray) (nL : Nat) (d : Nat) (as : List Value) (σ : St) (P : Int64 → St → Prop) : Prop := Met l y (wsY y cc nL (some .long)) (rmD d) (PcU u as σ) (va_Ql P (BU u) (AU u)) 0 0 (AU u)
def MTv (l : Launch) (u : Un) (y : MethodName) (cc : ByteArray) (nL : Nat) (d : Nat) (as : List Value) (σ : St) (P : St → Prop) : Prop := Met l y (wsY y cc nL none) (rmD d) (PcU u as σ) (va_Qv P (BU u) (AU u)) 0 0 (AU u)
/-- an answer that is the cell of number k -/
def MTr (l : Launch) (u : Un) (y : MethodName) (cc : ByteArray) (nL : Nat) (ret : FieldType) (d : Nat) (as : List Value) (σ : St) (k : Nat) : Prop := Met l y (wsY y cc nL (some ret)) (rmD d) (PcU u as σ) (va_Qr (fun _ : St => True) (fun _ a t => a = u.2.1 k ∧ BU u σ t) (AU u)) 0 0 (AU u)
def Qe (X : FX) (u : Un) (Qc : Array Value → State → Outcome → State → Prop) : State → Prop := MQ X.below Qc X.args X.s 0 0 (AU u)
theorem MT_of {l : Launch} {u : Un} {own : String} {y : MethodName} {cc : ByteArray} {nL : Nat} {ret : Option FieldType} {d : Nat} {as : List Value} {σ : St} {Qc : Array Value → State → Outcome → State → Prop} (hA : Ap u) (hown : y.cls = own) (hy : plainName y.cls = true) (hn : (lg_sl as).length ≤ nL)
    (k : ∀ X : FX, X.2.1 = l → Fr X u own cc nL → X.meth.sig.returnType = ret → V X u d nL (Qe X u Qc) 0 (lv_args 0 as) [] σ) : Met l y (wsY y cc nL ret) (rmD d) (PcU u as σ) Qc 0 0 (AU u) := by
  subst hown
  refine Met.ofW (cc := cc) (maxL := nL) (ret := ret) hy rfl ?_
  intro p e s m args below meth c s₁ B hml hv
  obtain ⟨rfl, hP, hK, hU⟩ := hv
  have hts := atoms_spec (ws := wsY y cc nL ret) B.pre
  have hl := lv_entry as (n := nL) hn
  rw [lg_entry_eq]
  exact k (p, l, e, s, m, as.toArray, below, meth, c) rfl ⟨B.exec, B.bytes, hml, findClass_of_methodNamed B.named, fun w hw => hts w (List.mem_cons_of_mem _ hw), hK, hU, hA, B.notSynchronized⟩ B.returns s.heap [] _ hP va_S.rf hl
end
section
-- one row an instruction, over the one world
theorem v_to {X : FX} {u : Un} {d nL : Nat} {Q : State → Prop} {pc : Nat} {ls ls' : List (Nat × Value)} {st : List Value} {σ : St} (h : ls = ls') (k : V X u d nL Q pc ls' st σ) : V X u d nL Q pc ls st σ := h ▸ k
theorem v_st {X : FX} {u : Un} {d nL : Nat} {Q : State → Prop} {pc : Nat} {ls : List (Nat × Value)} {st : List Value} {σ σ' : St} (h : σ = σ') (k : V X u d nL Q pc ls st σ') : V X u d nL Q pc ls st σ := h ▸ k
/-- fewer locals, in another order -/
theorem v_sub {X : FX} {u : Un} {d nL : Nat} {Q : State → Prop} {pc : Nat} {ls : List (Nat × Value)} {st : List Value} {σ : St} (ks : List Nat) {ls' : List (Nat × Value)} (h : lv_pick ls ks = ls') (k : V X u d nL Q pc ls' st σ) : V X u d nL Q pc ls st σ :=
  fun H locs la hP hS hl => k H locs la hP hS (lv_sub hl ks h)
/-- a number on the stack gets a name -/
theorem v_ni {X : FX} {u : Un} {d nL : Nat} {Q : State → Prop} {pc : Nat} {ls : List (Nat × Value)} {st : List Value} {σ : St} {x : Int32} (k : ∀ y : Int32, y = x → V X u d nL Q pc ls (.int y :: st) σ) : V X u d nL Q pc ls (.int x :: st) σ := k x rfl
theorem v_nl {X : FX} {u : Un} {d nL : Nat} {Q : State → Prop} {pc : Nat} {ls : List (Nat × Value)} {st : List Value} {σ : St} {x : Int64} (k : ∀ y : Int64, y = x → V X u d nL Q pc ls (.long y :: st) σ) : V X u d nL Q pc ls (.long x :: st) σ := k x rfl
section
variable {X : FX} {u : Un} {own : String} {cc : ByteArray} {d nL : Nat} {Q : State → Prop} {pc : Nat} {ls : List (Nat × Value)} {st : List Value} {σ : St}
variable (F : Fr X u own cc nL)

theorem v_iconst (F : Fr X u own cc nL) {n : Int} {v : Int32} (hd : decode cc pc = .ok (.iconst n, 1)) (hv : Int32.ofInt n = v) (k : V X u d nL Q (pc + 1) ls (.int v :: st) σ) : V X u d nL Q pc ls (st) σ :=
  fun H locs la hP hS hl => lv_iconst F.1 F.2.1 hd hv (k H locs la hP hS hl)
theorem v_bipush (F : Fr X u own cc nL) {n : Int} {v : Int32} (hd : decode cc pc = .ok (.bipush n, 2)) (hv : (Int8.ofInt n).toInt32 = v) (k : V X u d nL Q (pc + 2) ls (.int v :: st) σ) : V X u d nL Q pc ls (st) σ :=
  fun H locs la hP hS hl => lv_bipush F.1 F.2.1 hd hv (k H locs la hP hS hl)
theorem v_sipush (F : Fr X u own cc nL) {n : Int} {v : Int32} (hd : decode cc pc = .ok (.sipush n, 3)) (hv : (Int16.ofInt n).toInt32 = v) (k : V X u d nL Q (pc + 3) ls (.int v :: st) σ) : V X u d nL Q pc ls (st) σ :=
  fun H locs la hP hS hl => lv_sipush F.1 F.2.1 hd hv (k H locs la hP hS hl)
theorem v_lconst (F : Fr X u own cc nL) {n : Fin 2} {v : Int64} (hd : decode cc pc = .ok (.lconst n, 1)) (hv : Int64.ofNat (n : Nat) = v) (k : V X u d nL Q (pc + 1) ls (.long v :: st) σ) : V X u d nL Q pc ls (st) σ :=
  fun H locs la hP hS hl => lv_lconst F.1 F.2.1 hd hv (k H locs la hP hS hl)
theorem v_iload_n (F : Fr X u own cc nL) {n : Fin 4} {i : Nat} {x : Int32} (hd : decode cc pc = .ok (.iload_n n, 1)) (hi : (n : Nat) = i) (j : Nat) (hj : ls[j]? = some (i, .int x)) (k : V X u d nL Q (pc + 1) ls (.int x :: st) σ) : V X u d nL Q pc ls (st) σ :=
  fun H locs la hP hS hl => lv_iload_n F.1 F.2.1 hd hi (lv_at hl j hj) (k H locs la hP hS hl)
theorem v_iload (F : Fr X u own cc nL) {i : Nat} {x : Int32} (hd : decode cc pc = .ok (.iload i, 2)) (j : Nat) (hj : ls[j]? = some (i, .int x)) (k : V X u d nL Q (pc + 2) ls (.int x :: st) σ) : V X u d nL Q pc ls (st) σ :=
  fun H locs la hP hS hl => lv_iload F.1 F.2.1 hd (lv_at hl j hj) (k H locs la hP hS hl)
theorem v_lload_n (F : Fr X u own cc nL) {n : Fin 4} {i : Nat} {x : Int64} (hd : decode cc pc = .ok (.lload_n n, 1)) (hi : (n : Nat) = i) (j : Nat) (hj : ls[j]? = some (i, .long x)) (k : V X u d nL Q (pc + 1) ls (.long x :: st) σ) : V X u d nL Q pc ls (st) σ :=
  fun H locs la hP hS hl => lv_lload_n F.1 F.2.1 hd hi (lv_at hl j hj) (k H locs la hP hS hl)
theorem v_lload (F : Fr X u own cc nL) {i : Nat} {x : Int64} (hd : decode cc pc = .ok (.lload i, 2)) (j : Nat) (hj : ls[j]? = some (i, .long x)) (k : V X u d nL Q (pc + 2) ls (.long x :: st) σ) : V X u d nL Q pc ls (st) σ :=
  fun H locs la hP hS hl => lv_lload F.1 F.2.1 hd (lv_at hl j hj) (k H locs la hP hS hl)
theorem v_aload_n (F : Fr X u own cc nL) {n : Fin 4} {i x : Nat} (hd : decode cc pc = .ok (.aload_n n, 1)) (hi : (n : Nat) = i) (j : Nat) (hj : ls[j]? = some (i, .ref x)) (k : V X u d nL Q (pc + 1) ls (.ref x :: st) σ) : V X u d nL Q pc ls (st) σ :=
  fun H locs la hP hS hl => lv_aload_n F.1 F.2.1 hd hi (lv_at hl j hj) (k H locs la hP hS hl)
theorem v_aload (F : Fr X u own cc nL) {i x : Nat} (hd : decode cc pc = .ok (.aload i, 2)) (j : Nat) (hj : ls[j]? = some (i, .ref x)) (k : V X u d nL Q (pc + 2) ls (.ref x :: st) σ) : V X u d nL Q pc ls (st) σ :=
  fun H locs la hP hS hl => lv_aload F.1 F.2.1 hd (lv_at hl j hj) (k H locs la hP hS hl)
theorem v_istore_n (F : Fr X u own cc nL) {i : Nat} {n : Fin 4} {x : Int32} {ls' : List (Nat × Value)} (hd : decode cc pc = .ok (.istore_n n, 1)) (hi : (n : Nat) = i) (hn : i < nL) (hL : (i, Value.int x) :: ls.filter (fun q => !(q.1 == i) && !(q.1 + 1 == i && q.2.category == 2)) = ls') (k : V X u d nL Q (pc + 1) ls' st σ) : V X u d nL Q pc ls (.int x :: st) σ :=
  fun H locs la hP hS hl => lv_istore_n F.1 F.2.1 hd hi hl hn hL (fun la hl => k H locs la hP hS hl)
theorem v_istore (F : Fr X u own cc nL) {i : Nat} {x : Int32} {ls' : List (Nat × Value)} (hd : decode cc pc = .ok (.istore i, 2)) (hn : i < nL) (hL : (i, Value.int x) :: ls.filter (fun q => !(q.1 == i) && !(q.1 + 1 == i && q.2.category == 2)) = ls') (k : V X u d nL Q (pc + 2) ls' st σ) : V X u d nL Q pc ls (.int x :: st) σ :=
  fun H locs la hP hS hl => lv_istore F.1 F.2.1 hd hl hn hL (fun la hl => k H locs la hP hS hl)
theorem v_lstore_n (F : Fr X u own cc nL) {i : Nat} {n : Fin 4} {x : Int64} {ls' : List (Nat × Value)} (hd : decode cc pc = .ok (.lstore_n n, 1)) (hi : (n : Nat) = i) (hn : i + 1 < nL) (hL : (i, Value.long x) :: ls.filter (fun q => !(q.1 == i) && (!(q.1 == i + 1) && !(q.1 + 1 == i && q.2.category == 2))) = ls') (k : V X u d nL Q (pc + 1) ls' st σ) : V X u d nL Q pc ls (.long x :: st) σ :=
  fun H locs la hP hS hl => lv_lstore_n F.1 F.2.1 hd hi hl hn hL (fun la hl => k H locs la hP hS hl)
theorem v_lstore (F : Fr X u own cc nL) {i : Nat} {x : Int64} {ls' : List (Nat × Value)} (hd : decode cc pc = .ok (.lstore i, 2)) (hn : i + 1 < nL) (hL : (i, Value.long x) :: ls.filter (fun q => !(q.1 == i) && (!(q.1 == i + 1) && !(q.1 + 1 == i && q.2.category == 2))) = ls') (k : V X u d nL Q (pc + 2) ls' st σ) : V X u d nL Q pc ls (.long x :: st) σ :=
  fun H locs la hP hS hl => lv_lstore F.1 F.2.1 hd hl hn hL (fun la hl => k H locs la hP hS hl)
theorem v_astore_n (F : Fr X u own cc nL) {i : Nat} {n : Fin 4} {x : Nat} {ls' : List (Nat × Value)} (hd : decode cc pc = .ok (.astore_n n, 1)) (hi : (n : Nat) = i) (hn : i < nL) (hL : (i, Value.ref x) :: ls.filter (fun q => !(q.1 == i) && !(q.1 + 1 == i && q.2.category == 2)) = ls') (k : V X u d nL Q (pc + 1) ls' st σ) : V X u d nL Q pc ls (.ref x :: st) σ :=
  fun H locs la hP hS hl => lv_astore_n F.1 F.2.1 hd hi hl hn hL (fun la hl => k H locs la hP hS hl)
theorem v_iinc (F : Fr X u own cc nL) {i j : Nat} {n : Int} {x v : Int32} {ls' : List (Nat × Value)} (hd : decode cc pc = .ok (.iinc i n, 3)) (hj : ls[j]? = some (i, .int x)) (hv : x + Int32.ofInt n = v) (hn : i < nL) (hL : (i, Value.int v) :: ls.filter (fun q => !(q.1 == i) && !(q.1 + 1 == i && q.2.category == 2)) = ls') (k : V X u d nL Q (pc + 3) ls' st σ) : V X u d nL Q pc ls st σ :=
  fun H locs la hP hS hl => lv_iinc F.1 F.2.1 hd hl hj hv hn hL (fun la hl => k H locs la hP hS hl)
theorem v_iadd (F : Fr X u own cc nL) {x y : Int32} (hd : decode cc pc = .ok (.iadd, 1)) (k : V X u d nL Q (pc + 1) ls (.int (x + y) :: st) σ) : V X u d nL Q pc ls (.int y :: .int x :: st) σ :=
  fun H locs la hP hS hl => lv_iadd F.1 F.2.1 hd (k H locs la hP hS hl)
theorem v_isub (F : Fr X u own cc nL) {x y : Int32} (hd : decode cc pc = .ok (.isub, 1)) (k : V X u d nL Q (pc + 1) ls (.int (x - y) :: st) σ) : V X u d nL Q pc ls (.int y :: .int x :: st) σ :=
  fun H locs la hP hS hl => lv_isub F.1 F.2.1 hd (k H locs la hP hS hl)
theorem v_imul (F : Fr X u own cc nL) {x y : Int32} (hd : decode cc pc = .ok (.imul, 1)) (k : V X u d nL Q (pc + 1) ls (.int (x * y) :: st) σ) : V X u d nL Q pc ls (.int y :: .int x :: st) σ :=
  fun H locs la hP hS hl => lv_imul F.1 F.2.1 hd (k H locs la hP hS hl)
theorem v_iand (F : Fr X u own cc nL) {x y : Int32} (hd : decode cc pc = .ok (.iand, 1)) (k : V X u d nL Q (pc + 1) ls (.int (x &&& y) :: st) σ) : V X u d nL Q pc ls (.int y :: .int x :: st) σ :=
  fun H locs la hP hS hl => lv_iand F.1 F.2.1 hd (k H locs la hP hS hl)
theorem v_ior (F : Fr X u own cc nL) {x y : Int32} (hd : decode cc pc = .ok (.ior, 1)) (k : V X u d nL Q (pc + 1) ls (.int (x ||| y) :: st) σ) : V X u d nL Q pc ls (.int y :: .int x :: st) σ :=
  fun H locs la hP hS hl => lv_ior F.1 F.2.1 hd (k H locs la hP hS hl)
theorem v_ixor (F : Fr X u own cc nL) {x y : Int32} (hd : decode cc pc = .ok (.ixor, 1)) (k : V X u d nL Q (pc + 1) ls (.int (x ^^^ y) :: st) σ) : V X u d nL Q pc ls (.int y :: .int x :: st) σ :=
  fun H locs la hP hS hl => lv_ixor F.1 F.2.1 hd (k H locs la hP hS hl)
theorem v_ishl (F : Fr X u own cc nL) {x y : Int32} (hd : decode cc pc = .ok (.ishl, 1)) (k : V X u d nL Q (pc + 1) ls (.int (x <<< (y &&& 31)) :: st) σ) : V X u d nL Q pc ls (.int y :: .int x :: st) σ :=
  fun H locs la hP hS hl => lv_ishl F.1 F.2.1 hd (k H locs la hP hS hl)
theorem v_ishr (F : Fr X u own cc nL) {x y : Int32} (hd : decode cc pc = .ok (.ishr, 1)) (k : V X u d nL Q (pc + 1) ls (.int (x >>> (y &&& 31)) :: st) σ) : V X u d nL Q pc ls (.int y :: .int x :: st) σ :=
  fun H locs la hP hS hl => lv_ishr F.1 F.2.1 hd (k H locs la hP hS hl)
theorem v_idiv (F : Fr X u own cc nL) {x y : Int32} (hd : decode cc pc = .ok (.idiv, 1)) (h0 : ¬ y = 0) (k : V X u d nL Q (pc + 1) ls (.int (x / y) :: st) σ) : V X u d nL Q pc ls (.int y :: .int x :: st) σ :=
  fun H locs la hP hS hl => lv_idiv F.1 F.2.1 hd h0 (k H locs la hP hS hl)
theorem v_irem (F : Fr X u own cc nL) {x y : Int32} (hd : decode cc pc = .ok (.irem, 1)) (h0 : ¬ y = 0) (k : V X u d nL Q (pc + 1) ls (.int (x - x / y * y) :: st) σ) : V X u d nL Q pc ls (.int y :: .int x :: st) σ :=
  fun H locs la hP hS hl => lv_irem F.1 F.2.1 hd h0 (k H locs la hP hS hl)
theorem v_ineg (F : Fr X u own cc nL) {x : Int32} (hd : decode cc pc = .ok (.ineg, 1)) (k : V X u d nL Q (pc + 1) ls (.int (-x) :: st) σ) : V X u d nL Q pc ls (.int x :: st) σ :=
  fun H locs la hP hS hl => lv_ineg F.1 F.2.1 hd (k H locs la hP hS hl)
theorem v_iushr (F : Fr X u own cc nL) {x y : Int32} (hd : decode cc pc = .ok (.iushr, 1)) (k : V X u d nL Q (pc + 1) ls (.int ((x.toUInt32 >>> (y.toUInt32 &&& Int32.toUInt32 31)).toInt32) :: st) σ) : V X u d nL Q pc ls (.int y :: .int x :: st) σ :=
  fun H locs la hP hS hl => lv_iushr F.1 F.2.1 hd rfl (k H locs la hP hS hl)
theorem v_ladd (F : Fr X u own cc nL) {x y : Int64} (hd : decode cc pc = .ok (.ladd, 1)) (k : V X u d nL Q (pc + 1) ls (.long (x + y) :: st) σ) : V X u d nL Q pc ls (.long y :: .long x :: st) σ :=
  fun H locs la hP hS hl => lv_ladd F.1 F.2.1 hd (k H locs la hP hS hl)
theorem v_lsub (F : Fr X u own cc nL) {x y : Int64} (hd : decode cc pc = .ok (.lsub, 1)) (k : V X u d nL Q (pc + 1) ls (.long (x - y) :: st) σ) : V X u d nL Q pc ls (.long y :: .long x :: st) σ :=
  fun H locs la hP hS hl => lv_lsub F.1 F.2.1 hd (k H locs la hP hS hl)
theorem v_lmul (F : Fr X u own cc nL) {x y : Int64} (hd : decode cc pc = .ok (.lmul, 1)) (k : V X u d nL Q (pc + 1) ls (.long (x * y) :: st) σ) : V X u d nL Q pc ls (.long y :: .long x :: st) σ :=
  fun H locs la hP hS hl => lv_lmul F.1 F.2.1 hd (k H locs la hP hS hl)
theorem v_ldiv (F : Fr X u own cc nL) {x y : Int64} (hd : decode cc pc = .ok (.ldiv, 1)) (h0 : ¬ y = 0) (k : V X u d nL Q (pc + 1) ls (.long (x / y) :: st) σ) : V X u d nL Q pc ls (.long y :: .long x :: st) σ :=
  fun H locs la hP hS hl => lv_ldiv F.1 F.2.1 hd h0 (k H locs la hP hS hl)
theorem v_lrem (F : Fr X u own cc nL) {x y : Int64} (hd : decode cc pc = .ok (.lrem, 1)) (h0 : ¬ y = 0) (k : V X u d nL Q (pc + 1) ls (.long (x - x / y * y) :: st) σ) : V X u d nL Q pc ls (.long y :: .long x :: st) σ :=
  fun H locs la hP hS hl => lv_lrem F.1 F.2.1 hd h0 (k H locs la hP hS hl)
theorem v_lcmp (F : Fr X u own cc nL) {x y : Int64} (hd : decode cc pc = .ok (.lcmp, 1)) (k : V X u d nL Q (pc + 1) ls (.int (lg_cmp x y) :: st) σ) : V X u d nL Q pc ls (.long y :: .long x :: st) σ :=
  fun H locs la hP hS hl => W.lcmp F.1 F.2.1 hd (k H locs la hP hS hl)
theorem v_i2l (F : Fr X u own cc nL) {x : Int32} (hd : decode cc pc = .ok (.i2l, 1)) (k : V X u d nL Q (pc + 1) ls (.long x.toInt64 :: st) σ) : V X u d nL Q pc ls (.int x :: st) σ :=
  fun H locs la hP hS hl => lv_i2l F.1 F.2.1 hd rfl (k H locs la hP hS hl)
theorem v_l2i (F : Fr X u own cc nL) {x : Int64} (hd : decode cc pc = .ok (.l2i, 1)) (k : V X u d nL Q (pc + 1) ls (.int x.toInt32 :: st) σ) : V X u d nL Q pc ls (.long x :: st) σ :=
  fun H locs la hP hS hl => lv_l2i F.1 F.2.1 hd rfl (k H locs la hP hS hl)
theorem v_i2b (F : Fr X u own cc nL) {x : Int32} (hd : decode cc pc = .ok (.i2b, 1)) (k : V X u d nL Q (pc + 1) ls (.int x.toInt8.toInt32 :: st) σ) : V X u d nL Q pc ls (.int x :: st) σ :=
  fun H locs la hP hS hl => lv_i2b F.1 F.2.1 hd rfl (k H locs la hP hS hl)
theorem v_dup (F : Fr X u own cc nL) {v : Value} (hd : decode cc pc = .ok (.dup, 1)) (h1 : v.category = 1) (k : V X u d nL Q (pc + 1) ls (v :: v :: st) σ) : V X u d nL Q pc ls (v :: st) σ :=
  fun H locs la hP hS hl => lv_dup F.1 F.2.1 hd h1 (k H locs la hP hS hl)
theorem v_dup2_11 (F : Fr X u own cc nL) {v w : Value} (hd : decode cc pc = .ok (.dup2, 1)) (h1 : v.category = 1) (h2 : w.category = 1) (k : V X u d nL Q (pc + 1) ls (v :: w :: v :: w :: st) σ) : V X u d nL Q pc ls (v :: w :: st) σ :=
  fun H locs la hP hS hl => lv_dup2_11 F.1 F.2.1 hd h1 h2 (k H locs la hP hS hl)
theorem v_pop (F : Fr X u own cc nL) {v : Value} (hd : decode cc pc = .ok (.pop, 1)) (h1 : v.category = 1) (k : V X u d nL Q (pc + 1) ls (st) σ) : V X u d nL Q pc ls (v :: st) σ :=
  fun H locs la hP hS hl => lv_pop F.1 F.2.1 hd h1 (k H locs la hP hS hl)
theorem v_if_eq (F : Fr X u own cc nL) {x : Int32} {off : Int} (tgt : Nat) (hd : decode cc pc = .ok (.ifCond .eq off, 3)) (ht : (pc : Int) + off = (tgt : Int)) (kt : x = 0 → V X u d nL Q tgt ls st σ) (kf : ¬ x = 0 → V X u d nL Q (pc + 3) ls st σ) : V X u d nL Q pc ls (.int x :: st) σ :=
  fun H locs la hP hS hl => lv_if_eq F.1 F.2.1 hd ht (fun h => kt h H locs la hP hS hl) (fun h => kf h H locs la hP hS hl)
theorem v_if_ne (F : Fr X u own cc nL) {x : Int32} {off : Int} (tgt : Nat) (hd : decode cc pc = .ok (.ifCond .ne off, 3)) (ht : (pc : Int) + off = (tgt : Int)) (kt : ¬ x = 0 → V X u d nL Q tgt ls st σ) (kf : x = 0 → V X u d nL Q (pc + 3) ls st σ) : V X u d nL Q pc ls (.int x :: st) σ :=
  fun H locs la hP hS hl => lv_if_ne F.1 F.2.1 hd ht (fun h => kt h H locs la hP hS hl) (fun h => kf h H locs la hP hS hl)
theorem v_if_lt (F : Fr X u own cc nL) {x : Int32} {off : Int} (tgt : Nat) (hd : decode cc pc = .ok (.ifCond .lt off, 3)) (ht : (pc : Int) + off = (tgt : Int)) (kt : x < 0 → V X u d nL Q tgt ls st σ) (kf : ¬ x < 0 → V X u d nL Q (pc + 3) ls st σ) : V X u d nL Q pc ls (.int x :: st) σ :=
  fun H locs la hP hS hl => lv_if_lt F.1 F.2.1 hd ht (fun h => kt h H locs la hP hS hl) (fun h => kf h H locs la hP hS hl)
theorem v_if_ge (F : Fr X u own cc nL) {x : Int32} {off : Int} (tgt : Nat) (hd : decode cc pc = .ok (.ifCond .ge off, 3)) (ht : (pc : Int) + off = (tgt : Int)) (kt : 0 ≤ x → V X u d nL Q tgt ls st σ) (kf : ¬ 0 ≤ x → V X u d nL Q (pc + 3) ls st σ) : V X u d nL Q pc ls (.int x :: st) σ :=
  fun H locs la hP hS hl => lv_if_ge F.1 F.2.1 hd ht (fun h => kt h H locs la hP hS hl) (fun h => kf h H locs la hP hS hl)
theorem v_if_gt (F : Fr X u own cc nL) {x : Int32} {off : Int} (tgt : Nat) (hd : decode cc pc = .ok (.ifCond .gt off, 3)) (ht : (pc : Int) + off = (tgt : Int)) (kt : 0 < x → V X u d nL Q tgt ls st σ) (kf : ¬ 0 < x → V X u d nL Q (pc + 3) ls st σ) : V X u d nL Q pc ls (.int x :: st) σ :=
  fun H locs la hP hS hl => lv_if_gt F.1 F.2.1 hd ht (fun h => kt h H locs la hP hS hl) (fun h => kf h H locs la hP hS hl)
theorem v_if_le (F : Fr X u own cc nL) {x : Int32} {off : Int} (tgt : Nat) (hd : decode cc pc = .ok (.ifCond .le off, 3)) (ht : (pc : Int) + off = (tgt : Int)) (kt : x ≤ 0 → V X u d nL Q tgt ls st σ) (kf : ¬ x ≤ 0 → V X u d nL Q (pc + 3) ls st σ) : V X u d nL Q pc ls (.int x :: st) σ :=
  fun H locs la hP hS hl => lv_if_le F.1 F.2.1 hd ht (fun h => kt h H locs la hP hS hl) (fun h => kf h H locs la hP hS hl)
theorem v_icmp_eq (F : Fr X u own cc nL) {x y : Int32} {off : Int} (tgt : Nat) (hd : decode cc pc = .ok (.if_icmp .eq off, 3)) (ht : (pc : Int) + off = (tgt : Int)) (kt : x = y → V X u d nL Q tgt ls st σ) (kf : ¬ x = y → V X u d nL Q (pc + 3) ls st σ) : V X u d nL Q pc ls (.int y :: .int x :: st) σ :=
  fun H locs la hP hS hl => lv_icmp_eq F.1 F.2.1 hd ht (fun h => kt h H locs la hP hS hl) (fun h => kf h H locs la hP hS hl)
theorem v_icmp_ne (F : Fr X u own cc nL) {x y : Int32} {off : Int} (tgt : Nat) (hd : decode cc pc = .ok (.if_icmp .ne off, 3)) (ht : (pc : Int) + off = (tgt : Int)) (kt : ¬ x = y → V X u d nL Q tgt ls st σ) (kf : x = y → V X u d nL Q (pc + 3) ls st σ) : V X u d nL Q pc ls (.int y :: .int x :: st) σ :=
  fun H locs la hP hS hl => lv_icmp_ne F.1 F.2.1 hd ht (fun h => kt h H locs la hP hS hl) (fun h => kf h H locs la hP hS hl)
theorem v_icmp_lt (F : Fr X u own cc nL) {x y : Int32} {off : Int} (tgt : Nat) (hd : decode cc pc = .ok (.if_icmp .lt off, 3)) (ht : (pc : Int) + off = (tgt : Int)) (kt : x < y → V X u d nL Q tgt ls st σ) (kf : ¬ x < y → V X u d nL Q (pc + 3) ls st σ) : V X u d nL Q pc ls (.int y :: .int x :: st) σ :=
  fun H locs la hP hS hl => lv_icmp_lt F.1 F.2.1 hd ht (fun h => kt h H locs la hP hS hl) (fun h => kf h H locs la hP hS hl)
theorem v_icmp_ge (F : Fr X u own cc nL) {x y : Int32} {off : Int} (tgt : Nat) (hd : decode cc pc = .ok (.if_icmp .ge off, 3)) (ht : (pc : Int) + off = (tgt : Int)) (kt : y ≤ x → V X u d nL Q tgt ls st σ) (kf : ¬ y ≤ x → V X u d nL Q (pc + 3) ls st σ) : V X u d nL Q pc ls (.int y :: .int x :: st) σ :=
  fun H locs la hP hS hl => lv_icmp_ge F.1 F.2.1 hd ht (fun h => kt h H locs la hP hS hl) (fun h => kf h H locs la hP hS hl)
theorem v_icmp_gt (F : Fr X u own cc nL) {x y : Int32} {off : Int} (tgt : Nat) (hd : decode cc pc = .ok (.if_icmp .gt off, 3)) (ht : (pc : Int) + off = (tgt : Int)) (kt : y < x → V X u d nL Q tgt ls st σ) (kf : ¬ y < x → V X u d nL Q (pc + 3) ls st σ) : V X u d nL Q pc ls (.int y :: .int x :: st) σ :=
  fun H locs la hP hS hl => lv_icmp_gt F.1 F.2.1 hd ht (fun h => kt h H locs la hP hS hl) (fun h => kf h H locs la hP hS hl)
theorem v_icmp_le (F : Fr X u own cc nL) {x y : Int32} {off : Int} (tgt : Nat) (hd : decode cc pc = .ok (.if_icmp .le off, 3)) (ht : (pc : Int) + off = (tgt : Int)) (kt : x ≤ y → V X u d nL Q tgt ls st σ) (kf : ¬ x ≤ y → V X u d nL Q (pc + 3) ls st σ) : V X u d nL Q pc ls (.int y :: .int x :: st) σ :=
  fun H locs la hP hS hl => lv_icmp_le F.1 F.2.1 hd ht (fun h => kt h H locs la hP hS hl) (fun h => kf h H locs la hP hS hl)
theorem v_goto (F : Fr X u own cc nL) {off : Int} (tgt : Nat) (hd : decode cc pc = .ok (.goto off, 3)) (ht : (pc : Int) + off = (tgt : Int)) (k : V X u d nL Q tgt ls st σ) : V X u d nL Q pc ls st σ :=
  fun H locs la hP hS hl => lv_goto F.1 F.2.1 hd ht (k H locs la hP hS hl)
theorem v_ldc (F : Fr X u own cc nL) {idx : Nat} {v : Int32} (hc : Cond.constant own idx v ∈ lw_tbl) (hd : decode cc pc = .ok (.ldc idx, 2)) (k : V X u d nL Q (pc + 2) ls (.int v :: st) σ) : V X u d nL Q pc ls st σ :=
  fun H locs la hP hS hl => lv_ldc F.1 F.2.1 F.2.2.2.1 (F.2.2.2.2.1 _ (inG hc rfl)) hd (k H locs la hP hS hl)
theorem v_ldcw (F : Fr X u own cc nL) {idx : Nat} {v : Int32} (hc : Cond.constant own idx v ∈ lw_tbl) (hd : decode cc pc = .ok (.ldc_w idx, 3)) (k : V X u d nL Q (pc + 3) ls (.int v :: st) σ) : V X u d nL Q pc ls st σ :=
  fun H locs la hP hS hl => lv_ldcw F.1 F.2.1 F.2.2.2.1 (F.2.2.2.2.1 _ (inG hc rfl)) hd (k H locs la hP hS hl)
theorem v_ldc2 (F : Fr X u own cc nL) {idx : Nat} {v : Int64} (hc : Cond.constantLong own idx v ∈ lw_tbl) (hd : decode cc pc = .ok (.ldc2_w idx, 3)) (k : V X u d nL Q (pc + 3) ls (.long v :: st) σ) : V X u d nL Q pc ls st σ :=
  fun H locs la hP hS hl => lv_ldc2 F.1 F.2.1 F.2.2.2.1 (F.2.2.2.2.1 _ (inG hc rfl)) hd (k H locs la hP hS hl)
theorem v_tableIn (F : Fr X u own cc nL) {dflt lo hi : Int} {offs : Array Int} {len : Nat} {x : Int32} {off : Int} (tgt : Nat) (hd : decode cc pc = .ok (.tableswitch dflt lo hi offs, len)) (h1 : ¬ x.toInt < lo) (h2 : ¬ hi < x.toInt) (ho : offs[(x.toInt - lo).toNat]? = some off) (ht : (pc : Int) + off = (tgt : Int)) (k : V X u d nL Q tgt ls st σ) : V X u d nL Q pc ls (.int x :: st) σ :=
  fun H locs la hP hS hl => lv_tableIn F.1 F.2.1 hd h1 h2 ho ht (k H locs la hP hS hl)
theorem v_tableOut (F : Fr X u own cc nL) {dflt lo hi : Int} {offs : Array Int} {len : Nat} {x : Int32} (tgt : Nat) (hd : decode cc pc = .ok (.tableswitch dflt lo hi offs, len)) (h : x.toInt < lo ∨ hi < x.toInt) (ht : (pc : Int) + dflt = (tgt : Int)) (k : V X u d nL Q tgt ls st σ) : V X u d nL Q pc ls (.int x :: st) σ :=
  fun H locs la hP hS hl => lv_tableOut F.1 F.2.1 hd h ht (k H locs la hP hS hl)
theorem v_lookup (F : Fr X u own cc nL) {dflt : Int} {ps : Array (Int × Int)} {len : Nat} {x : Int32} {off : Int} (tgt : Nat) (hd : decode cc pc = .ok (.lookupswitch dflt ps, len)) (hp : (ps.toList.zip (ps.toList.drop 1)).all (fun (a, next) => a.1 < next.1) = true) (ho : Op.lookupswitch.offset ps.toList dflt x.toInt = off) (ht : (pc : Int) + off = (tgt : Int)) (k : V X u d nL Q tgt ls st σ) : V X u d nL Q pc ls (.int x :: st) σ :=
  fun H locs la hP hS hl => lv_lookup F.1 F.2.1 hd hp ho ht (k H locs la hP hS hl)
/-- an own field's entry: class ci, place j -/
def fok (own : String) (idx ci j : Nat) : Prop := ∃ q : vw_C, cls[ci]? = some q ∧ j < q.2.2 ∧ Cond.fieldLink own idx q.1 (q.2.1 j).2.1 (q.2.1 j).2.2.1 ∈ lw_tbl ∧ (q.2.1 j).1 = q.1
def pok (ci j : Nat) (ty : FieldType) : Prop := ∃ q : vw_C, cls[ci]? = some q ∧ (q.2.1 j).2.2.2 = false ∧ parseFieldDescriptor (q.2.1 j).2.2.1 = some ty
theorem cls_in : ∀ (ci : Nat) (q : vw_C), cls[ci]? = some q → ∀ w ∈ u_ws q.1 q.2.1 q.2.2, w ∈ tbG := by
  intro ci q h w hw
  have hw2 := hw
  obtain ⟨k, -, hk⟩ := List.mem_map.mp hw2
  refine inG ?_ (by rw [← hk]; unfold u_lay; split <;> rfl)
  have hlt : ci < 13 := (List.getElem?_eq_some_iff.mp h).1
  rcases ci with _ | _ | _ | _ | _ | _ | _ | _ | _ | _ | _ | _ | _ | ci
  all_goals first | (exfalso; omega) | (cases h; first | exact i_T w hw | exact i_B w hw | exact i_P w hw | exact i_K w hw | exact i_D w hw | exact i_R w hw | exact i_Th w hw | exact i_Re w hw | exact i_Cl w hw | exact i_Ga w hw | exact i_La w hw | exact i_Yo w hw | exact i_M w hw)
def tyD (q : vw_C) (k : Nat) : FieldType := (parseFieldDescriptor (q.2.1 k).2.2.1).getD .int
theorem cls_ty : ∀ (ci : Nat) (q : vw_C), cls[ci]? = some q → (∀ k, k < q.2.2 → parseFieldDescriptor (q.2.1 k).2.2.1 = some (tyD q k)) ∧ ∀ a, a < q.2.2 → ∀ b, b < q.2.2 → a ≠ b → (q.2.1 a).2.1 ≠ (q.2.1 b).2.1 := by
  intro ci q h
  have hlt : ci < 13 := (List.getElem?_eq_some_iff.mp h).1
  rcases ci with _ | _ | _ | _ | _ | _ | _ | _ | _ | _ | _ | _ | _ | ci
  all_goals first | (exfalso; omega) | (cases h; exact ⟨by decide +kernel, by decide +kernel⟩)
theorem v_get (F : Fr X u own cc nL) {k ci j idx : Nat} {fs : List (Nat ⊕ Bool)} {f : Nat ⊕ Bool} (hl : fok own idx ci j) (hG : Gam[k]? = some (.inr (.inr (ci, fs)))) (hf : fs[j]? = some f) (hd : decode cc pc = .ok (.getfield idx, 3)) (kk : V X u d nL Q (pc + 3) ls (g_f u.2.1 σ k j f :: st) σ) : V X u d nL Q pc ls (.ref (u.2.1 k) :: st) σ := by
  obtain ⟨q, hq, hj, hlk, hsm⟩ := hl
  intro H locs la hP hS hla
  refine va_get (D := u.1) (cl := cls) (ws := wU u σ) (C := q.1) (T := q.2.1) (N := q.2.2) (ref := q.1) F.1 F.2.1 F.2.2.2.2.1 (cls_in ci q hq) F.2.2.2.1 F.2.2.2.2.2.1.K0 hP k (wU_get u σ hG) hq j hj (F.2.2.2.2.1 _ (inG hlk rfl)) (fun x h => by rw [hsm] at h; exact h) ?_ hd (kk H locs la hP hS hla)
  show (g_fs u.2.1 σ k 0 fs)[j]? = _
  rw [g_fs_get, hf, Nat.zero_add]
  first | done | rfl
/-- a number of a state changes -/
def uI (σ : St) (k j : Nat) (v : Int32) : St := (fun a => if a = k then upd (σ.1 k) j v else σ.1 a, σ.2)
def uL (σ : St) (k j : Nat) (v : Int64) : St := (σ.1, fun a => if a = k then vp_updL (σ.2 k) j v else σ.2 a)
def uA (σ : St) (k : Nat) (g : Nat → Int32) : St := (fun a => if a = k then g else σ.1 a, σ.2)
theorem g_fs_set (A : Nat → Nat) {σ σ' : St} (k : Nat) (v : Value) (f : Nat ⊕ Bool) : ∀ (fs : List (Nat ⊕ Bool)) (j i : Nat), fs[i]? = some f → g_f A σ' k (j + i) f = v → (∀ a g, a ≠ j + i → g_f A σ' k a g = g_f A σ k a g) → g_fs A σ' k j fs = (g_fs A σ k j fs).set i v := by
  intro fs j i hi hv ho
  apply List.ext_getElem?
  intro b
  by_cases hb : b = i
  · subst hb
    have hl : b < (g_fs A σ k j fs).length := by rw [g_fs_len]; exact (List.getElem?_eq_some_iff.mp hi).1
    rw [List.getElem?_set_self hl, g_fs_get, hi]
    exact congrArg some hv
  · rw [List.getElem?_set_ne (Ne.symm hb), g_fs_get, g_fs_get]
    congr 1
    funext g
    exact ho _ g (by omega)
theorem v_put0 (F : Fr X u own cc nL) {k ci j idx : Nat} {fs : List (Nat ⊕ Bool)} {f : Nat ⊕ Bool} {ty : FieldType} {v : Value} {σ' : St} (hl : fok own idx ci j) (hp : pok ci j ty) (hG : Gam[k]? = some (.inr (.inr (ci, fs)))) (hf : fs[j]? = some f) (hn : narrow ty v = v) (hft : fits ty v = true)
    (hv : g_f u.2.1 σ' k j f = v) (ho : ∀ a g, a ≠ j → g_f u.2.1 σ' k a g = g_f u.2.1 σ k a g) (h1 : ∀ a, a ≠ k → σ'.1 a = σ.1 a) (h2 : ∀ a, a ≠ k → σ'.2 a = σ.2 a)
    (hd : decode cc pc = .ok (.putfield idx, 3)) (kk : V X u d nL Q (pc + 3) ls st σ') : V X u d nL Q pc ls (v :: .ref (u.2.1 k) :: st) σ := by
  obtain ⟨q, hq, hj, hlk, hsm⟩ := hl
  obtain ⟨q', hq', hfin, hty⟩ := hp
  cases hq.symm.trans hq'
  intro H locs la hP hS hla
  have hlen : j < (g_fs u.2.1 σ k 0 fs).length := by rw [g_fs_len]; exact (List.getElem?_eq_some_iff.mp hf).1
  refine va_put (D := u.1) (cl := cls) (ws := wU u σ) (C := q.1) (T := q.2.1) (N := q.2.2) (ref := q.1) (A := AU u) F.1 F.2.1 F.2.2.2.2.1 (cls_in ci q hq) (tyD q) (cls_ty ci q hq).1 (cls_ty ci q hq).2 F.2.2.2.1 F.2.2.2.2.2.1.K0 hP (F.2.2.2.2.2.2.2.1.D σ) hS k (wU_get u σ hG) hq j hj (F.2.2.2.2.1 _ (inG hlk rfl)) (fun x h => by rw [hsm] at h; exact h) hfin hty hn hft hlen hd (fun H1 locs1 hP1 hD1 hS1 => ?_)
  refine kk H1 locs1 la ?_ hS1 hla
  rw [← wU_set u (σ' := σ') hG ?_ h1 h2]
  · exact hP1
  · show (Sum.inr (ci, g_fs u.2.1 σ' k 0 fs) : va_E) = _
    rw [g_fs_set u.2.1 k v f fs 0 j hf (by rw [Nat.zero_add]; exact hv) (fun a g h => ho a g (by omega))]

theorem v_puti (F : Fr X u own cc nL) {k ci j idx : Nat} {fs : List (Nat ⊕ Bool)} {v : Int32} (hl : fok own idx ci j) (hp : pok ci j .int) (hG : Gam[k]? = some (.inr (.inr (ci, fs)))) (hf : fs[j]? = some (.inr false)) (hd : decode cc pc = .ok (.putfield idx, 3)) (kk : V X u d nL Q (pc + 3) ls st (uI σ k j v)) : V X u d nL Q pc ls (.int v :: .ref (u.2.1 k) :: st) σ := by
  refine v_put0 F hl hp hG hf (v := .int v) rfl rfl ?_ ?_ ?_ ?_ hd kk
  · simp [g_f, uI, upd, vp_updL]
  · intro a g h
    rcases g with r | b
    · rfl
    · cases b <;> simp [g_f, uI, upd, vp_updL, h]
  · intro a h
    simp [uI, h]
  · intro a h
    simp [uI, h]
theorem v_putl (F : Fr X u own cc nL) {k ci j idx : Nat} {fs : List (Nat ⊕ Bool)} {v : Int64} (hl : fok own idx ci j) (hp : pok ci j .long) (hG : Gam[k]? = some (.inr (.inr (ci, fs)))) (hf : fs[j]? = some (.inr true)) (hd : decode cc pc = .ok (.putfield idx, 3)) (kk : V X u d nL Q (pc + 3) ls st (uL σ k j v)) : V X u d nL Q pc ls (.long v :: .ref (u.2.1 k) :: st) σ := by
  refine v_put0 F hl hp hG hf (v := .long v) rfl rfl ?_ ?_ ?_ ?_ hd kk
  · simp [g_f, uL, upd, vp_updL]
  · intro a g h
    rcases g with r | b
    · rfl
    · cases b <;> simp [g_f, uL, upd, vp_updL, h]
  · intro a h
    simp [uL, h]
  · intro a h
    simp [uL, h]
theorem v_putz (F : Fr X u own cc nL) {k ci j idx : Nat} {fs : List (Nat ⊕ Bool)} {v : Int32} (hl : fok own idx ci j) (hp : pok ci j .boolean) (hG : Gam[k]? = some (.inr (.inr (ci, fs)))) (hf : fs[j]? = some (.inr false)) (hn : narrow .boolean (.int v) = .int v) (hz : fits .boolean (.int v) = true) (hd : decode cc pc = .ok (.putfield idx, 3)) (kk : V X u d nL Q (pc + 3) ls st (uI σ k j v)) : V X u d nL Q pc ls (.int v :: .ref (u.2.1 k) :: st) σ := by
  refine v_put0 F hl hp hG hf (v := .int v) hn hz ?_ ?_ ?_ ?_ hd kk
  · simp [g_f, uI, upd, vp_updL]
  · intro a g h
    rcases g with r | b
    · rfl
    · cases b <;> simp [g_f, uI, upd, vp_updL, h]
  · intro a h
    simp [uI, h]
  · intro a h
    simp [uI, h]
theorem aTy_a {k n : Nat} {t : FieldType} (h : Gam[k]? = some (.inl (t, n))) : aTy k = some t := by unfold aTy; rw [h]
theorem aTy_r {k n : Nat} {t : FieldType} {r : Nat → Nat} (h : Gam[k]? = some (.inr (.inl (t, n, r)))) : aTy k = some t := by unfold aTy; rw [h]
theorem v_iald (F : Fr X u own cc nL) {k n : Nat} {i : Int32} (hG : Gam[k]? = some (.inl (.int, n))) (hin : vp_in i n) (hd : decode cc pc = .ok (.iaload, 1)) (kk : V X u d nL Q (pc + 1) ls (.int (σ.1 k i.toNatClampNeg) :: st) σ) : V X u d nL Q pc ls (.int i :: .ref (u.2.1 k) :: st) σ :=
  fun H locs la hP hS hl => va_iald (D := u.1) (cl := cls) F.1 F.2.1 (F.2.2.2.2.2.1.K1 (aTy_a hG)) hP k 0 (wU_get u σ hG) rfl hin hd (kk H locs la hP hS hl)
theorem v_bald (F : Fr X u own cc nL) {k n : Nat} {i : Int32} (hG : Gam[k]? = some (.inl (.byte, n))) (hin : vp_in i n) (hd : decode cc pc = .ok (.baload, 1)) (kk : V X u d nL Q (pc + 1) ls (.int (σ.1 k i.toNatClampNeg) :: st) σ) : V X u d nL Q pc ls (.int i :: .ref (u.2.1 k) :: st) σ :=
  fun H locs la hP hS hl => va_bald (D := u.1) (cl := cls) F.1 F.2.1 (F.2.2.2.2.2.1.K1 (aTy_a hG)) hP k 0 (wU_get u σ hG) rfl hin hd (kk H locs la hP hS hl)
theorem v_zald (F : Fr X u own cc nL) {k n : Nat} {i : Int32} (hG : Gam[k]? = some (.inl (.boolean, n))) (hin : vp_in i n) (hd : decode cc pc = .ok (.baload, 1)) (kk : V X u d nL Q (pc + 1) ls (.int (σ.1 k i.toNatClampNeg) :: st) σ) : V X u d nL Q pc ls (.int i :: .ref (u.2.1 k) :: st) σ :=
  fun H locs la hP hS hl => va_zald (D := u.1) (cl := cls) F.1 F.2.1 (F.2.2.2.2.2.1.K1 (aTy_a hG)) hP k 0 (wU_get u σ hG) rfl hin hd (kk H locs la hP hS hl)
theorem v_iast (F : Fr X u own cc nL) {k n : Nat} {i x : Int32} (hG : Gam[k]? = some (.inl (.int, n))) (hin : vp_in i n) (hd : decode cc pc = .ok (.iastore, 1)) (kk : V X u d nL Q (pc + 1) ls st (uI σ k i.toNatClampNeg x)) : V X u d nL Q pc ls (.int x :: .int i :: .ref (u.2.1 k) :: st) σ := by
  intro H locs la hP hS hl
  refine va_iast (D := u.1) (cl := cls) (A := AU u) F.1 F.2.1 (F.2.2.2.2.2.1.K1 (aTy_a hG)) hP (F.2.2.2.2.2.2.2.1.D σ) hS k 0 (wU_get u σ hG) rfl hin hd (fun H1 locs1 hP1 hD1 hS1 => ?_)
  refine kk H1 locs1 la ?_ hS1 hl
  rw [← wU_set u (σ' := uI σ k i.toNatClampNeg x) hG ?_ ?_ ?_]
  · exact hP1
  · simp [g_e, uI]
  · intro a h
    simp [uI, h]
  · intro a h
    rfl
theorem v_bast (F : Fr X u own cc nL) {k n : Nat} {i x : Int32} (hG : Gam[k]? = some (.inl (.byte, n))) (hin : vp_in i n) (hd : decode cc pc = .ok (.bastore, 1)) (kk : V X u d nL Q (pc + 1) ls st (uI σ k i.toNatClampNeg (vp_nar .byte x))) : V X u d nL Q pc ls (.int x :: .int i :: .ref (u.2.1 k) :: st) σ := by
  intro H locs la hP hS hl
  refine va_bast (D := u.1) (cl := cls) (A := AU u) F.1 F.2.1 (F.2.2.2.2.2.1.K1 (aTy_a hG)) hP (F.2.2.2.2.2.2.2.1.D σ) hS k 0 (wU_get u σ hG) rfl hin hd (fun H1 locs1 hP1 hD1 hS1 => ?_)
  refine kk H1 locs1 la ?_ hS1 hl
  rw [← wU_set u (σ' := uI σ k i.toNatClampNeg (vp_nar .byte x)) hG ?_ ?_ ?_]
  · exact hP1
  · simp [g_e, uI]
  · intro a h
    simp [uI, h]
  · intro a h
    rfl
theorem v_zast (F : Fr X u own cc nL) {k n : Nat} {i x : Int32} (hG : Gam[k]? = some (.inl (.boolean, n))) (hin : vp_in i n) (hd : decode cc pc = .ok (.bastore, 1)) (kk : V X u d nL Q (pc + 1) ls st (uI σ k i.toNatClampNeg (vp_nar .boolean x))) : V X u d nL Q pc ls (.int x :: .int i :: .ref (u.2.1 k) :: st) σ := by
  intro H locs la hP hS hl
  refine va_zast (D := u.1) (cl := cls) (A := AU u) F.1 F.2.1 (F.2.2.2.2.2.1.K1 (aTy_a hG)) hP (F.2.2.2.2.2.2.2.1.D σ) hS k 0 (wU_get u σ hG) rfl hin hd (fun H1 locs1 hP1 hD1 hS1 => ?_)
  refine kk H1 locs1 la ?_ hS1 hl
  rw [← wU_set u (σ' := uI σ k i.toNatClampNeg (vp_nar .boolean x)) hG ?_ ?_ ?_]
  · exact hP1
  · simp [g_e, uI]
  · intro a h
    simp [uI, h]
  · intro a h
    rfl
theorem v_aald (F : Fr X u own cc nL) {k n : Nat} {i : Int32} {ty : FieldType} {r : Nat → Nat} (hG : Gam[k]? = some (.inr (.inl (ty, n, r)))) (hty : ty.isReference = true) (hin : vp_in i n) (hd : decode cc pc = .ok (.aaload, 1)) (kk : V X u d nL Q (pc + 1) ls (.ref (u.2.1 (r i.toNatClampNeg)) :: st) σ) : V X u d nL Q pc ls (.int i :: .ref (u.2.1 k) :: st) σ := by
  intro H locs la hP hS hl
  have hlt : i.toNatClampNeg < n := Nat.not_le.mp fun q => hin (Or.inr q)
  have hc := hP k _ (wU_get u σ hG)
  exact W.aald (v := .ref (u.2.1 (r i.toNatClampNeg))) (ty := ty) F.1 F.2.1 hc ((F.2.2.2.2.2.1.2 k ty (aTy_r hG)).1 n (fun j => .ref (u.2.1 (r j)))) hty (fun q => by cases q) (by show ¬ (i < 0 ∨ (arrV _ _ _).slots.size ≤ _); rw [arrV_size]; exact hin) (by show (arrV _ _ _).slots[_]? = _; rw [arrV_read _ _ hlt]; rfl) rfl rfl hd (kk H locs la hP hS hl)
theorem v_alen (F : Fr X u own cc nL) {k n : Nat} {ty : FieldType} {v : Int32} (hG : Gam[k]? = some (.inl (ty, n))) (hv : Int32.ofNat n = v) (hd : decode cc pc = .ok (.arraylength, 1)) (kk : V X u d nL Q (pc + 1) ls (.int v :: st) σ) : V X u d nL Q pc ls (.ref (u.2.1 k) :: st) σ :=
  fun H locs la hP hS hl => va_alen (D := u.1) (cl := cls) F.1 F.2.1 (F.2.2.2.2.2.1.K1 (aTy_a hG)) hP k 0 (wU_get u σ hG) rfl hv hd (kk H locs la hP hS hl)
theorem v_gets (F : Fr X u own cc nL) {i idx : Nat} {q : String × String × FieldType × Nat × (Nat → Int32)} (hq : stab[i]? = some q) (hlk : Cond.fieldLink own idx "TakerBook$Reader" q.1 q.2.1 ∈ lw_tbl) (hd : decode cc pc = .ok (.getstatic idx, 3)) (kk : V X u d nL Q (pc + 3) ls (.ref (u.2.1 (1000 + i)) :: st) σ) : V X u d nL Q pc ls st σ :=
  fun H locs la hP hS hl => va_gets (ref := "TakerBook$Reader") F.1 F.2.1 (F.2.2.2.2.2.2.1.1 i q hq).1 hS F.2.2.2.1 (F.2.2.2.2.1 _ (inG hlk rfl)) (fun _ h => h) hd (kk H locs la hP hS hl)
theorem v_tabi (F : Fr X u own cc nL) {i : Nat} {q : String × String × FieldType × Nat × (Nat → Int32)} (hq : stab[i]? = some q) (hty : q.2.2.1 = .int) {x : Int32} (hin : vp_in x q.2.2.2.1) (hd : decode cc pc = .ok (.iaload, 1)) (kk : V X u d nL Q (pc + 1) ls (.int (q.2.2.2.2 x.toNatClampNeg) :: st) σ) : V X u d nL Q pc ls (.int x :: .ref (u.2.1 (1000 + i)) :: st) σ :=
  fun H locs la hP hS hl => va_ti F.1 F.2.1 (by have h := (F.2.2.2.2.2.2.1.1 i q hq).2; rw [hty] at h; exact h) hS hin rfl hd (kk H locs la hP hS hl)
theorem v_tabc (F : Fr X u own cc nL) {i : Nat} {q : String × String × FieldType × Nat × (Nat → Int32)} (hq : stab[i]? = some q) (hty : q.2.2.1 = .char) {x : Int32} (hin : vp_in x q.2.2.2.1) (hd : decode cc pc = .ok (.caload, 1)) (kk : V X u d nL Q (pc + 1) ls (.int (q.2.2.2.2 x.toNatClampNeg) :: st) σ) : V X u d nL Q pc ls (.int x :: .ref (u.2.1 (1000 + i)) :: st) σ :=
  fun H locs la hP hS hl => va_tc F.1 F.2.1 (by have h := (F.2.2.2.2.2.2.1.1 i q hq).2; rw [hty] at h; exact h) hS hin rfl hd (kk H locs la hP hS hl)
theorem v_tablen (F : Fr X u own cc nL) {i : Nat} {q : String × String × FieldType × Nat × (Nat → Int32)} (hq : stab[i]? = some q) {v : Int32} (hv : Int32.ofNat q.2.2.2.1 = v) (hd : decode cc pc = .ok (.arraylength, 1)) (kk : V X u d nL Q (pc + 1) ls (.int v :: st) σ) : V X u d nL Q pc ls (.ref (u.2.1 (1000 + i)) :: st) σ :=
  fun H locs la hP hS hl => va_tlen F.1 F.2.1 (F.2.2.2.2.2.2.1.1 i q hq).2 hS hv hd (kk H locs la hP hS hl)
/-- the ends -/
theorem v_iret (F : Fr X u own cc nL) {P : Int32 → St → Prop} {x : Int32} {ret : FieldType} (hr : X.meth.sig.returnType = some ret) (hn : narrow ret (.int x) = .int x) (hd : decode cc pc = .ok (.ireturn, 1)) (h : P x σ) : V X u d nL (Qe X u (va_Qi P (BU u) (AU u))) pc ls [.int x] σ :=
  fun H locs la hP hS hl => W.zret F.1 F.2.1 hr hn (fun t ht hW => ⟨⟨x, σ, rfl, h, by show va_P _ _ _ t.heap; rw [ht]; exact hP⟩, hS.F ht⟩) hS.2.2 hd F.2.2.2.2.2.2.2.2
theorem v_lret (F : Fr X u own cc nL) {P : Int64 → St → Prop} {x : Int64} (hr : X.meth.sig.returnType = some .long) (hd : decode cc pc = .ok (.lreturn, 1)) (h : P x σ) : V X u d nL (Qe X u (va_Ql P (BU u) (AU u))) pc ls [.long x] σ :=
  fun H locs la hP hS hl => W.lret F.1 F.2.1 hr (fun t ht hW => ⟨⟨x, σ, rfl, h, by show va_P _ _ _ t.heap; rw [ht]; exact hP⟩, hS.F ht⟩) hS.2.2 hd F.2.2.2.2.2.2.2.2
theorem v_vret (F : Fr X u own cc nL) {P : St → Prop} (hr : X.meth.sig.returnType = none) (hd : decode cc pc = .ok (.return_, 1)) (h : P σ) : V X u d nL (Qe X u (va_Qv P (BU u) (AU u))) pc ls [] σ :=
  fun H locs la hP hS hl => W.vret F.1 F.2.1 hr (fun t ht hW => ⟨⟨σ, rfl, h, by show va_P _ _ _ t.heap; rw [ht]; exact hP⟩, hS.F ht⟩) hS.2.2 hd F.2.2.2.2.2.2.2.2
theorem v_aret (F : Fr X u own cc nL) {k : Nat} {n : String} (hr : X.meth.sig.returnType = some (.object n)) (hd : decode cc pc = .ok (.areturn, 1)) : V X u d nL (Qe X u (va_Qr (fun _ : St => True) (fun _ a t => a = u.2.1 k ∧ BU u σ t) (AU u))) pc ls [.ref (u.2.1 k)] σ :=
  fun H locs la hP hS hl => W.aret F.1 F.2.1 hr (Or.inl ⟨n, rfl⟩) (Or.inr ⟨_, rfl⟩) (fun t ht hW => ⟨⟨σ, u.2.1 k, rfl, trivial, rfl, by show va_P _ _ _ t.heap; rw [ht]; exact hP⟩, hS.F ht⟩) hS.2.2 hd F.2.2.2.2.2.2.2.2
end
end
section
-- calls
def mok (y : MethodName) (cc : ByteArray) (nL : Nat) (ret : Option FieldType) (n : Nat) : Prop := Cond.code y cc nL ret ∈ lw_tbl ∧ (y.cls ≠ "java/lang/invoke/MethodHandle" ∧ y.cls ≠ "java/lang/invoke/VarHandle" ∧ (parseMethodDescriptor y.desc).map (fun d => d.parameters.length) = some n) ∧ Cond.initialized y.cls ∈ lw_tbl ∧ nL ≤ 21
def siteV (own : String) (idx : Nat) (y : MethodName) : Prop := Cond.methodLink own idx y ∈ lw_tbl ∧ Cond.instanceMethod y ∈ lw_tbl ∧ Cond.selects y.cls y y ∈ lw_tbl
def siteS (own : String) (idx : Nat) (y : MethodName) : Prop := Cond.methodLink own idx y ∈ lw_tbl ∧ Cond.static y ∈ lw_tbl
def siteN (own : String) (idx : Nat) (y : MethodName) (host : String) : Prop := (own, idx, y, host) ∈ nestL ∧ Cond.static y ∈ lw_tbl
def siteU (own : String) (idx : Nat) (x y : MethodName) (C : String) : Prop := Cond.methodLink own idx x ∈ lw_tbl ∧ Cond.sameMethod x.cls x.cls x.name x.desc ∈ lw_tbl ∧ Cond.instanceMethod x ∈ lw_tbl ∧ (∃ b0 m0 r0, Cond.code x b0 m0 r0 ∈ lw_tbl) ∧ Cond.selects C x y ∈ lw_tbl ∧ Cond.instanceMethod y ∈ lw_tbl ∧ y.desc = x.desc
def siteSU (own : String) (idx : Nat) (y : MethodName) : Prop := Cond.methodLink own idx y ∈ lw_tbl ∧ Cond.sameMethod y.cls y.cls y.name y.desc ∈ lw_tbl ∧ Cond.superclass own y.cls ∈ lw_tbl ∧ Cond.instanceMethod y ∈ lw_tbl ∧ y.name ≠ "<init>"
def recv (k : Nat) (C : String) : Prop := ∃ (ci : Nat) (fs : List (Nat ⊕ Bool)) (q : vw_C), Gam[k]? = some (.inr (.inr (ci, fs))) ∧ cls[ci]? = some q ∧ q.1 = C
theorem wsY_good {y : MethodName} {cc : ByteArray} {nL : Nat} {ret : Option FieldType} (h : Cond.code y cc nL ret ∈ lw_tbl) : GoodIn tbG (wsY y cc nL ret) := by
  intro w hw
  rcases List.mem_cons.mp hw with rfl | hw
  · exact ⟨inG h rfl, Or.inl rfl⟩
  · exact ⟨hw, tbG_good hw⟩
section
variable {X : FX} {u : Un} {own : String} {cc : ByteArray} {d nL : Nat} {Q : State → Prop} {pc : Nat} {ls : List (Nat × Value)} {stk st : List Value} {σ : St}
theorem room_le {d' d nL' : Nat} (hd : d' + 1 ≤ d) (hn : nL' ≤ 21) : (rmD d').frames + 1 ≤ (rmD d).frames ∧ 8 + (nL' + 11) + (rmD d').locals ≤ (rmD d).locals := by
  constructor
  · exact hd
  · show 8 + (nL' + 11) + d' * 40 ≤ d * 40
    omega
theorem v_fix (F : Fr X u own cc nL) : CallFix X.1 X.m X.c cc nL X.s X.args tbG own := ⟨F.1, F.2.1, F.2.2.1, F.2.2.2.1, F.2.2.2.2.1⟩
theorem v_preS (F : Fr X u own cc nL) (As : List Value) {H : Heap} {locs : List Loc} (hP : va_P u.1 cls (wU u σ) H) (hS : va_S (AU u) X.s.heap H locs) : PreS X.s H (PcU u As σ) As :=
  ⟨PcU_blind u As σ, fun U hU hW => ⟨rfl, by rw [hU]; exact hP, Uk.moved hW.alike F.2.2.2.2.2.1, F.2.2.2.2.2.2.1.moved hS hU hW⟩⟩
theorem v_preV (F : Fr X u own cc nL) (As : List Value) {k : Nat} {C : String} (hr : recv k C) {H : Heap} {locs : List Loc} (hP : va_P u.1 cls (wU u σ) H) (hS : va_S (AU u) X.s.heap H locs) : PreV X.s H C (u.2.1 k) (PcU u (.ref (u.2.1 k) :: As) σ) As := by
  obtain ⟨ci, fs, q, hG, hq, rfl⟩ := hr
  exact ⟨PcU_blind u _ σ, va_recv F.2.2.2.2.2.1.K0 hP hq (wU_get u σ hG), fun U hU hW => ⟨rfl, by rw [hU]; exact hP, Uk.moved hW.alike F.2.2.2.2.2.1, F.2.2.2.2.2.2.1.moved hS hU hW⟩⟩
theorem v_runi {P : Int32 → St → Prop} {av : Array Value} (hrun : ∀ (H : Heap) (locs : List Loc) (la : Array Slot), va_P u.1 cls (wU u σ) H → va_S (AU u) X.s.heap H locs → la.size = nL → va_Run X.1 X.2.1 X.2.2.1 (rmD d) X.s X.m X.args X.below X.meth X.c H locs 0 0 0 0 (F0 X.m pc la stk) st (va_Qi P (BU u) (AU u) av) (AU u))
    (kk : ∀ (r : Int32) (σ' : St), P r σ' → V X u d nL Q (pc + 3) ls (.int r :: st) σ') : V X u d nL Q pc ls stk σ :=
  fun H locs la hP hS hl => va_calli (hrun H locs la hP hS hl.1) hS (fun q _ h => h) (fun q h => h) (fun r u' t H1 locs1 ht hvm hp hB hz hk hS1 => kk r u' hp H1 locs1 la (by rw [← ht]; exact hB) hS1 hl)
theorem v_runl {P : Int64 → St → Prop} {av : Array Value} (hrun : ∀ (H : Heap) (locs : List Loc) (la : Array Slot), va_P u.1 cls (wU u σ) H → va_S (AU u) X.s.heap H locs → la.size = nL → va_Run X.1 X.2.1 X.2.2.1 (rmD d) X.s X.m X.args X.below X.meth X.c H locs 0 0 0 0 (F0 X.m pc la stk) st (va_Ql P (BU u) (AU u) av) (AU u))
    (kk : ∀ (r : Int64) (σ' : St), P r σ' → V X u d nL Q (pc + 3) ls (.long r :: st) σ') : V X u d nL Q pc ls stk σ :=
  fun H locs la hP hS hl => va_calll (hrun H locs la hP hS hl.1) hS (fun q _ h => h) (fun q h => h) (fun r u' t H1 locs1 ht hvm hp hB hz hk hS1 => kk r u' hp H1 locs1 la (by rw [← ht]; exact hB) hS1 hl)
theorem v_runv {P : St → Prop} {av : Array Value} (hrun : ∀ (H : Heap) (locs : List Loc) (la : Array Slot), va_P u.1 cls (wU u σ) H → va_S (AU u) X.s.heap H locs → la.size = nL → va_Run X.1 X.2.1 X.2.2.1 (rmD d) X.s X.m X.args X.below X.meth X.c H locs 0 0 0 0 (F0 X.m pc la stk) st (va_Qv P (BU u) (AU u) av) (AU u))
    (kk : ∀ (σ' : St), P σ' → V X u d nL Q (pc + 3) ls st σ') : V X u d nL Q pc ls stk σ :=
  fun H locs la hP hS hl => va_callv (hrun H locs la hP hS hl.1) hS (fun q _ h => h) (fun q h => h) (fun u' t H1 locs1 ht hvm hp hB hz hk hS1 => kk u' hp H1 locs1 la (by rw [← ht]; exact hB) hS1 hl)
theorem v_runr {k : Nat} {av : Array Value} (hrun : ∀ (H : Heap) (locs : List Loc) (la : Array Slot), va_P u.1 cls (wU u σ) H → va_S (AU u) X.s.heap H locs → la.size = nL → va_Run X.1 X.2.1 X.2.2.1 (rmD d) X.s X.m X.args X.below X.meth X.c H locs 0 0 0 0 (F0 X.m pc la stk) st (va_Qr (fun _ : St => True) (fun _ a t => a = u.2.1 k ∧ BU u σ t) (AU u) av) (AU u))
    (kk : V X u d nL Q (pc + 3) ls (.ref (u.2.1 k) :: st) σ) : V X u d nL Q pc ls stk σ :=
  fun H locs la hP hS hl => va_callr (hrun H locs la hP hS hl.1) hS (fun q _ h => h) (fun q h => h) (fun u' ra t H1 locs1 ht hvm hp hB hz hk hS1 => by
    obtain ⟨rfl, hB⟩ := hB
    exact kk H1 locs1 la (by rw [← ht]; exact hB) hS1 hl)
variable {y x : MethodName} {cc' : ByteArray} {nL' d' idx k : Nat} {ret : Option FieldType} {As : List Value} {Qc : Array Value → State → Outcome → State → Prop} {host C : String}
theorem r_V (F : Fr X u own cc nL) (hM : Met X.2.1 y (wsY y cc' nL' ret) (rmD d') (PcU u (.ref (u.2.1 k) :: As) σ) Qc 0 0 (AU u)) (hm : mok y cc' nL' ret As.length) (hs : siteV own idx y) (hr : recv k y.cls) (hd : d' + 1 ≤ d) (hst : stk = As.reverse ++ .ref (u.2.1 k) :: st) (hw : (st.map fun v => v.category).sum ≤ 8) (hdg : decode cc pc = .ok (.invokevirtual idx, 3)) :
    ∀ (H : Heap) (locs : List Loc) (la : Array Slot), va_P u.1 cls (wU u σ) H → va_S (AU u) X.s.heap H locs → la.size = nL → va_Run X.1 X.2.1 X.2.2.1 (rmD d) X.s X.m X.args X.below X.meth X.c H locs 0 0 0 0 (F0 X.m pc la stk) st (Qc (Value.ref (u.2.1 k) :: As).toArray) (AU u) :=
  fun H locs la hP hS hl => va_runV (v_fix F) hM ⟨callB_of As.length F.2.2.2.2.1 (wsY_good hm.1) rfl rfl rfl (F.2.2.2.2.1 _ (inG hm.2.2.1 rfl)) (F.2.2.2.2.1 _ (inG hs.1 rfl)) hm.2.1 (room_le hd hm.2.2.2), F.2.2.2.2.1 _ (inG hs.2.1 rfl), F.2.2.2.2.1 _ (inG hs.2.2 rfl)⟩ (v_preV F As hr hP hS) rfl rfl hl hst (lv_room hw) hdg ⟨Nat.zero_le _, Nat.zero_le _⟩
theorem r_S (F : Fr X u own cc nL) (hM : Met X.2.1 y (wsY y cc' nL' ret) (rmD d') (PcU u As σ) Qc 0 0 (AU u)) (hm : mok y cc' nL' ret As.length) (hs : siteS own idx y) (hd : d' + 1 ≤ d) (hst : stk = As.reverse ++ st) (hw : (st.map fun v => v.category).sum ≤ 8) (hdg : decode cc pc = .ok (.invokestatic idx, 3)) :
    ∀ (H : Heap) (locs : List Loc) (la : Array Slot), va_P u.1 cls (wU u σ) H → va_S (AU u) X.s.heap H locs → la.size = nL → va_Run X.1 X.2.1 X.2.2.1 (rmD d) X.s X.m X.args X.below X.meth X.c H locs 0 0 0 0 (F0 X.m pc la stk) st (Qc As.toArray) (AU u) :=
  fun H locs la hP hS hl => va_runS (v_fix F) hM ⟨callB_of As.length F.2.2.2.2.1 (wsY_good hm.1) rfl rfl rfl (F.2.2.2.2.1 _ (inG hm.2.2.1 rfl)) (F.2.2.2.2.1 _ (inG hs.1 rfl)) hm.2.1 (room_le hd hm.2.2.2), F.2.2.2.2.1 _ (inG hs.2 rfl)⟩ (v_preS F As hP hS) rfl rfl hl hst (lv_room hw) hdg ⟨Nat.zero_le _, Nat.zero_le _⟩
theorem r_N (F : Fr X u own cc nL) (hM : Met X.2.1 y (wsY y cc' nL' ret) (rmD d') (PcU u As σ) Qc 0 0 (AU u)) (hm : mok y cc' nL' ret As.length) (hs : siteN own idx y host) (hd : d' + 1 ≤ d) (hst : stk = As.reverse ++ st) (hw : (st.map fun v => v.category).sum ≤ 8) (hdg : decode cc pc = .ok (.invokestatic idx, 3)) :
    ∀ (H : Heap) (locs : List Loc) (la : Array Slot), va_P u.1 cls (wU u σ) H → va_S (AU u) X.s.heap H locs → la.size = nL → va_Run X.1 X.2.1 X.2.2.1 (rmD d) X.s X.m X.args X.below X.meth X.c H locs 0 0 0 0 (F0 X.m pc la stk) st (Qc As.toArray) (AU u) :=
  fun H locs la hP hS hl => va_runSN (v_fix F) hM ⟨va_cnB (host := host) As.length F.2.2.2.2.1 (wsY_good hm.1) rfl rfl rfl (F.2.2.2.2.2.2.1.2 _ hs.1) (F.2.2.2.2.1 _ (inG hm.2.2.1 rfl)) hm.2.1 (room_le hd hm.2.2.2), F.2.2.2.2.1 _ (inG hs.2 rfl), trivial⟩ (v_preS F As hP hS) rfl rfl hl hst (lv_room hw) hdg ⟨Nat.zero_le _, Nat.zero_le _⟩
theorem r_U (F : Fr X u own cc nL) (hM : Met X.2.1 y (wsY y cc' nL' ret) (rmD d') (PcU u (.ref (u.2.1 k) :: As) σ) Qc 0 0 (AU u)) (hm : mok y cc' nL' ret As.length) (hs : siteU own idx x y C) (hx : x.cls ≠ "java/lang/invoke/MethodHandle" ∧ x.cls ≠ "java/lang/invoke/VarHandle") (hr : recv k C) (hd : d' + 1 ≤ d) (hst : stk = As.reverse ++ .ref (u.2.1 k) :: st) (hw : (st.map fun v => v.category).sum ≤ 8) (hdg : decode cc pc = .ok (.invokevirtual idx, 3)) :
    ∀ (H : Heap) (locs : List Loc) (la : Array Slot), va_P u.1 cls (wU u σ) H → va_S (AU u) X.s.heap H locs → la.size = nL → va_Run X.1 X.2.1 X.2.2.1 (rmD d) X.s X.m X.args X.below X.meth X.c H locs 0 0 0 0 (F0 X.m pc la stk) st (Qc (Value.ref (u.2.1 k) :: As).toArray) (AU u) := by
  intro H locs la hP hS hl
  obtain ⟨h1, h2, h3, ⟨b0, m0, r0, h4⟩, h5, h6, h7⟩ := hs
  have hG := wsY_good hm.1
  refine va_runU (v_fix F) hM (va_cwO (C := C) (owner := x.cls) (b0 := b0) (m0 := m0) (r0 := r0) As.length F.2.2.2.2.1 ?_ rfl rfl rfl ?_ ⟨hx.1, hx.2, by rw [← h7]; exact hm.2.1.2.2⟩ (room_le hd hm.2.2.2)) (v_preV F As hr hP hS) rfl rfl hl hst (lv_room hw) hdg ⟨Nat.zero_le _, Nat.zero_le _⟩
  · intro w hw
    rcases List.mem_append.mp hw with hw | hw
    · simp only [List.mem_cons, List.not_mem_nil, or_false] at hw
      rcases hw with rfl | rfl | rfl | rfl | rfl | rfl
      · exact ⟨inG h1 rfl, Or.inl rfl⟩
      · exact ⟨inG h2 rfl, Or.inl rfl⟩
      · exact ⟨inG h3 rfl, Or.inl rfl⟩
      · exact ⟨inG h5 rfl, Or.inl rfl⟩
      · exact ⟨inG h6 rfl, Or.inl rfl⟩
      · exact ⟨inG hm.2.2.1 rfl, Or.inl rfl⟩
    · exact hG w hw
  · exact inG h4 rfl
theorem r_SU (F : Fr X u own cc nL) (hM : Met X.2.1 y (wsY y cc' nL' ret) (rmD d') (PcU u (.ref (u.2.1 k) :: As) σ) Qc 0 0 (AU u)) (hm : mok y cc' nL' ret As.length) (hs : siteSU own idx y) (hr : recv k C) (hd : d' + 1 ≤ d) (hst : stk = As.reverse ++ .ref (u.2.1 k) :: st) (hw : (st.map fun v => v.category).sum ≤ 8) (hdg : decode cc pc = .ok (.invokespecial idx, 3)) :
    ∀ (H : Heap) (locs : List Loc) (la : Array Slot), va_P u.1 cls (wU u σ) H → va_S (AU u) X.s.heap H locs → la.size = nL → va_Run X.1 X.2.1 X.2.2.1 (rmD d) X.s X.m X.args X.below X.meth X.c H locs 0 0 0 0 (F0 X.m pc la stk) st (Qc (Value.ref (u.2.1 k) :: As).toArray) (AU u) := by
  intro H locs la hP hS hl
  obtain ⟨h1, h2, h3, h4, h5⟩ := hs
  have hG := wsY_good hm.1
  obtain ⟨ci, fs, q, hGk, hq, hC⟩ := id hr
  have hat := (F.2.2.2.2.2.1.1 ci q hq).2
  rw [hC] at hat
  refine va_runSU (C := C) hat (v_fix F) hM (va_cwSU As.length F.2.2.2.2.1 ?_ rfl rfl rfl ⟨h5, hm.2.1.2.2⟩ (room_le hd hm.2.2.2)) (v_preV F As hr hP hS) rfl rfl hl hst (lv_room hw) hdg ⟨Nat.zero_le _, Nat.zero_le _⟩
  intro w hw
  rcases List.mem_append.mp hw with hw | hw
  · simp only [List.mem_cons, List.not_mem_nil, or_false] at hw
    rcases hw with rfl | rfl | rfl | rfl | rfl
    · exact ⟨inG h1 rfl, Or.inl rfl⟩
    · exact ⟨inG h2 rfl, Or.inl rfl⟩
    · exact ⟨inG h3 rfl, Or.inl rfl⟩
    · exact ⟨inG h4 rfl, Or.inl rfl⟩
    · exact ⟨inG hm.2.2.1 rfl, Or.inl rfl⟩
  · exact hG w hw
/-- System.arraycopy between int rows -/
theorem v_copy (F : Fr X u own cc nL) {k0 k1 n0 n1 : Nat} {sp dp n : Int32} (h0 : Gam[k0]? = some (.inl (.int, n0))) (h1 : Gam[k1]? = some (.inl (.int, n1))) (hlk : Cond.methodLink own idx arraycopyName ∈ lw_tbl) (hnat : Cond.native arraycopyName ∈ lw_tbl) (hstt : Cond.static arraycopyName ∈ lw_tbl) (hini : Cond.initialized "java/lang/System" ∈ lw_tbl)
    (g1 : ¬ sp < 0) (g2 : ¬ dp < 0) (g3 : ¬ n < 0) (g4 : sp.toNatClampNeg + n.toNatClampNeg ≤ n0) (g5 : dp.toNatClampNeg + n.toNatClampNeg ≤ n1) (hd : 2 ≤ d) (hw : (st.map fun v => v.category).sum ≤ 8) (hdg : decode cc pc = .ok (.invokestatic idx, 3))
    (kk : V X u d nL Q (pc + 3) ls st (uA σ k1 (va_cpy (σ.1 k0) (σ.1 k1) sp.toNatClampNeg dp.toNatClampNeg n.toNatClampNeg))) : V X u d nL Q pc ls (.int n :: .int dp :: .ref (u.2.1 k1) :: .int sp :: .ref (u.2.1 k0) :: st) σ := by
  intro H locs la hP hS hl
  refine va_copyi (D := u.1) (cl := cls) (A := AU u) F.1 F.2.1 (by rw [F.2.2.1, hl.1]) F.2.2.2.1 (F.2.2.2.2.1 _ (inG hlk rfl)) (F.2.2.2.2.1 _ (inG hnat rfl)) (F.2.2.2.2.1 _ (inG hstt rfl)) (F.2.2.2.2.1 _ (inG hini rfl)) (F.2.2.2.2.2.1.K2 (aTy_a h0) (aTy_a h1)) hP (F.2.2.2.2.2.2.2.1.D σ) hS k0 k1 0 1 (wU_get u σ h0) (wU_get u σ h1) rfl rfl rfl g1 g2 g3 g4 g5 (fun _ _ => rfl) ?_ ?_ hdg (fun H1 locs1 hP1 hD1 hS1 => ?_)
  · show 1 ≤ d
    omega
  · have h9 : nativeFrameWords "java/lang/System" "arraycopy" 5 + 11 ≤ 40 := by decide +kernel
    show _ ≤ d * 40
    omega
  · refine kk H1 locs1 la ?_ hS1 hl
    rw [← wU_set u (σ' := uA σ k1 (va_cpy (σ.1 k0) (σ.1 k1) sp.toNatClampNeg dp.toNatClampNeg n.toNatClampNeg)) h1 ?_ ?_ ?_]
    · exact hP1
    · simp [g_e, uA]
    · intro a h
      simp [uA, h]
    · intro a h
      rfl
end
end
section
-- derived rows: places as Nat, truths as bI
def bI (p : Prop) [Decidable p] : Int32 := if p then 1 else 0
theorem bI_t {p : Prop} [Decidable p] (h : p) : bI p = 1 := if_pos h
theorem bI_f {p : Prop} [Decidable p] (h : ¬ p) : bI p = 0 := if_neg h
theorem bI_1 {p : Prop} [Decidable p] : bI p = 1 ↔ p := by
  unfold bI
  by_cases h : p
  · simp [h]
  · simp only [if_neg h]
    exact ⟨fun q => absurd q (by decide), fun q => absurd q h⟩
theorem bI_0 {p : Prop} [Decidable p] : bI p = 0 ↔ ¬ p := by
  unfold bI
  by_cases h : p
  · simp only [if_pos h]
    exact ⟨fun q => absurd q (by decide), fun q => absurd h q⟩
  · simp [h]
theorem bI_c {p q : Prop} [Decidable p] [Decidable q] (h : p ↔ q) : bI p = bI q := by
  unfold bI
  by_cases hp : p
  · rw [if_pos hp, if_pos (h.mp hp)]
  · rw [if_neg hp, if_neg (fun hq => hp (h.mpr hq))]
theorem bI_nar {p : Prop} [Decidable p] : narrow .boolean (.int (bI p)) = .int (bI p) := by
  unfold bI
  split <;> rfl
theorem bI_fit {p : Prop} [Decidable p] : fits .boolean (.int (bI p)) = true := by
  unfold bI
  split <;> rfl
theorem bI_vp {p : Prop} [Decidable p] : vp_nar .boolean (bI p) = bI p := by
  unfold bI
  split <;> rfl
theorem z1_nar : narrow .boolean (.int 1) = .int 1 := rfl
theorem z0_nar : narrow .boolean (.int 0) = .int 0 := rfl
theorem in_nI {i : Int32} {j n : Nat} (hi : i = nI j) (hj : j < n) (hn : n < 2147483648) : vp_in i n ∧ i.toNatClampNeg = j := by
  subst hi
  exact ⟨vp_in_nI hj hn, nI_clamp (by omega)⟩
theorem nI_inc (i : Nat) : nI i + Int32.ofInt 1 = nI (i + 1) := nI_1 i
theorem i_inc (x : Int32) : x + Int32.ofInt 1 = x + 1 := rfl
theorem i_dec (x : Int32) : x + Int32.ofInt (-1) = x + (-1) := rfl
theorem i_inc3 (x : Int32) : x + Int32.ofInt 3 = x + 3 := rfl
theorem nI_inc3 (i : Nat) : nI i + Int32.ofInt 3 = nI (i + 3) := nI_add i 3
theorem nI_dec (i : Nat) : nI (i + 1) + Int32.ofInt (-1) = nI i := pk_m1 i
section
variable {X : FX} {u : Un} {own : String} {cc : ByteArray} {d nL : Nat} {Q : State → Prop} {pc : Nat} {ls : List (Nat × Value)} {st : List Value} {σ : St}
/-- the number on the stack in another form -/
theorem v_te {x y : Int32} (h : x = y) (k : V X u d nL Q pc ls (.int y :: st) σ) : V X u d nL Q pc ls (.int x :: st) σ := h ▸ k
theorem v_tl {x y : Int64} (h : x = y) (k : V X u d nL Q pc ls (.long y :: st) σ) : V X u d nL Q pc ls (.long x :: st) σ := h ▸ k
/-- the state gets a name -/
theorem v_ns (k : ∀ σ' : St, σ' = σ → V X u d nL Q pc ls st σ') : V X u d nL Q pc ls st σ := k σ rfl
theorem v_bt {p : Prop} [Decidable p] (F : Fr X u own cc nL) {off : Int} (tgt : Nat) (hd : decode cc pc = .ok (.ifCond .eq off, 3)) (ht : (pc : Int) + off = (tgt : Int)) (kt : ¬ p → V X u d nL Q tgt ls st σ) (kf : p → V X u d nL Q (pc + 3) ls st σ) : V X u d nL Q pc ls (.int (bI p) :: st) σ :=
  v_if_eq F tgt hd ht (fun h => kt (bI_0.mp h)) (fun h => kf (Decidable.byContradiction fun q => h (bI_f q)))
theorem v_bf {p : Prop} [Decidable p] (F : Fr X u own cc nL) {off : Int} (tgt : Nat) (hd : decode cc pc = .ok (.ifCond .ne off, 3)) (ht : (pc : Int) + off = (tgt : Int)) (kt : p → V X u d nL Q tgt ls st σ) (kf : ¬ p → V X u d nL Q (pc + 3) ls st σ) : V X u d nL Q pc ls (.int (bI p) :: st) σ :=
  v_if_ne F tgt hd ht (fun h => kt (Decidable.byContradiction fun q => h (bI_f q))) (fun h => kf (bI_0.mp h))
theorem v_geti (F : Fr X u own cc nL) {k ci j idx : Nat} {fs : List (Nat ⊕ Bool)} (hl : fok own idx ci j) (hG : Gam[k]? = some (.inr (.inr (ci, fs)))) (hf : fs[j]? = some (.inr false)) (hd : decode cc pc = .ok (.getfield idx, 3)) (kk : V X u d nL Q (pc + 3) ls (.int (σ.1 k j) :: st) σ) : V X u d nL Q pc ls (.ref (u.2.1 k) :: st) σ := v_get F hl hG hf hd kk
theorem v_getl (F : Fr X u own cc nL) {k ci j idx : Nat} {fs : List (Nat ⊕ Bool)} (hl : fok own idx ci j) (hG : Gam[k]? = some (.inr (.inr (ci, fs)))) (hf : fs[j]? = some (.inr true)) (hd : decode cc pc = .ok (.getfield idx, 3)) (kk : V X u d nL Q (pc + 3) ls (.long (σ.2 k j) :: st) σ) : V X u d nL Q pc ls (.ref (u.2.1 k) :: st) σ := v_get F hl hG hf hd kk
theorem v_getr (F : Fr X u own cc nL) {k ci j idx r : Nat} {fs : List (Nat ⊕ Bool)} (hl : fok own idx ci j) (hG : Gam[k]? = some (.inr (.inr (ci, fs)))) (hf : fs[j]? = some (.inl r)) (hd : decode cc pc = .ok (.getfield idx, 3)) (kk : V X u d nL Q (pc + 3) ls (.ref (u.2.1 r) :: st) σ) : V X u d nL Q pc ls (.ref (u.2.1 k) :: st) σ := v_get F hl hG hf hd kk

theorem v_ial (F : Fr X u own cc nL) {k n : Nat} {i : Int32} (j : Nat) (hG : Gam[k]? = some (.inl (.int, n))) (hi : i = nI j) (hj : j < n) (hd : decode cc pc = .ok (.iaload, 1)) (kk : V X u d nL Q (pc + 1) ls (.int (σ.1 k j) :: st) σ) (hn : n < 2147483648 := by decide) : V X u d nL Q pc ls (.int i :: .ref (u.2.1 k) :: st) σ := by
  obtain ⟨h1, h2⟩ := in_nI hi hj hn
  refine v_iald F hG h1 hd ?_
  rw [h2]
  exact kk
theorem v_bal (F : Fr X u own cc nL) {k n : Nat} {i : Int32} (j : Nat) (hG : Gam[k]? = some (.inl (.byte, n))) (hi : i = nI j) (hj : j < n) (hd : decode cc pc = .ok (.baload, 1)) (kk : V X u d nL Q (pc + 1) ls (.int (σ.1 k j) :: st) σ) (hn : n < 2147483648 := by decide) : V X u d nL Q pc ls (.int i :: .ref (u.2.1 k) :: st) σ := by
  obtain ⟨h1, h2⟩ := in_nI hi hj hn
  refine v_bald F hG h1 hd ?_
  rw [h2]
  exact kk
theorem v_zal (F : Fr X u own cc nL) {k n : Nat} {i : Int32} (j : Nat) (hG : Gam[k]? = some (.inl (.boolean, n))) (hi : i = nI j) (hj : j < n) (hd : decode cc pc = .ok (.baload, 1)) (kk : V X u d nL Q (pc + 1) ls (.int (σ.1 k j) :: st) σ) (hn : n < 2147483648 := by decide) : V X u d nL Q pc ls (.int i :: .ref (u.2.1 k) :: st) σ := by
  obtain ⟨h1, h2⟩ := in_nI hi hj hn
  refine v_zald F hG h1 hd ?_
  rw [h2]
  exact kk
theorem v_ias (F : Fr X u own cc nL) {k n : Nat} {i x : Int32} (j : Nat) (hG : Gam[k]? = some (.inl (.int, n))) (hi : i = nI j) (hj : j < n) (hd : decode cc pc = .ok (.iastore, 1)) (kk : V X u d nL Q (pc + 1) ls st (uI σ k j x)) (hn : n < 2147483648 := by decide) : V X u d nL Q pc ls (.int x :: .int i :: .ref (u.2.1 k) :: st) σ := by
  obtain ⟨h1, h2⟩ := in_nI hi hj hn
  refine v_iast F hG h1 hd ?_
  rw [h2]
  exact kk
theorem v_bas (F : Fr X u own cc nL) {k n : Nat} {i x : Int32} (j : Nat) (hG : Gam[k]? = some (.inl (.byte, n))) (hi : i = nI j) (hj : j < n) (hd : decode cc pc = .ok (.bastore, 1)) (kk : V X u d nL Q (pc + 1) ls st (uI σ k j (vp_nar .byte x))) (hn : n < 2147483648 := by decide) : V X u d nL Q pc ls (.int x :: .int i :: .ref (u.2.1 k) :: st) σ := by
  obtain ⟨h1, h2⟩ := in_nI hi hj hn
  refine v_bast F hG h1 hd ?_
  rw [h2]
  exact kk
theorem v_zas (F : Fr X u own cc nL) {k n : Nat} {i x : Int32} (j : Nat) (hG : Gam[k]? = some (.inl (.boolean, n))) (hi : i = nI j) (hj : j < n) (hd : decode cc pc = .ok (.bastore, 1)) (kk : V X u d nL Q (pc + 1) ls st (uI σ k j (vp_nar .boolean x))) (hn : n < 2147483648 := by decide) : V X u d nL Q pc ls (.int x :: .int i :: .ref (u.2.1 k) :: st) σ := by
  obtain ⟨h1, h2⟩ := in_nI hi hj hn
  refine v_zast F hG h1 hd ?_
  rw [h2]
  exact kk
theorem v_aal (F : Fr X u own cc nL) {k n : Nat} {i : Int32} {ty : FieldType} {r : Nat → Nat} (j : Nat) (hG : Gam[k]? = some (.inr (.inl (ty, n, r)))) (hty : ty.isReference = true) (hi : i = nI j) (hj : j < n) (hd : decode cc pc = .ok (.aaload, 1)) (kk : V X u d nL Q (pc + 1) ls (.ref (u.2.1 (r j)) :: st) σ) (hn : n < 2147483648 := by decide) : V X u d nL Q pc ls (.int i :: .ref (u.2.1 k) :: st) σ := by
  obtain ⟨h1, h2⟩ := in_nI hi hj hn
  refine v_aald F hG hty h1 hd ?_
  rw [h2]
  exact kk
theorem v_tai (F : Fr X u own cc nL) {i : Nat} {q : String × String × FieldType × Nat × (Nat → Int32)} (j : Nat) (hq : stab[i]? = some q) (hty : q.2.2.1 = .int) {x : Int32} (hi : x = nI j) (hj : j < q.2.2.2.1) (hn : q.2.2.2.1 < 2147483648) (hd : decode cc pc = .ok (.iaload, 1)) (kk : V X u d nL Q (pc + 1) ls (.int (q.2.2.2.2 j) :: st) σ) : V X u d nL Q pc ls (.int x :: .ref (u.2.1 (1000 + i)) :: st) σ := by
  obtain ⟨h1, h2⟩ := in_nI hi hj hn
  refine v_tabi F hq hty h1 hd ?_
  rw [h2]
  exact kk
theorem v_tac (F : Fr X u own cc nL) {i : Nat} {q : String × String × FieldType × Nat × (Nat → Int32)} (j : Nat) (hq : stab[i]? = some q) (hty : q.2.2.1 = .char) {x : Int32} (hi : x = nI j) (hj : j < q.2.2.2.1) (hn : q.2.2.2.1 < 2147483648) (hd : decode cc pc = .ok (.caload, 1)) (kk : V X u d nL Q (pc + 1) ls (.int (q.2.2.2.2 j) :: st) σ) : V X u d nL Q pc ls (.int x :: .ref (u.2.1 (1000 + i)) :: st) σ := by
  obtain ⟨h1, h2⟩ := in_nI hi hj hn
  refine v_tabc F hq hty h1 hd ?_
  rw [h2]
  exact kk
end
theorem gam_row : ∀ j, j < 6 → Gam[2 + j]? = some (.inl (.int, 40)) := by
  intro j hj
  rcases j with _ | _ | _ | _ | _ | _ | j
  all_goals first | rfl | (exfalso; omega)
theorem gam_text : ∀ j, j < 4 → Gam[10 + j]? = some (.inl (.byte, 60)) := by
  intro j hj
  rcases j with _ | _ | _ | _ | j
  all_goals first | rfl | (exfalso; omega)
theorem gam_talk : ∀ j, j < 6 → Gam[42 + j]? = some (.inl (.int, 3)) := by
  intro j hj
  rcases j with _ | _ | _ | _ | _ | _ | j
  all_goals first | rfl | (exfalso; omega)
/-- where two states agree -/
def eqT (σ σ' : St) : Prop := (∀ k, k < 63 → σ'.1 k = σ.1 k) ∧ ∀ k, k < 63 → σ'.2 k = σ.2 k
def eqM (σ σ' : St) : Prop := (∀ k, 63 ≤ k → σ'.1 k = σ.1 k) ∧ ∀ k, 63 ≤ k → σ'.2 k = σ.2 k
end
section
-- what the methods answer, as functions of the state
abbrev inR (x n : Int32) : Prop := 0 ≤ x ∧ x < n
abbrev ix (x : Int32) : Nat := x.toNatClampNeg
theorem i_lt_le {a b : Int32} : ¬ b ≤ a ↔ a < b := by
  simp only [Int32.lt_iff_toInt_lt, Int32.le_iff_toInt_le]
  omega
theorem i_nlt {a b : Int32} : ¬ a < b ↔ b ≤ a := by
  simp only [Int32.lt_iff_toInt_lt, Int32.le_iff_toInt_le]
  omega
theorem ix_eq {x : Int32} (h : 0 ≤ x) : x = nI (ix x) := by
  obtain ⟨j, hj, rfl⟩ := nI_of (i_nlt.mpr h)
  rw [ix, nI_clamp hj]
theorem ix_lt {x n : Int32} {N : Nat} (h : 0 ≤ x) (h2 : x < n) (hn : n = nI N) (hN : N < 2147483648) : ix x < N := by
  obtain ⟨j, hj, rfl⟩ := nI_of (i_nlt.mpr h)
  rw [ix, nI_clamp hj]
  subst hn
  exact (nI_ltI hj (by omega)).mp h2
theorem i_lt_of {a b c : Int32} (h : a < b) (h2 : b ≤ c) : a < c := by
  simp only [Int32.lt_iff_toInt_lt, Int32.le_iff_toInt_le] at *
  omega
def hasB (i set : Int32) : Prop := (set >>> (i &&& 31)) &&& 1 = 1
def tRef (σ : St) (n : Nat) : St := uI (uI σ 0 11 (nI n)) 62 n (σ.1 62 n + 1)
def mRef (σ : St) (n : Nat) : St := uI (uI σ 63 0 (nI n)) 64 n (σ.1 64 n + 1)
def rowsOk (σ : St) : Prop := ∀ j, j < 6 → σ.1 8 j ≤ 40
def textsOk (σ : St) : Prop := ∀ j, j < 4 → σ.1 14 j ≤ 60
def tLay (σ : St) (r i v : Int32) : Int32 × St := if ¬ inR r 6 then (-1, σ) else if σ.1 8 (ix r) < 0 then (-3, tRef σ 1) else if i < 0 ∨ σ.1 8 (ix r) ≤ i then (-3, tRef σ 2) else (1, uI (uI σ 0 12 (σ.1 (2 + ix r) (ix i))) (2 + ix r) (ix i) v)
def tAt (σ : St) (r i : Int32) : Int32 × St := if ¬ inR r 6 then (-1, σ) else if σ.1 8 (ix r) < 0 then (-3, tRef σ 1) else if i < 0 ∨ σ.1 8 (ix r) ≤ i then (-3, tRef σ 2) else (1, uI σ 0 12 (σ.1 (2 + ix r) (ix i)))
def tTear (σ : St) (r : Int32) : Int32 × St := if ¬ inR r 6 then (-1, σ) else if σ.1 8 (ix r) < 0 then (-3, tRef σ 1) else (1, uI σ 8 (ix r) (-1))
theorem ix_nI {N : Nat} (h : N < 2147483648) : ix (nI N) = N := nI_clamp (by omega)
theorem nat_of {x c : Int32} {M : Nat} (h0 : 0 ≤ x) (h1 : x ≤ c) (hc : c = nI M) (hM : M < 2147483648) : ∃ N, N ≤ M ∧ ix x = N ∧ x = nI N := by
  obtain ⟨j, hj, rfl⟩ := nI_of (i_nlt.mpr h0)
  subst hc
  exact ⟨j, (nI_leI hj (by omega)).mp h1, nI_clamp hj, rfl⟩
def sumL (f : Nat → Int32) : Nat → Int64
  | 0 => 0
  | i + 1 => sumL f i + (f i).toInt64
def fl (σ : St) (k off : Nat) (v : Int32) : Nat → St
  | 0 => σ
  | i + 1 => uI (fl σ k off v i) k (off + i) v
theorem vp_nar32 : vp_nar .byte 32 = 32 := rfl
theorem l_ne0 {x : Int32} (h : ¬ x = 0) : ¬ x.toInt64 = 0 := by
  intro q
  apply h
  have h1 : x.toInt64.toInt = (0 : Int64).toInt := by rw [q]
  rw [Int32.toInt_toInt64] at h1
  exact Int32.toInt_inj.mp h1
def tMean (σ : St) (r : Int32) : Int32 × St := if ¬ inR r 6 then (-1, σ) else if σ.1 8 (ix r) < 0 then (-3, tRef σ 1) else if σ.1 8 (ix r) = 0 then (-3, tRef σ 4) else (1, uI σ 0 12 (sumL (σ.1 (2 + ix r)) (ix (σ.1 8 (ix r))) / (σ.1 8 (ix r)).toInt64).toInt32)
def tRow (σ : St) (r n : Int32) : Int32 × St := if ¬ inR r 6 ∨ 40 < n then (-1, σ) else if n < 0 then (-3, tRef σ 5) else (n, fl (uI σ 8 (ix r) n) (2 + ix r) 0 0 (ix n))
def tText (σ : St) (t n : Int32) : Int32 × St := if ¬ inR t 4 ∨ 60 < n then (-1, σ) else if n < 0 then (-3, tRef σ 5) else (n, fl (uI σ 14 (ix t) n) (10 + ix t) 0 32 (ix n))
def hld (z i n : Int32) : Prop := 0 ≤ i ∧ i ≤ z ∧ n ≤ z - i
def tCopy (σ : St) (r i to j n : Int32) : Int32 × St := if ¬ inR r 6 ∨ ¬ inR to 6 then (-1, σ) else if n < 0 then (-3, tRef σ 5) else if σ.1 8 (ix r) < 0 ∨ σ.1 8 (ix to) < 0 then (-3, tRef σ 1)
  else if ¬ (0 ≤ i ∧ i ≤ σ.1 8 (ix r) ∧ n ≤ σ.1 8 (ix r) - i) ∨ ¬ (0 ≤ j ∧ j ≤ σ.1 8 (ix to) ∧ n ≤ σ.1 8 (ix to) - j) then (-3, tRef σ 2) else (1, uA σ (2 + ix to) (va_cpy (σ.1 (2 + ix r)) (σ.1 (2 + ix to)) (ix i) (ix j) (ix n)))
theorem hld_le {z i n : Int32} (h0 : 0 ≤ z) (hz : z ≤ 40) (hn : 0 ≤ n) (h : 0 ≤ i ∧ i ≤ z ∧ n ≤ z - i) : ix i + ix n ≤ 40 := by
  obtain ⟨a, ha, -, rfl⟩ := nat_of (M := 40) h0 hz rfl (by decide)
  obtain ⟨h1, h2, h3⟩ := h
  obtain ⟨b, hb, eb, rfl⟩ := nat_of (M := a) h1 h2 rfl (by omega)
  rw [pk_sub hb] at h3
  obtain ⟨c, hc, ec, rfl⟩ := nat_of (M := a - b) hn h3 rfl (by omega)
  omega
def tPut (σ : St) (t i v : Int32) : Int32 × St := if ¬ inR t 4 then (-1, σ) else if σ.1 14 (ix t) < 0 then (-3, tRef σ 1) else if i < 0 ∨ σ.1 14 (ix t) ≤ i then (-3, tRef σ 2) else (σ.1 (10 + ix t) (ix i) + 1000, uI σ (10 + ix t) (ix i) (vp_nar .byte v.toInt8.toInt32))
end
section
theorem ki_0 : Int32.ofInt 0 = (0 : Int32) := by decide
theorem kb_6 : (Int8.ofInt 6).toInt32 = (6 : Int32) := by decide
theorem ki_1 : Int32.ofInt 1 = (1 : Int32) := by decide
theorem ki_4 : Int32.ofInt 4 = (4 : Int32) := by decide
theorem kb_99 : (Int8.ofInt 99).toInt32 = (99 : Int32) := by decide
theorem kb_12 : (Int8.ofInt 12).toInt32 = (12 : Int32) := by decide
theorem G0 : Gam[0]? = some (.inr (.inr (0, [.inl 1, .inl 8, .inl 9, .inl 14, .inl 15, .inl 19, .inl 34, .inl 40, .inl 49, .inl 52, .inl 62, .inr false, .inr false, .inr true, .inr true]))) := rfl
theorem rc_0 : recv 0 "TakerBook" := ⟨0, _, (R_T, F_T, 15), G0, rfl, rfl⟩
theorem fk_T_36 : fok "TakerBook" 36 0 5 := ⟨(R_T, F_T, 15), rfl, by decide, List.mem_of_getElem? (i := 360) (by decide +kernel), rfl⟩
theorem G19 : Gam[19]? = some (.inr (.inr (1, [.inl 20, .inl 27, .inl 28, .inl 29, .inl 30, .inl 31, .inl 32, .inl 33, .inr false, .inr false, .inr false, .inr false, .inr false, .inr false, .inr false, .inr false, .inr false, .inr false, .inr false]))) := rfl
theorem rc_19 : recv 19 "TakerBook$Band" := ⟨1, _, (R_B, F_B, 19), G19, rfl, rfl⟩
theorem fk_T_118 : fok "TakerBook" 118 1 8 := ⟨(R_B, F_B, 19), rfl, by decide, List.mem_of_getElem? (i := 196) (by decide +kernel), rfl⟩
theorem fk_T_150 : fok "TakerBook" 150 1 18 := ⟨(R_B, F_B, 19), rfl, by decide, List.mem_of_getElem? (i := 218) (by decide +kernel), rfl⟩
theorem fk_T_329 : fok "TakerBook" 329 0 11 := ⟨(R_T, F_T, 15), rfl, by decide, List.mem_of_getElem? (i := 366) (by decide +kernel), rfl⟩
theorem pk_T_latestFinding : pok 0 11 .int := ⟨(R_T, F_T, 15), rfl, rfl, by decide +kernel⟩
theorem fk_T_65 : fok "TakerBook" 65 0 10 := ⟨(R_T, F_T, 15), rfl, by decide, List.mem_of_getElem? (i := 365) (by decide +kernel), rfl⟩
theorem G62 : Gam[62]? = some (.inl (.int, 6)) := rfl
theorem kb_m3 : (Int8.ofInt (-3)).toInt32 = ((-3) : Int32) := by decide
theorem st_T_76 : siteS "TakerBook" 76 ⟨"TakerBook", "isRow", "(I)Z"⟩ := ⟨List.mem_of_getElem? (i := 405) (by decide +kernel), List.mem_of_getElem? (i := 406) (by decide +kernel)⟩
theorem fk_T_14 : fok "TakerBook" 14 0 1 := ⟨(R_T, F_T, 15), rfl, by decide, List.mem_of_getElem? (i := 356) (by decide +kernel), rfl⟩
theorem G8 : Gam[8]? = some (.inl (.int, 6)) := rfl
theorem st_T_80 : siteV "TakerBook" 80 ⟨"TakerBook", "refuse", "(I)I"⟩ := ⟨List.mem_of_getElem? (i := 408) (by decide +kernel), List.mem_of_getElem? (i := 410) (by decide +kernel), List.mem_of_getElem? (i := 0) (by decide +kernel)⟩
theorem ki_m1 : Int32.ofInt (-1) = ((-1) : Int32) := by decide
theorem st_T_104 : siteS "TakerBook" 104 ⟨"TakerBook", "isText", "(I)Z"⟩ := ⟨List.mem_of_getElem? (i := 450) (by decide +kernel), List.mem_of_getElem? (i := 451) (by decide +kernel)⟩
theorem fk_T_23 : fok "TakerBook" 23 0 3 := ⟨(R_T, F_T, 15), rfl, by decide, List.mem_of_getElem? (i := 358) (by decide +kernel), rfl⟩
theorem G14 : Gam[14]? = some (.inl (.int, 4)) := rfl
theorem st_T_91 : siteV "TakerBook" 91 ⟨"TakerBook", "refusedRow", "(I)I"⟩ := ⟨List.mem_of_getElem? (i := 420) (by decide +kernel), List.mem_of_getElem? (i := 422) (by decide +kernel), List.mem_of_getElem? (i := 2) (by decide +kernel)⟩
theorem ki_2 : Int32.ofInt 2 = (2 : Int32) := by decide
theorem st_T_84 : siteV "TakerBook" 84 ⟨"TakerBook", "refusedPlace", "(II)I"⟩ := ⟨List.mem_of_getElem? (i := 416) (by decide +kernel), List.mem_of_getElem? (i := 418) (by decide +kernel), List.mem_of_getElem? (i := 1) (by decide +kernel)⟩
theorem fk_T_11 : fok "TakerBook" 11 0 0 := ⟨(R_T, F_T, 15), rfl, by decide, List.mem_of_getElem? (i := 355) (by decide +kernel), rfl⟩
theorem G1 : Gam[1]? = some (.inr (.inl ((.array .int), 6, fun j => 2 + j))) := rfl
theorem fk_T_88 : fok "TakerBook" 88 0 12 := ⟨(R_T, F_T, 15), rfl, by decide, List.mem_of_getElem? (i := 367) (by decide +kernel), rfl⟩
theorem pk_T_told : pok 0 12 .int := ⟨(R_T, F_T, 15), rfl, rfl, by decide +kernel⟩
abbrev b_T_isRow : ByteArray := prog_1_method_52_code
abbrev y_T_isRow : MethodName := ⟨"TakerBook", "isRow", "(I)Z"⟩
theorem d_T_isRow_0 : decode b_T_isRow 0 = .ok (.iload_n 0, 1) := by decide +kernel
theorem d_T_isRow_1 : decode b_T_isRow 1 = .ok (.ifCond .lt 13, 3) := by decide +kernel
theorem d_T_isRow_4 : decode b_T_isRow 4 = .ok (.iload_n 0, 1) := by decide +kernel
theorem d_T_isRow_5 : decode b_T_isRow 5 = .ok (.bipush 6, 2) := by decide +kernel
theorem d_T_isRow_7 : decode b_T_isRow 7 = .ok (.if_icmp .ge 7, 3) := by decide +kernel
theorem d_T_isRow_10 : decode b_T_isRow 10 = .ok (.iconst 1, 1) := by decide +kernel
theorem d_T_isRow_11 : decode b_T_isRow 11 = .ok (.goto 4, 3) := by decide +kernel
theorem d_T_isRow_14 : decode b_T_isRow 14 = .ok (.iconst 0, 1) := by decide +kernel
theorem d_T_isRow_15 : decode b_T_isRow 15 = .ok (.ireturn, 1) := by decide +kernel
theorem mo_T_isRow : mok y_T_isRow b_T_isRow 1 (some .boolean) 1 := ⟨List.mem_of_getElem? (i := 407) (by decide +kernel), ⟨by decide +kernel, by decide +kernel, by decide +kernel⟩, List.mem_of_getElem? (i := 74) (by decide +kernel), by decide⟩
set_option maxHeartbeats 4000000 in
theorem c_T_isRow (l : Launch) (u : Un) (hA : Ap u) (σ : St) (x : Int32) : MTi l u y_T_isRow b_T_isRow 1 .boolean 0 [.int x] σ (fun ans σ' => bI (inR x 6) = ans ∧ σ = σ') := by
  refine MT_of hA rfl (by decide) (Nat.le_of_ble_eq_true rfl) (fun X hl F hr => ?_)
  subst hl
  refine v_to (ls' := [(0, .int x)]) rfl ?_
  refine v_iload_n F d_T_isRow_0 rfl 0 rfl ?_
  refine v_if_lt F 14 d_T_isRow_1 rfl (fun h1 => ?_) (fun h1 => ?_)
  · skip
    refine v_iconst (v := 0) F d_T_isRow_14 ki_0 ?_
    refine v_iret F hr rfl d_T_isRow_15 ?_
    exact ⟨(bI_f (by first | (simp_all [inR]; done) | grind)), rfl⟩
  · skip
    refine v_iload_n F d_T_isRow_4 rfl 0 rfl ?_
    refine v_bipush (v := 6) F d_T_isRow_5 kb_6 ?_
    refine v_icmp_ge F 14 d_T_isRow_7 rfl (fun h7 => ?_) (fun h7 => ?_)
    · skip
      refine v_iconst (v := 0) F d_T_isRow_14 ki_0 ?_
      refine v_iret F hr rfl d_T_isRow_15 ?_
      exact ⟨(bI_f (by first | (simp_all [inR]; done) | grind)), rfl⟩
    · skip
      refine v_iconst (v := 1) F d_T_isRow_10 ki_1 ?_
      refine v_goto F 15 d_T_isRow_11 rfl ?_
      refine v_iret F hr rfl d_T_isRow_15 ?_
      exact ⟨(bI_t (by first | (simp_all [inR]; done) | grind)), rfl⟩
abbrev b_T_isText : ByteArray := prog_1_method_53_code
abbrev y_T_isText : MethodName := ⟨"TakerBook", "isText", "(I)Z"⟩
theorem d_T_isText_0 : decode b_T_isText 0 = .ok (.iload_n 0, 1) := by decide +kernel
theorem d_T_isText_1 : decode b_T_isText 1 = .ok (.ifCond .lt 12, 3) := by decide +kernel
theorem d_T_isText_4 : decode b_T_isText 4 = .ok (.iload_n 0, 1) := by decide +kernel
theorem d_T_isText_5 : decode b_T_isText 5 = .ok (.iconst 4, 1) := by decide +kernel
theorem d_T_isText_6 : decode b_T_isText 6 = .ok (.if_icmp .ge 7, 3) := by decide +kernel
theorem d_T_isText_9 : decode b_T_isText 9 = .ok (.iconst 1, 1) := by decide +kernel
theorem d_T_isText_10 : decode b_T_isText 10 = .ok (.goto 4, 3) := by decide +kernel
theorem d_T_isText_13 : decode b_T_isText 13 = .ok (.iconst 0, 1) := by decide +kernel
theorem d_T_isText_14 : decode b_T_isText 14 = .ok (.ireturn, 1) := by decide +kernel
theorem mo_T_isText : mok y_T_isText b_T_isText 1 (some .boolean) 1 := ⟨List.mem_of_getElem? (i := 452) (by decide +kernel), ⟨by decide +kernel, by decide +kernel, by decide +kernel⟩, List.mem_of_getElem? (i := 74) (by decide +kernel), by decide⟩
set_option maxHeartbeats 4000000 in
theorem c_T_isText (l : Launch) (u : Un) (hA : Ap u) (σ : St) (x : Int32) : MTi l u y_T_isText b_T_isText 1 .boolean 0 [.int x] σ (fun ans σ' => bI (inR x 4) = ans ∧ σ = σ') := by
  refine MT_of hA rfl (by decide) (Nat.le_of_ble_eq_true rfl) (fun X hl F hr => ?_)
  subst hl
  refine v_to (ls' := [(0, .int x)]) rfl ?_
  refine v_iload_n F d_T_isText_0 rfl 0 rfl ?_
  refine v_if_lt F 13 d_T_isText_1 rfl (fun h1 => ?_) (fun h1 => ?_)
  · skip
    refine v_iconst (v := 0) F d_T_isText_13 ki_0 ?_
    refine v_iret F hr rfl d_T_isText_14 ?_
    exact ⟨(bI_f (by first | (simp_all [inR]; done) | grind)), rfl⟩
  · skip
    refine v_iload_n F d_T_isText_4 rfl 0 rfl ?_
    refine v_iconst (v := 4) F d_T_isText_5 ki_4 ?_
    refine v_icmp_ge F 13 d_T_isText_6 rfl (fun h6 => ?_) (fun h6 => ?_)
    · skip
      refine v_iconst (v := 0) F d_T_isText_13 ki_0 ?_
      refine v_iret F hr rfl d_T_isText_14 ?_
      exact ⟨(bI_f (by first | (simp_all [inR]; done) | grind)), rfl⟩
    · skip
      refine v_iconst (v := 1) F d_T_isText_9 ki_1 ?_
      refine v_goto F 14 d_T_isText_10 rfl ?_
      refine v_iret F hr rfl d_T_isText_14 ?_
      exact ⟨(bI_t (by first | (simp_all [inR]; done) | grind)), rfl⟩
abbrev b_T_isPlanSize : ByteArray := prog_1_method_54_code
abbrev y_T_isPlanSize : MethodName := ⟨"TakerBook", "isPlanSize", "(I)Z"⟩
theorem d_T_isPlanSize_0 : decode b_T_isPlanSize 0 = .ok (.iload_n 0, 1) := by decide +kernel
theorem d_T_isPlanSize_1 : decode b_T_isPlanSize 1 = .ok (.ifCond .lt 12, 3) := by decide +kernel
theorem d_T_isPlanSize_4 : decode b_T_isPlanSize 4 = .ok (.iload_n 0, 1) := by decide +kernel
theorem d_T_isPlanSize_5 : decode b_T_isPlanSize 5 = .ok (.iconst 4, 1) := by decide +kernel
theorem d_T_isPlanSize_6 : decode b_T_isPlanSize 6 = .ok (.if_icmp .gt 7, 3) := by decide +kernel
theorem d_T_isPlanSize_9 : decode b_T_isPlanSize 9 = .ok (.iconst 1, 1) := by decide +kernel
theorem d_T_isPlanSize_10 : decode b_T_isPlanSize 10 = .ok (.goto 4, 3) := by decide +kernel
theorem d_T_isPlanSize_13 : decode b_T_isPlanSize 13 = .ok (.iconst 0, 1) := by decide +kernel
theorem d_T_isPlanSize_14 : decode b_T_isPlanSize 14 = .ok (.ireturn, 1) := by decide +kernel
theorem mo_T_isPlanSize : mok y_T_isPlanSize b_T_isPlanSize 1 (some .boolean) 1 := ⟨List.mem_of_getElem? (i := 769) (by decide +kernel), ⟨by decide +kernel, by decide +kernel, by decide +kernel⟩, List.mem_of_getElem? (i := 74) (by decide +kernel), by decide⟩
set_option maxHeartbeats 4000000 in
theorem c_T_isPlanSize (l : Launch) (u : Un) (hA : Ap u) (σ : St) (x : Int32) : MTi l u y_T_isPlanSize b_T_isPlanSize 1 .boolean 0 [.int x] σ (fun ans σ' => bI (0 ≤ x ∧ x ≤ 4) = ans ∧ σ = σ') := by
  refine MT_of hA rfl (by decide) (Nat.le_of_ble_eq_true rfl) (fun X hl F hr => ?_)
  subst hl
  refine v_to (ls' := [(0, .int x)]) rfl ?_
  refine v_iload_n F d_T_isPlanSize_0 rfl 0 rfl ?_
  refine v_if_lt F 13 d_T_isPlanSize_1 rfl (fun h1 => ?_) (fun h1 => ?_)
  · skip
    refine v_iconst (v := 0) F d_T_isPlanSize_13 ki_0 ?_
    refine v_iret F hr rfl d_T_isPlanSize_14 ?_
    exact ⟨(bI_f (by first | (simp_all [inR]; done) | grind)), rfl⟩
  · skip
    refine v_iload_n F d_T_isPlanSize_4 rfl 0 rfl ?_
    refine v_iconst (v := 4) F d_T_isPlanSize_5 ki_4 ?_
    refine v_icmp_gt F 13 d_T_isPlanSize_6 rfl (fun h6 => ?_) (fun h6 => ?_)
    · skip
      refine v_iconst (v := 0) F d_T_isPlanSize_13 ki_0 ?_
      refine v_iret F hr rfl d_T_isPlanSize_14 ?_
      exact ⟨(bI_f (by first | (simp_all [inR]; done) | grind)), rfl⟩
    · skip
      refine v_iconst (v := 1) F d_T_isPlanSize_9 ki_1 ?_
      refine v_goto F 14 d_T_isPlanSize_10 rfl ?_
      refine v_iret F hr rfl d_T_isPlanSize_14 ?_
      exact ⟨(bI_t (by first | (simp_all [inR]; done) | grind)), rfl⟩
abbrev b_T_isSum : ByteArray := prog_1_method_55_code
abbrev y_T_isSum : MethodName := ⟨"TakerBook", "isSum", "(I)Z"⟩
theorem d_T_isSum_0 : decode b_T_isSum 0 = .ok (.iload_n 0, 1) := by decide +kernel
theorem d_T_isSum_1 : decode b_T_isSum 1 = .ok (.ifCond .lt 13, 3) := by decide +kernel
theorem d_T_isSum_4 : decode b_T_isSum 4 = .ok (.iload_n 0, 1) := by decide +kernel
theorem d_T_isSum_5 : decode b_T_isSum 5 = .ok (.bipush 99, 2) := by decide +kernel
theorem d_T_isSum_7 : decode b_T_isSum 7 = .ok (.if_icmp .gt 7, 3) := by decide +kernel
theorem d_T_isSum_10 : decode b_T_isSum 10 = .ok (.iconst 1, 1) := by decide +kernel
theorem d_T_isSum_11 : decode b_T_isSum 11 = .ok (.goto 4, 3) := by decide +kernel
theorem d_T_isSum_14 : decode b_T_isSum 14 = .ok (.iconst 0, 1) := by decide +kernel
theorem d_T_isSum_15 : decode b_T_isSum 15 = .ok (.ireturn, 1) := by decide +kernel
theorem mo_T_isSum : mok y_T_isSum b_T_isSum 1 (some .boolean) 1 := ⟨List.mem_of_getElem? (i := 818) (by decide +kernel), ⟨by decide +kernel, by decide +kernel, by decide +kernel⟩, List.mem_of_getElem? (i := 74) (by decide +kernel), by decide⟩
set_option maxHeartbeats 4000000 in
theorem c_T_isSum (l : Launch) (u : Un) (hA : Ap u) (σ : St) (x : Int32) : MTi l u y_T_isSum b_T_isSum 1 .boolean 0 [.int x] σ (fun ans σ' => bI (0 ≤ x ∧ x ≤ 99) = ans ∧ σ = σ') := by
  refine MT_of hA rfl (by decide) (Nat.le_of_ble_eq_true rfl) (fun X hl F hr => ?_)
  subst hl
  refine v_to (ls' := [(0, .int x)]) rfl ?_
  refine v_iload_n F d_T_isSum_0 rfl 0 rfl ?_
  refine v_if_lt F 14 d_T_isSum_1 rfl (fun h1 => ?_) (fun h1 => ?_)
  · skip
    refine v_iconst (v := 0) F d_T_isSum_14 ki_0 ?_
    refine v_iret F hr rfl d_T_isSum_15 ?_
    exact ⟨(bI_f (by first | (simp_all [inR]; done) | grind)), rfl⟩
  · skip
    refine v_iload_n F d_T_isSum_4 rfl 0 rfl ?_
    refine v_bipush (v := 99) F d_T_isSum_5 kb_99 ?_
    refine v_icmp_gt F 14 d_T_isSum_7 rfl (fun h7 => ?_) (fun h7 => ?_)
    · skip
      refine v_iconst (v := 0) F d_T_isSum_14 ki_0 ?_
      refine v_iret F hr rfl d_T_isSum_15 ?_
      exact ⟨(bI_f (by first | (simp_all [inR]; done) | grind)), rfl⟩
    · skip
      refine v_iconst (v := 1) F d_T_isSum_10 ki_1 ?_
      refine v_goto F 15 d_T_isSum_11 rfl ?_
      refine v_iret F hr rfl d_T_isSum_15 ?_
      exact ⟨(bI_t (by first | (simp_all [inR]; done) | grind)), rfl⟩
abbrev b_T_isChance : ByteArray := prog_1_method_56_code
abbrev y_T_isChance : MethodName := ⟨"TakerBook", "isChance", "(I)Z"⟩
theorem d_T_isChance_0 : decode b_T_isChance 0 = .ok (.iload_n 0, 1) := by decide +kernel
theorem d_T_isChance_1 : decode b_T_isChance 1 = .ok (.ifCond .lt 13, 3) := by decide +kernel
theorem d_T_isChance_4 : decode b_T_isChance 4 = .ok (.iload_n 0, 1) := by decide +kernel
theorem d_T_isChance_5 : decode b_T_isChance 5 = .ok (.bipush 12, 2) := by decide +kernel
theorem d_T_isChance_7 : decode b_T_isChance 7 = .ok (.if_icmp .gt 7, 3) := by decide +kernel
theorem d_T_isChance_10 : decode b_T_isChance 10 = .ok (.iconst 1, 1) := by decide +kernel
theorem d_T_isChance_11 : decode b_T_isChance 11 = .ok (.goto 4, 3) := by decide +kernel
theorem d_T_isChance_14 : decode b_T_isChance 14 = .ok (.iconst 0, 1) := by decide +kernel
theorem d_T_isChance_15 : decode b_T_isChance 15 = .ok (.ireturn, 1) := by decide +kernel
theorem mo_T_isChance : mok y_T_isChance b_T_isChance 1 (some .boolean) 1 := ⟨List.mem_of_getElem? (i := 906) (by decide +kernel), ⟨by decide +kernel, by decide +kernel, by decide +kernel⟩, List.mem_of_getElem? (i := 74) (by decide +kernel), by decide⟩
set_option maxHeartbeats 4000000 in
theorem c_T_isChance (l : Launch) (u : Un) (hA : Ap u) (σ : St) (x : Int32) : MTi l u y_T_isChance b_T_isChance 1 .boolean 0 [.int x] σ (fun ans σ' => bI (0 ≤ x ∧ x ≤ 12) = ans ∧ σ = σ') := by
  refine MT_of hA rfl (by decide) (Nat.le_of_ble_eq_true rfl) (fun X hl F hr => ?_)
  subst hl
  refine v_to (ls' := [(0, .int x)]) rfl ?_
  refine v_iload_n F d_T_isChance_0 rfl 0 rfl ?_
  refine v_if_lt F 14 d_T_isChance_1 rfl (fun h1 => ?_) (fun h1 => ?_)
  · skip
    refine v_iconst (v := 0) F d_T_isChance_14 ki_0 ?_
    refine v_iret F hr rfl d_T_isChance_15 ?_
    exact ⟨(bI_f (by first | (simp_all [inR]; done) | grind)), rfl⟩
  · skip
    refine v_iload_n F d_T_isChance_4 rfl 0 rfl ?_
    refine v_bipush (v := 12) F d_T_isChance_5 kb_12 ?_
    refine v_icmp_gt F 14 d_T_isChance_7 rfl (fun h7 => ?_) (fun h7 => ?_)
    · skip
      refine v_iconst (v := 0) F d_T_isChance_14 ki_0 ?_
      refine v_iret F hr rfl d_T_isChance_15 ?_
      exact ⟨(bI_f (by first | (simp_all [inR]; done) | grind)), rfl⟩
    · skip
      refine v_iconst (v := 1) F d_T_isChance_10 ki_1 ?_
      refine v_goto F 15 d_T_isChance_11 rfl ?_
      refine v_iret F hr rfl d_T_isChance_15 ?_
      exact ⟨(bI_t (by first | (simp_all [inR]; done) | grind)), rfl⟩
abbrev b_T_isOpen : ByteArray := prog_1_method_57_code
abbrev y_T_isOpen : MethodName := ⟨"TakerBook", "isOpen", "()Z"⟩
theorem d_T_isOpen_0 : decode b_T_isOpen 0 = .ok (.aload_n 0, 1) := by decide +kernel
theorem d_T_isOpen_1 : decode b_T_isOpen 1 = .ok (.getfield 36, 3) := by decide +kernel
theorem d_T_isOpen_4 : decode b_T_isOpen 4 = .ok (.getfield 118, 3) := by decide +kernel
theorem d_T_isOpen_7 : decode b_T_isOpen 7 = .ok (.ifCond .le 17, 3) := by decide +kernel
theorem d_T_isOpen_10 : decode b_T_isOpen 10 = .ok (.aload_n 0, 1) := by decide +kernel
theorem d_T_isOpen_11 : decode b_T_isOpen 11 = .ok (.getfield 36, 3) := by decide +kernel
theorem d_T_isOpen_14 : decode b_T_isOpen 14 = .ok (.getfield 150, 3) := by decide +kernel
theorem d_T_isOpen_17 : decode b_T_isOpen 17 = .ok (.ifCond .ne 7, 3) := by decide +kernel
theorem d_T_isOpen_20 : decode b_T_isOpen 20 = .ok (.iconst 1, 1) := by decide +kernel
theorem d_T_isOpen_21 : decode b_T_isOpen 21 = .ok (.goto 4, 3) := by decide +kernel
theorem d_T_isOpen_24 : decode b_T_isOpen 24 = .ok (.iconst 0, 1) := by decide +kernel
theorem d_T_isOpen_25 : decode b_T_isOpen 25 = .ok (.ireturn, 1) := by decide +kernel
theorem mo_T_isOpen : mok y_T_isOpen b_T_isOpen 1 (some .boolean) 0 := ⟨List.mem_of_getElem? (i := 657) (by decide +kernel), ⟨by decide +kernel, by decide +kernel, by decide +kernel⟩, List.mem_of_getElem? (i := 74) (by decide +kernel), by decide⟩
set_option maxHeartbeats 4000000 in
theorem c_T_isOpen (l : Launch) (u : Un) (hA : Ap u) (σ : St) : MTi l u y_T_isOpen b_T_isOpen 1 .boolean 0 [.ref (u.2.1 0)] σ (fun ans σ' => bI (0 < σ.1 19 8 ∧ σ.1 19 18 = 0) = ans ∧ σ = σ') := by
  refine MT_of hA rfl (by decide) (Nat.le_of_ble_eq_true rfl) (fun X hl F hr => ?_)
  subst hl
  refine v_to (ls' := [(0, .ref (u.2.1 0))]) rfl ?_
  refine v_aload_n F d_T_isOpen_0 rfl 0 rfl ?_
  refine v_getr (r := 19) F fk_T_36 G0 rfl d_T_isOpen_1 ?_
  refine v_geti F fk_T_118 G19 rfl d_T_isOpen_4 ?_
  refine v_if_le F 24 d_T_isOpen_7 rfl (fun h7 => ?_) (fun h7 => ?_)
  · skip
    refine v_iconst (v := 0) F d_T_isOpen_24 ki_0 ?_
    refine v_iret F hr rfl d_T_isOpen_25 ?_
    exact ⟨(bI_f (by first | (simp_all [inR]; done) | grind)), rfl⟩
  · skip
    refine v_aload_n F d_T_isOpen_10 rfl 0 rfl ?_
    refine v_getr (r := 19) F fk_T_36 G0 rfl d_T_isOpen_11 ?_
    refine v_geti F fk_T_150 G19 rfl d_T_isOpen_14 ?_
    refine v_if_ne F 24 d_T_isOpen_17 rfl (fun h17 => ?_) (fun h17 => ?_)
    · skip
      refine v_iconst (v := 0) F d_T_isOpen_24 ki_0 ?_
      refine v_iret F hr rfl d_T_isOpen_25 ?_
      exact ⟨(bI_f (by first | (simp_all [inR]; done) | grind)), rfl⟩
    · skip
      refine v_iconst (v := 1) F d_T_isOpen_20 ki_1 ?_
      refine v_goto F 25 d_T_isOpen_21 rfl ?_
      refine v_iret F hr rfl d_T_isOpen_25 ?_
      exact ⟨(bI_t (by first | (simp_all [inR]; done) | grind)), rfl⟩
abbrev b_T_holds : ByteArray := prog_1_method_58_code
abbrev y_T_holds : MethodName := ⟨"TakerBook", "holds", "(III)Z"⟩
theorem d_T_holds_0 : decode b_T_holds 0 = .ok (.iload_n 1, 1) := by decide +kernel
theorem d_T_holds_1 : decode b_T_holds 1 = .ok (.ifCond .lt 19, 3) := by decide +kernel
theorem d_T_holds_4 : decode b_T_holds 4 = .ok (.iload_n 1, 1) := by decide +kernel
theorem d_T_holds_5 : decode b_T_holds 5 = .ok (.iload_n 0, 1) := by decide +kernel
theorem d_T_holds_6 : decode b_T_holds 6 = .ok (.if_icmp .gt 14, 3) := by decide +kernel
theorem d_T_holds_9 : decode b_T_holds 9 = .ok (.iload_n 2, 1) := by decide +kernel
theorem d_T_holds_10 : decode b_T_holds 10 = .ok (.iload_n 0, 1) := by decide +kernel
theorem d_T_holds_11 : decode b_T_holds 11 = .ok (.iload_n 1, 1) := by decide +kernel
theorem d_T_holds_12 : decode b_T_holds 12 = .ok (.isub, 1) := by decide +kernel
theorem d_T_holds_13 : decode b_T_holds 13 = .ok (.if_icmp .gt 7, 3) := by decide +kernel
theorem d_T_holds_16 : decode b_T_holds 16 = .ok (.iconst 1, 1) := by decide +kernel
theorem d_T_holds_17 : decode b_T_holds 17 = .ok (.goto 4, 3) := by decide +kernel
theorem d_T_holds_20 : decode b_T_holds 20 = .ok (.iconst 0, 1) := by decide +kernel
theorem d_T_holds_21 : decode b_T_holds 21 = .ok (.ireturn, 1) := by decide +kernel
theorem mo_T_holds : mok y_T_holds b_T_holds 3 (some .boolean) 3 := ⟨List.mem_of_getElem? (i := 438) (by decide +kernel), ⟨by decide +kernel, by decide +kernel, by decide +kernel⟩, List.mem_of_getElem? (i := 74) (by decide +kernel), by decide⟩
set_option maxHeartbeats 4000000 in
theorem c_T_holds (l : Launch) (u : Un) (hA : Ap u) (σ : St) (z i n : Int32) : MTi l u y_T_holds b_T_holds 3 .boolean 0 [.int z, .int i, .int n] σ (fun ans σ' => bI (0 ≤ i ∧ i ≤ z ∧ n ≤ z - i) = ans ∧ σ = σ') := by
  refine MT_of hA rfl (by decide) (Nat.le_of_ble_eq_true rfl) (fun X hl F hr => ?_)
  subst hl
  refine v_to (ls' := [(0, .int z), (1, .int i), (2, .int n)]) rfl ?_
  refine v_iload_n F d_T_holds_0 rfl 1 rfl ?_
  refine v_if_lt F 20 d_T_holds_1 rfl (fun h1 => ?_) (fun h1 => ?_)
  · skip
    refine v_iconst (v := 0) F d_T_holds_20 ki_0 ?_
    refine v_iret F hr rfl d_T_holds_21 ?_
    exact ⟨(bI_f (by first | (simp_all [inR]; done) | grind)), rfl⟩
  · skip
    refine v_iload_n F d_T_holds_4 rfl 1 rfl ?_
    refine v_iload_n F d_T_holds_5 rfl 0 rfl ?_
    refine v_icmp_gt F 20 d_T_holds_6 rfl (fun h6 => ?_) (fun h6 => ?_)
    · skip
      refine v_iconst (v := 0) F d_T_holds_20 ki_0 ?_
      refine v_iret F hr rfl d_T_holds_21 ?_
      exact ⟨(bI_f (by first | (simp_all [inR]; done) | grind)), rfl⟩
    · skip
      refine v_iload_n F d_T_holds_9 rfl 2 rfl ?_
      refine v_iload_n F d_T_holds_10 rfl 0 rfl ?_
      refine v_iload_n F d_T_holds_11 rfl 1 rfl ?_
      refine v_isub F d_T_holds_12 ?_
      refine v_icmp_gt F 20 d_T_holds_13 rfl (fun h13 => ?_) (fun h13 => ?_)
      · skip
        refine v_iconst (v := 0) F d_T_holds_20 ki_0 ?_
        refine v_iret F hr rfl d_T_holds_21 ?_
        exact ⟨(bI_f (by first | (simp_all [inR]; done) | grind)), rfl⟩
      · skip
        refine v_iconst (v := 1) F d_T_holds_16 ki_1 ?_
        refine v_goto F 21 d_T_holds_17 rfl ?_
        refine v_iret F hr rfl d_T_holds_21 ?_
        exact ⟨(bI_t (by first | (simp_all [inR]; done) | grind)), rfl⟩
abbrev b_T_isIn : ByteArray := prog_1_method_64_code
abbrev y_T_isIn : MethodName := ⟨"TakerBook", "isIn", "(II)Z"⟩
theorem d_T_isIn_0 : decode b_T_isIn 0 = .ok (.iload_n 1, 1) := by decide +kernel
theorem d_T_isIn_1 : decode b_T_isIn 1 = .ok (.iload_n 0, 1) := by decide +kernel
theorem d_T_isIn_2 : decode b_T_isIn 2 = .ok (.ishr, 1) := by decide +kernel
theorem d_T_isIn_3 : decode b_T_isIn 3 = .ok (.iconst 1, 1) := by decide +kernel
theorem d_T_isIn_4 : decode b_T_isIn 4 = .ok (.iand, 1) := by decide +kernel
theorem d_T_isIn_5 : decode b_T_isIn 5 = .ok (.iconst 1, 1) := by decide +kernel
theorem d_T_isIn_6 : decode b_T_isIn 6 = .ok (.if_icmp .ne 7, 3) := by decide +kernel
theorem d_T_isIn_9 : decode b_T_isIn 9 = .ok (.iconst 1, 1) := by decide +kernel
theorem d_T_isIn_10 : decode b_T_isIn 10 = .ok (.goto 4, 3) := by decide +kernel
theorem d_T_isIn_13 : decode b_T_isIn 13 = .ok (.iconst 0, 1) := by decide +kernel
theorem d_T_isIn_14 : decode b_T_isIn 14 = .ok (.ireturn, 1) := by decide +kernel
theorem mo_T_isIn : mok y_T_isIn b_T_isIn 2 (some .boolean) 2 := ⟨List.mem_of_getElem? (i := 609) (by decide +kernel), ⟨by decide +kernel, by decide +kernel, by decide +kernel⟩, List.mem_of_getElem? (i := 74) (by decide +kernel), by decide⟩
set_option maxHeartbeats 4000000 in
theorem c_T_isIn (l : Launch) (u : Un) (hA : Ap u) (σ : St) (i z : Int32) : MTi l u y_T_isIn b_T_isIn 2 .boolean 0 [.int i, .int z] σ (fun ans σ' => bI ((z >>> (i &&& 31)) &&& 1 = 1) = ans ∧ σ = σ') := by
  refine MT_of hA rfl (by decide) (Nat.le_of_ble_eq_true rfl) (fun X hl F hr => ?_)
  subst hl
  refine v_to (ls' := [(0, .int i), (1, .int z)]) rfl ?_
  refine v_iload_n F d_T_isIn_0 rfl 1 rfl ?_
  refine v_iload_n F d_T_isIn_1 rfl 0 rfl ?_
  refine v_ishr F d_T_isIn_2 ?_
  refine v_iconst (v := 1) F d_T_isIn_3 ki_1 ?_
  refine v_iand F d_T_isIn_4 ?_
  refine v_iconst (v := 1) F d_T_isIn_5 ki_1 ?_
  refine v_icmp_ne F 13 d_T_isIn_6 rfl (fun h6 => ?_) (fun h6 => ?_)
  · skip
    refine v_iconst (v := 0) F d_T_isIn_13 ki_0 ?_
    refine v_iret F hr rfl d_T_isIn_14 ?_
    exact ⟨(bI_f (by first | (simp_all [inR]; done) | grind)), rfl⟩
  · skip
    refine v_iconst (v := 1) F d_T_isIn_9 ki_1 ?_
    refine v_goto F 14 d_T_isIn_10 rfl ?_
    refine v_iret F hr rfl d_T_isIn_14 ?_
    exact ⟨(bI_t (by first | (simp_all [inR]; done) | grind)), rfl⟩
abbrev b_T_refuse : ByteArray := prog_1_method_46_code
abbrev y_T_refuse : MethodName := ⟨"TakerBook", "refuse", "(I)I"⟩
theorem d_T_refuse_0 : decode b_T_refuse 0 = .ok (.aload_n 0, 1) := by decide +kernel
theorem d_T_refuse_1 : decode b_T_refuse 1 = .ok (.iload_n 1, 1) := by decide +kernel
theorem d_T_refuse_2 : decode b_T_refuse 2 = .ok (.putfield 329, 3) := by decide +kernel
theorem d_T_refuse_5 : decode b_T_refuse 5 = .ok (.aload_n 0, 1) := by decide +kernel
theorem d_T_refuse_6 : decode b_T_refuse 6 = .ok (.getfield 65, 3) := by decide +kernel
theorem d_T_refuse_9 : decode b_T_refuse 9 = .ok (.iload_n 1, 1) := by decide +kernel
theorem d_T_refuse_10 : decode b_T_refuse 10 = .ok (.dup2, 1) := by decide +kernel
theorem d_T_refuse_11 : decode b_T_refuse 11 = .ok (.iaload, 1) := by decide +kernel
theorem d_T_refuse_12 : decode b_T_refuse 12 = .ok (.iconst 1, 1) := by decide +kernel
theorem d_T_refuse_13 : decode b_T_refuse 13 = .ok (.iadd, 1) := by decide +kernel
theorem d_T_refuse_14 : decode b_T_refuse 14 = .ok (.iastore, 1) := by decide +kernel
theorem d_T_refuse_15 : decode b_T_refuse 15 = .ok (.bipush (-3), 2) := by decide +kernel
theorem d_T_refuse_17 : decode b_T_refuse 17 = .ok (.ireturn, 1) := by decide +kernel
theorem mo_T_refuse : mok y_T_refuse b_T_refuse 2 (some .int) 1 := ⟨List.mem_of_getElem? (i := 411) (by decide +kernel), ⟨by decide +kernel, by decide +kernel, by decide +kernel⟩, List.mem_of_getElem? (i := 74) (by decide +kernel), by decide⟩
set_option maxHeartbeats 4000000 in
theorem c_T_refuse (l : Launch) (u : Un) (hA : Ap u) (σ : St) (n : Nat) (hn : n < 6) : MTi l u y_T_refuse b_T_refuse 2 .int 0 [.ref (u.2.1 0), .int (nI n)] σ (fun r σ' => -3 = r ∧ σ' = tRef σ n) := by
  refine MT_of hA rfl (by decide) (Nat.le_of_ble_eq_true rfl) (fun X hl F hr => ?_)
  subst hl
  refine v_to (ls' := [(0, .ref (u.2.1 0)), (1, .int (nI n))]) rfl ?_
  refine v_aload_n F d_T_refuse_0 rfl 0 rfl ?_
  refine v_iload_n F d_T_refuse_1 rfl 1 rfl ?_
  refine v_puti F fk_T_329 pk_T_latestFinding G0 rfl d_T_refuse_2 ?_
  refine v_ns (fun σ1 eσ1 => ?_)
  refine v_aload_n F d_T_refuse_5 rfl 0 rfl ?_
  refine v_getr (r := 62) F fk_T_65 G0 rfl d_T_refuse_6 ?_
  refine v_iload_n F d_T_refuse_9 rfl 1 rfl ?_
  refine v_dup2_11 F d_T_refuse_10 rfl rfl ?_
  refine v_ial F n G62 rfl (by omega) d_T_refuse_11 ?_
  refine v_iconst (v := 1) F d_T_refuse_12 ki_1 ?_
  refine v_iadd F d_T_refuse_13 ?_
  refine v_ias F n G62 rfl (by omega) d_T_refuse_14 ?_
  refine v_ns (fun σ2 eσ2 => ?_)
  refine v_bipush (v := (-3)) F d_T_refuse_15 kb_m3 ?_
  refine v_iret F hr rfl d_T_refuse_17 ?_
  exact ⟨rfl, by simp [tRef, uI, *]⟩
abbrev b_T_refusedRow : ByteArray := prog_1_method_47_code
abbrev y_T_refusedRow : MethodName := ⟨"TakerBook", "refusedRow", "(I)I"⟩
theorem d_T_refusedRow_0 : decode b_T_refusedRow 0 = .ok (.iload_n 1, 1) := by decide +kernel
theorem d_T_refusedRow_1 : decode b_T_refusedRow 1 = .ok (.invokestatic 76, 3) := by decide +kernel
theorem d_T_refusedRow_4 : decode b_T_refusedRow 4 = .ok (.ifCond .ne 5, 3) := by decide +kernel
theorem d_T_refusedRow_7 : decode b_T_refusedRow 7 = .ok (.iconst (-1), 1) := by decide +kernel
theorem d_T_refusedRow_8 : decode b_T_refusedRow 8 = .ok (.ireturn, 1) := by decide +kernel
theorem d_T_refusedRow_9 : decode b_T_refusedRow 9 = .ok (.aload_n 0, 1) := by decide +kernel
theorem d_T_refusedRow_10 : decode b_T_refusedRow 10 = .ok (.getfield 14, 3) := by decide +kernel
theorem d_T_refusedRow_13 : decode b_T_refusedRow 13 = .ok (.iload_n 1, 1) := by decide +kernel
theorem d_T_refusedRow_14 : decode b_T_refusedRow 14 = .ok (.iaload, 1) := by decide +kernel
theorem d_T_refusedRow_15 : decode b_T_refusedRow 15 = .ok (.ifCond .ge 11, 3) := by decide +kernel
theorem d_T_refusedRow_18 : decode b_T_refusedRow 18 = .ok (.aload_n 0, 1) := by decide +kernel
theorem d_T_refusedRow_19 : decode b_T_refusedRow 19 = .ok (.iconst 1, 1) := by decide +kernel
theorem d_T_refusedRow_20 : decode b_T_refusedRow 20 = .ok (.invokevirtual 80, 3) := by decide +kernel
theorem d_T_refusedRow_23 : decode b_T_refusedRow 23 = .ok (.goto 4, 3) := by decide +kernel
theorem d_T_refusedRow_26 : decode b_T_refusedRow 26 = .ok (.iconst 0, 1) := by decide +kernel
theorem d_T_refusedRow_27 : decode b_T_refusedRow 27 = .ok (.ireturn, 1) := by decide +kernel
theorem mo_T_refusedRow : mok y_T_refusedRow b_T_refusedRow 2 (some .int) 1 := ⟨List.mem_of_getElem? (i := 423) (by decide +kernel), ⟨by decide +kernel, by decide +kernel, by decide +kernel⟩, List.mem_of_getElem? (i := 74) (by decide +kernel), by decide⟩
set_option maxHeartbeats 4000000 in
theorem c_T_refusedRow (l : Launch) (u : Un) (hA : Ap u) (σ : St) (r : Int32) : MTi l u y_T_refusedRow b_T_refusedRow 2 .int 1 [.ref (u.2.1 0), .int r] σ (fun x σ' => (¬ inR r 6 ∧ -1 = x ∧ σ = σ') ∨ (inR r 6 ∧ σ.1 8 (ix r) < 0 ∧ -3 = x ∧ σ' = tRef σ 1) ∨ (inR r 6 ∧ 0 ≤ σ.1 8 (ix r) ∧ 0 = x ∧ σ = σ')) := by
  refine MT_of hA rfl (by decide) (Nat.le_of_ble_eq_true rfl) (fun X hl F hr => ?_)
  subst hl
  refine v_to (ls' := [(0, .ref (u.2.1 0)), (1, .int r)]) rfl ?_
  refine v_iload_n F d_T_refusedRow_0 rfl 1 rfl ?_
  refine v_runi (r_S F (c_T_isRow X.2.1 u hA σ r ) mo_T_isRow st_T_76 (by decide) rfl (Nat.le_of_ble_eq_true rfl) d_T_refusedRow_1) (fun r1 σ2 q3 => ?_)
  obtain ⟨rfl, rfl⟩ := q3
  refine v_bf F 9 d_T_refusedRow_4 rfl (fun h4 => ?_) (fun h4 => ?_)
  · skip
    refine v_aload_n F d_T_refusedRow_9 rfl 0 rfl ?_
    refine v_getr (r := 8) F fk_T_14 G0 rfl d_T_refusedRow_10 ?_
    refine v_iload_n F d_T_refusedRow_13 rfl 1 rfl ?_
    refine v_ial F (ix r) G8 (ix_eq h4.1) (ix_lt h4.1 h4.2 rfl (by decide)) d_T_refusedRow_14 ?_
    refine v_if_ge F 26 d_T_refusedRow_15 rfl (fun h15 => ?_) (fun h15 => ?_)
    · skip
      refine v_iconst (v := 0) F d_T_refusedRow_26 ki_0 ?_
      refine v_iret F hr rfl d_T_refusedRow_27 ?_
      first | (simp_all [inR]; done) | grind
    · skip
      refine v_aload_n F d_T_refusedRow_18 rfl 0 rfl ?_
      refine v_iconst (v := 1) F d_T_refusedRow_19 ki_1 ?_
      refine v_runi (r_V F (c_T_refuse X.2.1 u hA σ 1 (by decide)) mo_T_refuse st_T_80 rc_0 (by decide) rfl (Nat.le_of_ble_eq_true rfl) d_T_refusedRow_20) (fun r4 σ5 q6 => ?_)
      obtain ⟨rfl, eσ5⟩ := q6
      refine v_goto F 27 d_T_refusedRow_23 rfl ?_
      refine v_iret F hr rfl d_T_refusedRow_27 ?_
      first | (simp_all [inR]; done) | grind
  · skip
    refine v_iconst (v := (-1)) F d_T_refusedRow_7 ki_m1 ?_
    refine v_iret F hr rfl d_T_refusedRow_8 ?_
    first | (simp_all [inR]; done) | grind
abbrev b_T_refusedText : ByteArray := prog_1_method_49_code
abbrev y_T_refusedText : MethodName := ⟨"TakerBook", "refusedText", "(I)I"⟩
theorem d_T_refusedText_0 : decode b_T_refusedText 0 = .ok (.iload_n 1, 1) := by decide +kernel
theorem d_T_refusedText_1 : decode b_T_refusedText 1 = .ok (.invokestatic 104, 3) := by decide +kernel
theorem d_T_refusedText_4 : decode b_T_refusedText 4 = .ok (.ifCond .ne 5, 3) := by decide +kernel
theorem d_T_refusedText_7 : decode b_T_refusedText 7 = .ok (.iconst (-1), 1) := by decide +kernel
theorem d_T_refusedText_8 : decode b_T_refusedText 8 = .ok (.ireturn, 1) := by decide +kernel
theorem d_T_refusedText_9 : decode b_T_refusedText 9 = .ok (.aload_n 0, 1) := by decide +kernel
theorem d_T_refusedText_10 : decode b_T_refusedText 10 = .ok (.getfield 23, 3) := by decide +kernel
theorem d_T_refusedText_13 : decode b_T_refusedText 13 = .ok (.iload_n 1, 1) := by decide +kernel
theorem d_T_refusedText_14 : decode b_T_refusedText 14 = .ok (.iaload, 1) := by decide +kernel
theorem d_T_refusedText_15 : decode b_T_refusedText 15 = .ok (.ifCond .ge 11, 3) := by decide +kernel
theorem d_T_refusedText_18 : decode b_T_refusedText 18 = .ok (.aload_n 0, 1) := by decide +kernel
theorem d_T_refusedText_19 : decode b_T_refusedText 19 = .ok (.iconst 1, 1) := by decide +kernel
theorem d_T_refusedText_20 : decode b_T_refusedText 20 = .ok (.invokevirtual 80, 3) := by decide +kernel
theorem d_T_refusedText_23 : decode b_T_refusedText 23 = .ok (.goto 4, 3) := by decide +kernel
theorem d_T_refusedText_26 : decode b_T_refusedText 26 = .ok (.iconst 0, 1) := by decide +kernel
theorem d_T_refusedText_27 : decode b_T_refusedText 27 = .ok (.ireturn, 1) := by decide +kernel
theorem mo_T_refusedText : mok y_T_refusedText b_T_refusedText 2 (some .int) 1 := ⟨List.mem_of_getElem? (i := 460) (by decide +kernel), ⟨by decide +kernel, by decide +kernel, by decide +kernel⟩, List.mem_of_getElem? (i := 74) (by decide +kernel), by decide⟩
set_option maxHeartbeats 4000000 in
theorem c_T_refusedText (l : Launch) (u : Un) (hA : Ap u) (σ : St) (t : Int32) : MTi l u y_T_refusedText b_T_refusedText 2 .int 1 [.ref (u.2.1 0), .int t] σ (fun x σ' => (¬ inR t 4 ∧ -1 = x ∧ σ = σ') ∨ (inR t 4 ∧ σ.1 14 (ix t) < 0 ∧ -3 = x ∧ σ' = tRef σ 1) ∨ (inR t 4 ∧ 0 ≤ σ.1 14 (ix t) ∧ 0 = x ∧ σ = σ')) := by
  refine MT_of hA rfl (by decide) (Nat.le_of_ble_eq_true rfl) (fun X hl F hr => ?_)
  subst hl
  refine v_to (ls' := [(0, .ref (u.2.1 0)), (1, .int t)]) rfl ?_
  refine v_iload_n F d_T_refusedText_0 rfl 1 rfl ?_
  refine v_runi (r_S F (c_T_isText X.2.1 u hA σ t ) mo_T_isText st_T_104 (by decide) rfl (Nat.le_of_ble_eq_true rfl) d_T_refusedText_1) (fun r1 σ2 q3 => ?_)
  obtain ⟨rfl, rfl⟩ := q3
  refine v_bf F 9 d_T_refusedText_4 rfl (fun h4 => ?_) (fun h4 => ?_)
  · skip
    refine v_aload_n F d_T_refusedText_9 rfl 0 rfl ?_
    refine v_getr (r := 14) F fk_T_23 G0 rfl d_T_refusedText_10 ?_
    refine v_iload_n F d_T_refusedText_13 rfl 1 rfl ?_
    refine v_ial F (ix t) G14 (ix_eq h4.1) (ix_lt h4.1 h4.2 rfl (by decide)) d_T_refusedText_14 ?_
    refine v_if_ge F 26 d_T_refusedText_15 rfl (fun h15 => ?_) (fun h15 => ?_)
    · skip
      refine v_iconst (v := 0) F d_T_refusedText_26 ki_0 ?_
      refine v_iret F hr rfl d_T_refusedText_27 ?_
      first | (simp_all [inR]; done) | grind
    · skip
      refine v_aload_n F d_T_refusedText_18 rfl 0 rfl ?_
      refine v_iconst (v := 1) F d_T_refusedText_19 ki_1 ?_
      refine v_runi (r_V F (c_T_refuse X.2.1 u hA σ 1 (by decide)) mo_T_refuse st_T_80 rc_0 (by decide) rfl (Nat.le_of_ble_eq_true rfl) d_T_refusedText_20) (fun r4 σ5 q6 => ?_)
      obtain ⟨rfl, eσ5⟩ := q6
      refine v_goto F 27 d_T_refusedText_23 rfl ?_
      refine v_iret F hr rfl d_T_refusedText_27 ?_
      first | (simp_all [inR]; done) | grind
  · skip
    refine v_iconst (v := (-1)) F d_T_refusedText_7 ki_m1 ?_
    refine v_iret F hr rfl d_T_refusedText_8 ?_
    first | (simp_all [inR]; done) | grind
abbrev b_T_refusedPlace : ByteArray := prog_1_method_48_code
abbrev y_T_refusedPlace : MethodName := ⟨"TakerBook", "refusedPlace", "(II)I"⟩
theorem d_T_refusedPlace_0 : decode b_T_refusedPlace 0 = .ok (.aload_n 0, 1) := by decide +kernel
theorem d_T_refusedPlace_1 : decode b_T_refusedPlace 1 = .ok (.iload_n 1, 1) := by decide +kernel
theorem d_T_refusedPlace_2 : decode b_T_refusedPlace 2 = .ok (.invokevirtual 91, 3) := by decide +kernel
theorem d_T_refusedPlace_5 : decode b_T_refusedPlace 5 = .ok (.istore_n 3, 1) := by decide +kernel
theorem d_T_refusedPlace_6 : decode b_T_refusedPlace 6 = .ok (.iload_n 3, 1) := by decide +kernel
theorem d_T_refusedPlace_7 : decode b_T_refusedPlace 7 = .ok (.ifCond .eq 5, 3) := by decide +kernel
theorem d_T_refusedPlace_10 : decode b_T_refusedPlace 10 = .ok (.iload_n 3, 1) := by decide +kernel
theorem d_T_refusedPlace_11 : decode b_T_refusedPlace 11 = .ok (.ireturn, 1) := by decide +kernel
theorem d_T_refusedPlace_12 : decode b_T_refusedPlace 12 = .ok (.iload_n 2, 1) := by decide +kernel
theorem d_T_refusedPlace_13 : decode b_T_refusedPlace 13 = .ok (.ifCond .lt 13, 3) := by decide +kernel
theorem d_T_refusedPlace_16 : decode b_T_refusedPlace 16 = .ok (.iload_n 2, 1) := by decide +kernel
theorem d_T_refusedPlace_17 : decode b_T_refusedPlace 17 = .ok (.aload_n 0, 1) := by decide +kernel
theorem d_T_refusedPlace_18 : decode b_T_refusedPlace 18 = .ok (.getfield 14, 3) := by decide +kernel
theorem d_T_refusedPlace_21 : decode b_T_refusedPlace 21 = .ok (.iload_n 1, 1) := by decide +kernel
theorem d_T_refusedPlace_22 : decode b_T_refusedPlace 22 = .ok (.iaload, 1) := by decide +kernel
theorem d_T_refusedPlace_23 : decode b_T_refusedPlace 23 = .ok (.if_icmp .lt 11, 3) := by decide +kernel
theorem d_T_refusedPlace_26 : decode b_T_refusedPlace 26 = .ok (.aload_n 0, 1) := by decide +kernel
theorem d_T_refusedPlace_27 : decode b_T_refusedPlace 27 = .ok (.iconst 2, 1) := by decide +kernel
theorem d_T_refusedPlace_28 : decode b_T_refusedPlace 28 = .ok (.invokevirtual 80, 3) := by decide +kernel
theorem d_T_refusedPlace_31 : decode b_T_refusedPlace 31 = .ok (.goto 4, 3) := by decide +kernel
theorem d_T_refusedPlace_34 : decode b_T_refusedPlace 34 = .ok (.iconst 0, 1) := by decide +kernel
theorem d_T_refusedPlace_35 : decode b_T_refusedPlace 35 = .ok (.ireturn, 1) := by decide +kernel
theorem mo_T_refusedPlace : mok y_T_refusedPlace b_T_refusedPlace 4 (some .int) 2 := ⟨List.mem_of_getElem? (i := 419) (by decide +kernel), ⟨by decide +kernel, by decide +kernel, by decide +kernel⟩, List.mem_of_getElem? (i := 74) (by decide +kernel), by decide⟩
set_option maxHeartbeats 4000000 in
theorem c_T_refusedPlace (l : Launch) (u : Un) (hA : Ap u) (σ : St) (r i : Int32) : MTi l u y_T_refusedPlace b_T_refusedPlace 4 .int 2 [.ref (u.2.1 0), .int r, .int i] σ (fun x σ' => (¬ inR r 6 ∧ -1 = x ∧ σ = σ') ∨ (inR r 6 ∧ σ.1 8 (ix r) < 0 ∧ -3 = x ∧ σ' = tRef σ 1) ∨ (inR r 6 ∧ 0 ≤ σ.1 8 (ix r) ∧ (i < 0 ∨ σ.1 8 (ix r) ≤ i) ∧ -3 = x ∧ σ' = tRef σ 2) ∨ (inR r 6 ∧ 0 ≤ σ.1 8 (ix r) ∧ 0 ≤ i ∧ i < σ.1 8 (ix r) ∧ 0 = x ∧ σ = σ')) := by
  refine MT_of hA rfl (by decide) (Nat.le_of_ble_eq_true rfl) (fun X hl F hr => ?_)
  subst hl
  refine v_to (ls' := [(0, .ref (u.2.1 0)), (1, .int r), (2, .int i)]) rfl ?_
  refine v_aload_n F d_T_refusedPlace_0 rfl 0 rfl ?_
  refine v_iload_n F d_T_refusedPlace_1 rfl 1 rfl ?_
  refine v_runi (r_V F (c_T_refusedRow X.2.1 u hA σ r) mo_T_refusedRow st_T_91 rc_0 (by decide) rfl (Nat.le_of_ble_eq_true rfl) d_T_refusedPlace_2) (fun r1 σ2 q3 => ?_)
  rcases q3 with ⟨a1, rfl, rfl⟩ | ⟨a1, a2, rfl, eσ2⟩ | ⟨a1, a2, rfl, rfl⟩
  · skip
    refine v_istore_n (ls' := [(3, .int (-1)), (0, .ref (u.2.1 0)), (1, .int r), (2, .int i)]) F d_T_refusedPlace_5 rfl (by decide) rfl ?_
    refine v_iload_n F d_T_refusedPlace_6 rfl 0 rfl ?_
    refine v_if_eq F 12 d_T_refusedPlace_7 rfl (fun h => absurd h (by decide)) (fun _ => ?_)
    refine v_iload_n F d_T_refusedPlace_10 rfl 0 rfl ?_
    refine v_iret F hr rfl d_T_refusedPlace_11 ?_
    first | (simp_all [inR]; done) | grind
  · skip
    refine v_istore_n (ls' := [(3, .int (-3)), (0, .ref (u.2.1 0)), (1, .int r), (2, .int i)]) F d_T_refusedPlace_5 rfl (by decide) rfl ?_
    refine v_iload_n F d_T_refusedPlace_6 rfl 0 rfl ?_
    refine v_if_eq F 12 d_T_refusedPlace_7 rfl (fun h => absurd h (by decide)) (fun _ => ?_)
    refine v_iload_n F d_T_refusedPlace_10 rfl 0 rfl ?_
    refine v_iret F hr rfl d_T_refusedPlace_11 ?_
    first | (simp_all [inR]; done) | grind
  · skip
    refine v_istore_n (ls' := [(3, .int 0), (0, .ref (u.2.1 0)), (1, .int r), (2, .int i)]) F d_T_refusedPlace_5 rfl (by decide) rfl ?_
    refine v_iload_n F d_T_refusedPlace_6 rfl 0 rfl ?_
    refine v_if_eq F 12 d_T_refusedPlace_7 rfl (fun _ => ?_) (fun h => absurd (by decide) h)
    refine v_iload_n F d_T_refusedPlace_12 rfl 3 rfl ?_
    refine v_if_lt F 26 d_T_refusedPlace_13 rfl (fun h13 => ?_) (fun h13 => ?_)
    · skip
      refine v_aload_n F d_T_refusedPlace_26 rfl 1 rfl ?_
      refine v_iconst (v := 2) F d_T_refusedPlace_27 ki_2 ?_
      refine v_runi (r_V F (c_T_refuse X.2.1 u hA σ 2 (by decide)) mo_T_refuse st_T_80 rc_0 (by decide) rfl (Nat.le_of_ble_eq_true rfl) d_T_refusedPlace_28) (fun r4 σ5 q6 => ?_)
      obtain ⟨rfl, eσ5⟩ := q6
      refine v_goto F 35 d_T_refusedPlace_31 rfl ?_
      refine v_iret F hr rfl d_T_refusedPlace_35 ?_
      first | (simp_all [inR]; done) | grind
    · skip
      refine v_iload_n F d_T_refusedPlace_16 rfl 3 rfl ?_
      refine v_aload_n F d_T_refusedPlace_17 rfl 1 rfl ?_
      refine v_getr (r := 8) F fk_T_14 G0 rfl d_T_refusedPlace_18 ?_
      refine v_iload_n F d_T_refusedPlace_21 rfl 2 rfl ?_
      refine v_ial F (ix r) G8 (ix_eq a1.1) (ix_lt a1.1 a1.2 rfl (by decide)) d_T_refusedPlace_22 ?_
      refine v_icmp_lt F 34 d_T_refusedPlace_23 rfl (fun h23 => ?_) (fun h23 => ?_)
      · skip
        refine v_iconst (v := 0) F d_T_refusedPlace_34 ki_0 ?_
        refine v_iret F hr rfl d_T_refusedPlace_35 ?_
        first | (simp_all [inR]; done) | grind
      · skip
        refine v_aload_n F d_T_refusedPlace_26 rfl 1 rfl ?_
        refine v_iconst (v := 2) F d_T_refusedPlace_27 ki_2 ?_
        refine v_runi (r_V F (c_T_refuse X.2.1 u hA σ 2 (by decide)) mo_T_refuse st_T_80 rc_0 (by decide) rfl (Nat.le_of_ble_eq_true rfl) d_T_refusedPlace_28) (fun r7 σ8 q9 => ?_)
        obtain ⟨rfl, eσ8⟩ := q9
        refine v_goto F 35 d_T_refusedPlace_31 rfl ?_
        refine v_iret F hr rfl d_T_refusedPlace_35 ?_
        first | (simp_all [inR]; done) | grind
abbrev b_T_lay : ByteArray := prog_1_method_3_code
abbrev y_T_lay : MethodName := ⟨"TakerBook", "lay", "(III)I"⟩
theorem d_T_lay_0 : decode b_T_lay 0 = .ok (.aload_n 0, 1) := by decide +kernel
theorem d_T_lay_1 : decode b_T_lay 1 = .ok (.iload_n 1, 1) := by decide +kernel
theorem d_T_lay_2 : decode b_T_lay 2 = .ok (.iload_n 2, 1) := by decide +kernel
theorem d_T_lay_3 : decode b_T_lay 3 = .ok (.invokevirtual 84, 3) := by decide +kernel
theorem d_T_lay_6 : decode b_T_lay 6 = .ok (.istore 4, 2) := by decide +kernel
theorem d_T_lay_8 : decode b_T_lay 8 = .ok (.iload 4, 2) := by decide +kernel
theorem d_T_lay_10 : decode b_T_lay 10 = .ok (.ifCond .eq 6, 3) := by decide +kernel
theorem d_T_lay_13 : decode b_T_lay 13 = .ok (.iload 4, 2) := by decide +kernel
theorem d_T_lay_15 : decode b_T_lay 15 = .ok (.ireturn, 1) := by decide +kernel
theorem d_T_lay_16 : decode b_T_lay 16 = .ok (.aload_n 0, 1) := by decide +kernel
theorem d_T_lay_17 : decode b_T_lay 17 = .ok (.aload_n 0, 1) := by decide +kernel
theorem d_T_lay_18 : decode b_T_lay 18 = .ok (.getfield 11, 3) := by decide +kernel
theorem d_T_lay_21 : decode b_T_lay 21 = .ok (.iload_n 1, 1) := by decide +kernel
theorem d_T_lay_22 : decode b_T_lay 22 = .ok (.aaload, 1) := by decide +kernel
theorem d_T_lay_23 : decode b_T_lay 23 = .ok (.iload_n 2, 1) := by decide +kernel
theorem d_T_lay_24 : decode b_T_lay 24 = .ok (.iaload, 1) := by decide +kernel
theorem d_T_lay_25 : decode b_T_lay 25 = .ok (.putfield 88, 3) := by decide +kernel
theorem d_T_lay_28 : decode b_T_lay 28 = .ok (.aload_n 0, 1) := by decide +kernel
theorem d_T_lay_29 : decode b_T_lay 29 = .ok (.getfield 11, 3) := by decide +kernel
theorem d_T_lay_32 : decode b_T_lay 32 = .ok (.iload_n 1, 1) := by decide +kernel
theorem d_T_lay_33 : decode b_T_lay 33 = .ok (.aaload, 1) := by decide +kernel
theorem d_T_lay_34 : decode b_T_lay 34 = .ok (.iload_n 2, 1) := by decide +kernel
theorem d_T_lay_35 : decode b_T_lay 35 = .ok (.iload_n 3, 1) := by decide +kernel
theorem d_T_lay_36 : decode b_T_lay 36 = .ok (.iastore, 1) := by decide +kernel
theorem d_T_lay_37 : decode b_T_lay 37 = .ok (.iconst 1, 1) := by decide +kernel
theorem d_T_lay_38 : decode b_T_lay 38 = .ok (.ireturn, 1) := by decide +kernel
theorem mo_T_lay : mok y_T_lay b_T_lay 5 (some .int) 3 := ⟨List.mem_of_getElem? (i := 415) (by decide +kernel), ⟨by decide +kernel, by decide +kernel, by decide +kernel⟩, List.mem_of_getElem? (i := 74) (by decide +kernel), by decide⟩
set_option maxHeartbeats 4000000 in
theorem c_T_lay (l : Launch) (u : Un) (hA : Ap u) (σ : St) (r i v : Int32) (hI : rowsOk σ) : MTi l u y_T_lay b_T_lay 5 .int 3 [.ref (u.2.1 0), .int r, .int i, .int v] σ (fun ans σ' => (ans, σ') = tLay σ r i v) := by
  refine MT_of hA rfl (by decide) (Nat.le_of_ble_eq_true rfl) (fun X hl F hr => ?_)
  subst hl
  refine v_to (ls' := [(0, .ref (u.2.1 0)), (1, .int r), (2, .int i), (3, .int v)]) rfl ?_
  refine v_aload_n F d_T_lay_0 rfl 0 rfl ?_
  refine v_iload_n F d_T_lay_1 rfl 1 rfl ?_
  refine v_iload_n F d_T_lay_2 rfl 2 rfl ?_
  refine v_runi (r_V F (c_T_refusedPlace X.2.1 u hA σ r i) mo_T_refusedPlace st_T_84 rc_0 (by decide) rfl (Nat.le_of_ble_eq_true rfl) d_T_lay_3) (fun r1 σ2 q3 => ?_)
  rcases q3 with ⟨a1, rfl, rfl⟩ | ⟨a1, a2, rfl, eσ2⟩ | ⟨a1, a2, a3, rfl, eσ2⟩ | ⟨a1, a2, a3, a4, rfl, rfl⟩
  · skip
    refine v_istore (ls' := [(4, .int (-1)), (0, .ref (u.2.1 0)), (1, .int r), (2, .int i), (3, .int v)]) F d_T_lay_6 (by decide) rfl ?_
    refine v_iload F d_T_lay_8 0 rfl ?_
    refine v_if_eq F 16 d_T_lay_10 rfl (fun h => absurd h (by decide)) (fun _ => ?_)
    refine v_iload F d_T_lay_13 0 rfl ?_
    refine v_iret F hr rfl d_T_lay_15 ?_
    first | (simp_all [tLay, inR]; done) | grind [tLay]
  · skip
    refine v_istore (ls' := [(4, .int (-3)), (0, .ref (u.2.1 0)), (1, .int r), (2, .int i), (3, .int v)]) F d_T_lay_6 (by decide) rfl ?_
    refine v_iload F d_T_lay_8 0 rfl ?_
    refine v_if_eq F 16 d_T_lay_10 rfl (fun h => absurd h (by decide)) (fun _ => ?_)
    refine v_iload F d_T_lay_13 0 rfl ?_
    refine v_iret F hr rfl d_T_lay_15 ?_
    first | (simp_all [tLay, inR]; done) | grind [tLay]
  · skip
    refine v_istore (ls' := [(4, .int (-3)), (0, .ref (u.2.1 0)), (1, .int r), (2, .int i), (3, .int v)]) F d_T_lay_6 (by decide) rfl ?_
    refine v_iload F d_T_lay_8 0 rfl ?_
    refine v_if_eq F 16 d_T_lay_10 rfl (fun h => absurd h (by decide)) (fun _ => ?_)
    refine v_iload F d_T_lay_13 0 rfl ?_
    refine v_iret F hr rfl d_T_lay_15 ?_
    first | (simp_all [tLay, inR]; done) | grind [tLay]
  · skip
    refine v_istore (ls' := [(4, .int 0), (0, .ref (u.2.1 0)), (1, .int r), (2, .int i), (3, .int v)]) F d_T_lay_6 (by decide) rfl ?_
    refine v_iload F d_T_lay_8 0 rfl ?_
    refine v_if_eq F 16 d_T_lay_10 rfl (fun _ => ?_) (fun h => absurd (by decide) h)
    refine v_aload_n F d_T_lay_16 rfl 1 rfl ?_
    refine v_aload_n F d_T_lay_17 rfl 1 rfl ?_
    refine v_getr (r := 1) F fk_T_11 G0 rfl d_T_lay_18 ?_
    refine v_iload_n F d_T_lay_21 rfl 2 rfl ?_
    refine v_aal F (ix r) G1 rfl (ix_eq a1.1) (ix_lt a1.1 a1.2 rfl (by decide)) d_T_lay_22 ?_
    refine v_iload_n F d_T_lay_23 rfl 3 rfl ?_
    refine v_ial F (ix i) (gam_row _ (ix_lt a1.1 a1.2 rfl (by decide))) (ix_eq a3) (ix_lt a3 (i_lt_of a4 (hI _ (ix_lt a1.1 a1.2 rfl (by decide)))) rfl (by decide)) d_T_lay_24 ?_
    refine v_puti F fk_T_88 pk_T_told G0 rfl d_T_lay_25 ?_
    refine v_ns (fun σ4 eσ4 => ?_)
    refine v_aload_n F d_T_lay_28 rfl 1 rfl ?_
    refine v_getr (r := 1) F fk_T_11 G0 rfl d_T_lay_29 ?_
    refine v_iload_n F d_T_lay_32 rfl 2 rfl ?_
    refine v_aal F (ix r) G1 rfl (ix_eq a1.1) (ix_lt a1.1 a1.2 rfl (by decide)) d_T_lay_33 ?_
    refine v_iload_n F d_T_lay_34 rfl 3 rfl ?_
    refine v_iload_n F d_T_lay_35 rfl 4 rfl ?_
    refine v_ias F (ix i) (gam_row _ (ix_lt a1.1 a1.2 rfl (by decide))) (ix_eq a3) (ix_lt a3 (i_lt_of a4 (hI _ (ix_lt a1.1 a1.2 rfl (by decide)))) rfl (by decide)) d_T_lay_36 ?_
    refine v_ns (fun σ5 eσ5 => ?_)
    refine v_iconst (v := 1) F d_T_lay_37 ki_1 ?_
    refine v_iret F hr rfl d_T_lay_38 ?_
    first | (simp_all [tLay, inR]; done) | grind [tLay]
end
section
theorem st_T_107 : siteV "TakerBook" 107 ⟨"TakerBook", "refusedText", "(I)I"⟩ := ⟨List.mem_of_getElem? (i := 457) (by decide +kernel), List.mem_of_getElem? (i := 459) (by decide +kernel), List.mem_of_getElem? (i := 3) (by decide +kernel)⟩
theorem fk_T_20 : fok "TakerBook" 20 0 2 := ⟨(R_T, F_T, 15), rfl, by decide, List.mem_of_getElem? (i := 357) (by decide +kernel), rfl⟩
theorem G9 : Gam[9]? = some (.inr (.inl ((.array .byte), 4, fun j => 10 + j))) := rfl
theorem ks_1000 : (Int16.ofInt 1000).toInt32 = (1000 : Int32) := by decide
theorem kb_40 : (Int8.ofInt 40).toInt32 = (40 : Int32) := by decide
theorem ki_5 : Int32.ofInt 5 = (5 : Int32) := by decide
theorem kb_32 : (Int8.ofInt 32).toInt32 = (32 : Int32) := by decide
theorem kb_60 : (Int8.ofInt 60).toInt32 = (60 : Int32) := by decide
theorem st_T_94 : siteS "TakerBook" 94 ⟨"TakerBook", "holds", "(III)Z"⟩ := ⟨List.mem_of_getElem? (i := 436) (by decide +kernel), List.mem_of_getElem? (i := 437) (by decide +kernel)⟩
theorem fk_T_312 : fok "TakerBook" 312 0 13 := ⟨(R_T, F_T, 15), rfl, by decide, List.mem_of_getElem? (i := 368) (by decide +kernel), rfl⟩
theorem fk_T_68 : fok "TakerBook" 68 0 14 := ⟨(R_T, F_T, 15), rfl, by decide, List.mem_of_getElem? (i := 369) (by decide +kernel), rfl⟩
abbrev b_T_at : ByteArray := prog_1_method_4_code
abbrev y_T_at : MethodName := ⟨"TakerBook", "at", "(II)I"⟩
theorem d_T_at_0 : decode b_T_at 0 = .ok (.aload_n 0, 1) := by decide +kernel
theorem d_T_at_1 : decode b_T_at 1 = .ok (.iload_n 1, 1) := by decide +kernel
theorem d_T_at_2 : decode b_T_at 2 = .ok (.iload_n 2, 1) := by decide +kernel
theorem d_T_at_3 : decode b_T_at 3 = .ok (.invokevirtual 84, 3) := by decide +kernel
theorem d_T_at_6 : decode b_T_at 6 = .ok (.istore_n 3, 1) := by decide +kernel
theorem d_T_at_7 : decode b_T_at 7 = .ok (.iload_n 3, 1) := by decide +kernel
theorem d_T_at_8 : decode b_T_at 8 = .ok (.ifCond .eq 5, 3) := by decide +kernel
theorem d_T_at_11 : decode b_T_at 11 = .ok (.iload_n 3, 1) := by decide +kernel
theorem d_T_at_12 : decode b_T_at 12 = .ok (.ireturn, 1) := by decide +kernel
theorem d_T_at_13 : decode b_T_at 13 = .ok (.aload_n 0, 1) := by decide +kernel
theorem d_T_at_14 : decode b_T_at 14 = .ok (.aload_n 0, 1) := by decide +kernel
theorem d_T_at_15 : decode b_T_at 15 = .ok (.getfield 11, 3) := by decide +kernel
theorem d_T_at_18 : decode b_T_at 18 = .ok (.iload_n 1, 1) := by decide +kernel
theorem d_T_at_19 : decode b_T_at 19 = .ok (.aaload, 1) := by decide +kernel
theorem d_T_at_20 : decode b_T_at 20 = .ok (.iload_n 2, 1) := by decide +kernel
theorem d_T_at_21 : decode b_T_at 21 = .ok (.iaload, 1) := by decide +kernel
theorem d_T_at_22 : decode b_T_at 22 = .ok (.putfield 88, 3) := by decide +kernel
theorem d_T_at_25 : decode b_T_at 25 = .ok (.iconst 1, 1) := by decide +kernel
theorem d_T_at_26 : decode b_T_at 26 = .ok (.ireturn, 1) := by decide +kernel
theorem mo_T_at : mok y_T_at b_T_at 4 (some .int) 2 := ⟨List.mem_of_getElem? (i := 427) (by decide +kernel), ⟨by decide +kernel, by decide +kernel, by decide +kernel⟩, List.mem_of_getElem? (i := 74) (by decide +kernel), by decide⟩
set_option maxHeartbeats 4000000 in
theorem c_T_at (l : Launch) (u : Un) (hA : Ap u) (σ : St) (r i : Int32) (hI : rowsOk σ) : MTi l u y_T_at b_T_at 4 .int 3 [.ref (u.2.1 0), .int r, .int i] σ (fun ans σ' => (ans, σ') = tAt σ r i) := by
  refine MT_of hA rfl (by decide) (Nat.le_of_ble_eq_true rfl) (fun X hl F hr => ?_)
  subst hl
  refine v_to (ls' := [(0, .ref (u.2.1 0)), (1, .int r), (2, .int i)]) rfl ?_
  refine v_aload_n F d_T_at_0 rfl 0 rfl ?_
  refine v_iload_n F d_T_at_1 rfl 1 rfl ?_
  refine v_iload_n F d_T_at_2 rfl 2 rfl ?_
  refine v_runi (r_V F (c_T_refusedPlace X.2.1 u hA σ r i) mo_T_refusedPlace st_T_84 rc_0 (by decide) rfl (Nat.le_of_ble_eq_true rfl) d_T_at_3) (fun r1 σ2 q3 => ?_)
  rcases q3 with ⟨a1, rfl, rfl⟩ | ⟨a1, a2, rfl, eσ2⟩ | ⟨a1, a2, a3, rfl, eσ2⟩ | ⟨a1, a2, a3, a4, rfl, rfl⟩
  · skip
    refine v_istore_n (ls' := [(3, .int (-1)), (0, .ref (u.2.1 0)), (1, .int r), (2, .int i)]) F d_T_at_6 rfl (by decide) rfl ?_
    refine v_iload_n F d_T_at_7 rfl 0 rfl ?_
    refine v_if_eq F 13 d_T_at_8 rfl (fun h => absurd h (by decide)) (fun _ => ?_)
    refine v_iload_n F d_T_at_11 rfl 0 rfl ?_
    refine v_iret F hr rfl d_T_at_12 ?_
    first | (simp_all [tAt, inR]; done) | grind [tAt]
  · skip
    refine v_istore_n (ls' := [(3, .int (-3)), (0, .ref (u.2.1 0)), (1, .int r), (2, .int i)]) F d_T_at_6 rfl (by decide) rfl ?_
    refine v_iload_n F d_T_at_7 rfl 0 rfl ?_
    refine v_if_eq F 13 d_T_at_8 rfl (fun h => absurd h (by decide)) (fun _ => ?_)
    refine v_iload_n F d_T_at_11 rfl 0 rfl ?_
    refine v_iret F hr rfl d_T_at_12 ?_
    first | (simp_all [tAt, inR]; done) | grind [tAt]
  · skip
    refine v_istore_n (ls' := [(3, .int (-3)), (0, .ref (u.2.1 0)), (1, .int r), (2, .int i)]) F d_T_at_6 rfl (by decide) rfl ?_
    refine v_iload_n F d_T_at_7 rfl 0 rfl ?_
    refine v_if_eq F 13 d_T_at_8 rfl (fun h => absurd h (by decide)) (fun _ => ?_)
    refine v_iload_n F d_T_at_11 rfl 0 rfl ?_
    refine v_iret F hr rfl d_T_at_12 ?_
    first | (simp_all [tAt, inR]; done) | grind [tAt]
  · skip
    refine v_istore_n (ls' := [(3, .int 0), (0, .ref (u.2.1 0)), (1, .int r), (2, .int i)]) F d_T_at_6 rfl (by decide) rfl ?_
    refine v_iload_n F d_T_at_7 rfl 0 rfl ?_
    refine v_if_eq F 13 d_T_at_8 rfl (fun _ => ?_) (fun h => absurd (by decide) h)
    refine v_aload_n F d_T_at_13 rfl 1 rfl ?_
    refine v_aload_n F d_T_at_14 rfl 1 rfl ?_
    refine v_getr (r := 1) F fk_T_11 G0 rfl d_T_at_15 ?_
    refine v_iload_n F d_T_at_18 rfl 2 rfl ?_
    refine v_aal F (ix r) G1 rfl (ix_eq a1.1) (ix_lt a1.1 a1.2 rfl (by decide)) d_T_at_19 ?_
    refine v_iload_n F d_T_at_20 rfl 3 rfl ?_
    refine v_ial F (ix i) (gam_row _ (ix_lt a1.1 a1.2 rfl (by decide))) (ix_eq a3) (ix_lt a3 (i_lt_of a4 (hI _ (ix_lt a1.1 a1.2 rfl (by decide)))) rfl (by decide)) d_T_at_21 ?_
    refine v_puti F fk_T_88 pk_T_told G0 rfl d_T_at_22 ?_
    refine v_ns (fun σ4 eσ4 => ?_)
    refine v_iconst (v := 1) F d_T_at_25 ki_1 ?_
    refine v_iret F hr rfl d_T_at_26 ?_
    first | (simp_all [tAt, inR]; done) | grind [tAt]
abbrev b_T_tear : ByteArray := prog_1_method_5_code
abbrev y_T_tear : MethodName := ⟨"TakerBook", "tear", "(I)I"⟩
theorem d_T_tear_0 : decode b_T_tear 0 = .ok (.aload_n 0, 1) := by decide +kernel
theorem d_T_tear_1 : decode b_T_tear 1 = .ok (.iload_n 1, 1) := by decide +kernel
theorem d_T_tear_2 : decode b_T_tear 2 = .ok (.invokevirtual 91, 3) := by decide +kernel
theorem d_T_tear_5 : decode b_T_tear 5 = .ok (.istore_n 2, 1) := by decide +kernel
theorem d_T_tear_6 : decode b_T_tear 6 = .ok (.iload_n 2, 1) := by decide +kernel
theorem d_T_tear_7 : decode b_T_tear 7 = .ok (.ifCond .eq 5, 3) := by decide +kernel
theorem d_T_tear_10 : decode b_T_tear 10 = .ok (.iload_n 2, 1) := by decide +kernel
theorem d_T_tear_11 : decode b_T_tear 11 = .ok (.ireturn, 1) := by decide +kernel
theorem d_T_tear_12 : decode b_T_tear 12 = .ok (.aload_n 0, 1) := by decide +kernel
theorem d_T_tear_13 : decode b_T_tear 13 = .ok (.getfield 14, 3) := by decide +kernel
theorem d_T_tear_16 : decode b_T_tear 16 = .ok (.iload_n 1, 1) := by decide +kernel
theorem d_T_tear_17 : decode b_T_tear 17 = .ok (.iconst (-1), 1) := by decide +kernel
theorem d_T_tear_18 : decode b_T_tear 18 = .ok (.iastore, 1) := by decide +kernel
theorem d_T_tear_19 : decode b_T_tear 19 = .ok (.iconst 1, 1) := by decide +kernel
theorem d_T_tear_20 : decode b_T_tear 20 = .ok (.ireturn, 1) := by decide +kernel
theorem mo_T_tear : mok y_T_tear b_T_tear 3 (some .int) 1 := ⟨List.mem_of_getElem? (i := 431) (by decide +kernel), ⟨by decide +kernel, by decide +kernel, by decide +kernel⟩, List.mem_of_getElem? (i := 74) (by decide +kernel), by decide⟩
set_option maxHeartbeats 4000000 in
theorem c_T_tear (l : Launch) (u : Un) (hA : Ap u) (σ : St) (r : Int32) : MTi l u y_T_tear b_T_tear 3 .int 2 [.ref (u.2.1 0), .int r] σ (fun ans σ' => (ans, σ') = tTear σ r) := by
  refine MT_of hA rfl (by decide) (Nat.le_of_ble_eq_true rfl) (fun X hl F hr => ?_)
  subst hl
  refine v_to (ls' := [(0, .ref (u.2.1 0)), (1, .int r)]) rfl ?_
  refine v_aload_n F d_T_tear_0 rfl 0 rfl ?_
  refine v_iload_n F d_T_tear_1 rfl 1 rfl ?_
  refine v_runi (r_V F (c_T_refusedRow X.2.1 u hA σ r) mo_T_refusedRow st_T_91 rc_0 (by decide) rfl (Nat.le_of_ble_eq_true rfl) d_T_tear_2) (fun r1 σ2 q3 => ?_)
  rcases q3 with ⟨a1, rfl, rfl⟩ | ⟨a1, a2, rfl, eσ2⟩ | ⟨a1, a2, rfl, rfl⟩
  · skip
    refine v_istore_n (ls' := [(2, .int (-1)), (0, .ref (u.2.1 0)), (1, .int r)]) F d_T_tear_5 rfl (by decide) rfl ?_
    refine v_iload_n F d_T_tear_6 rfl 0 rfl ?_
    refine v_if_eq F 12 d_T_tear_7 rfl (fun h => absurd h (by decide)) (fun _ => ?_)
    refine v_iload_n F d_T_tear_10 rfl 0 rfl ?_
    refine v_iret F hr rfl d_T_tear_11 ?_
    first | (simp_all [tTear, inR]; done) | grind [tTear]
  · skip
    refine v_istore_n (ls' := [(2, .int (-3)), (0, .ref (u.2.1 0)), (1, .int r)]) F d_T_tear_5 rfl (by decide) rfl ?_
    refine v_iload_n F d_T_tear_6 rfl 0 rfl ?_
    refine v_if_eq F 12 d_T_tear_7 rfl (fun h => absurd h (by decide)) (fun _ => ?_)
    refine v_iload_n F d_T_tear_10 rfl 0 rfl ?_
    refine v_iret F hr rfl d_T_tear_11 ?_
    first | (simp_all [tTear, inR]; done) | grind [tTear]
  · skip
    refine v_istore_n (ls' := [(2, .int 0), (0, .ref (u.2.1 0)), (1, .int r)]) F d_T_tear_5 rfl (by decide) rfl ?_
    refine v_iload_n F d_T_tear_6 rfl 0 rfl ?_
    refine v_if_eq F 12 d_T_tear_7 rfl (fun _ => ?_) (fun h => absurd (by decide) h)
    refine v_aload_n F d_T_tear_12 rfl 1 rfl ?_
    refine v_getr (r := 8) F fk_T_14 G0 rfl d_T_tear_13 ?_
    refine v_iload_n F d_T_tear_16 rfl 2 rfl ?_
    refine v_iconst (v := (-1)) F d_T_tear_17 ki_m1 ?_
    refine v_ias F (ix r) G8 (ix_eq a1.1) (ix_lt a1.1 a1.2 rfl (by decide)) d_T_tear_18 ?_
    refine v_ns (fun σ4 eσ4 => ?_)
    refine v_iconst (v := 1) F d_T_tear_19 ki_1 ?_
    refine v_iret F hr rfl d_T_tear_20 ?_
    first | (simp_all [tTear, inR]; done) | grind [tTear]
abbrev b_T_put : ByteArray := prog_1_method_9_code
abbrev y_T_put : MethodName := ⟨"TakerBook", "put", "(III)I"⟩
theorem d_T_put_0 : decode b_T_put 0 = .ok (.aload_n 0, 1) := by decide +kernel
theorem d_T_put_1 : decode b_T_put 1 = .ok (.iload_n 1, 1) := by decide +kernel
theorem d_T_put_2 : decode b_T_put 2 = .ok (.invokevirtual 107, 3) := by decide +kernel
theorem d_T_put_5 : decode b_T_put 5 = .ok (.istore 4, 2) := by decide +kernel
theorem d_T_put_7 : decode b_T_put 7 = .ok (.iload 4, 2) := by decide +kernel
theorem d_T_put_9 : decode b_T_put 9 = .ok (.ifCond .eq 6, 3) := by decide +kernel
theorem d_T_put_12 : decode b_T_put 12 = .ok (.iload 4, 2) := by decide +kernel
theorem d_T_put_14 : decode b_T_put 14 = .ok (.ireturn, 1) := by decide +kernel
theorem d_T_put_15 : decode b_T_put 15 = .ok (.iload_n 2, 1) := by decide +kernel
theorem d_T_put_16 : decode b_T_put 16 = .ok (.ifCond .lt 13, 3) := by decide +kernel
theorem d_T_put_19 : decode b_T_put 19 = .ok (.iload_n 2, 1) := by decide +kernel
theorem d_T_put_20 : decode b_T_put 20 = .ok (.aload_n 0, 1) := by decide +kernel
theorem d_T_put_21 : decode b_T_put 21 = .ok (.getfield 23, 3) := by decide +kernel
theorem d_T_put_24 : decode b_T_put 24 = .ok (.iload_n 1, 1) := by decide +kernel
theorem d_T_put_25 : decode b_T_put 25 = .ok (.iaload, 1) := by decide +kernel
theorem d_T_put_26 : decode b_T_put 26 = .ok (.if_icmp .lt 9, 3) := by decide +kernel
theorem d_T_put_29 : decode b_T_put 29 = .ok (.aload_n 0, 1) := by decide +kernel
theorem d_T_put_30 : decode b_T_put 30 = .ok (.iconst 2, 1) := by decide +kernel
theorem d_T_put_31 : decode b_T_put 31 = .ok (.invokevirtual 80, 3) := by decide +kernel
theorem d_T_put_34 : decode b_T_put 34 = .ok (.ireturn, 1) := by decide +kernel
theorem d_T_put_35 : decode b_T_put 35 = .ok (.aload_n 0, 1) := by decide +kernel
theorem d_T_put_36 : decode b_T_put 36 = .ok (.getfield 20, 3) := by decide +kernel
theorem d_T_put_39 : decode b_T_put 39 = .ok (.iload_n 1, 1) := by decide +kernel
theorem d_T_put_40 : decode b_T_put 40 = .ok (.aaload, 1) := by decide +kernel
theorem d_T_put_41 : decode b_T_put 41 = .ok (.iload_n 2, 1) := by decide +kernel
theorem d_T_put_42 : decode b_T_put 42 = .ok (.baload, 1) := by decide +kernel
theorem d_T_put_43 : decode b_T_put 43 = .ok (.istore 5, 2) := by decide +kernel
theorem d_T_put_45 : decode b_T_put 45 = .ok (.aload_n 0, 1) := by decide +kernel
theorem d_T_put_46 : decode b_T_put 46 = .ok (.getfield 20, 3) := by decide +kernel
theorem d_T_put_49 : decode b_T_put 49 = .ok (.iload_n 1, 1) := by decide +kernel
theorem d_T_put_50 : decode b_T_put 50 = .ok (.aaload, 1) := by decide +kernel
theorem d_T_put_51 : decode b_T_put 51 = .ok (.iload_n 2, 1) := by decide +kernel
theorem d_T_put_52 : decode b_T_put 52 = .ok (.iload_n 3, 1) := by decide +kernel
theorem d_T_put_53 : decode b_T_put 53 = .ok (.i2b, 1) := by decide +kernel
theorem d_T_put_54 : decode b_T_put 54 = .ok (.bastore, 1) := by decide +kernel
theorem d_T_put_55 : decode b_T_put 55 = .ok (.iload 5, 2) := by decide +kernel
theorem d_T_put_57 : decode b_T_put 57 = .ok (.sipush 1000, 3) := by decide +kernel
theorem d_T_put_60 : decode b_T_put 60 = .ok (.iadd, 1) := by decide +kernel
theorem d_T_put_61 : decode b_T_put 61 = .ok (.ireturn, 1) := by decide +kernel
theorem mo_T_put : mok y_T_put b_T_put 6 (some .int) 3 := ⟨List.mem_of_getElem? (i := 456) (by decide +kernel), ⟨by decide +kernel, by decide +kernel, by decide +kernel⟩, List.mem_of_getElem? (i := 74) (by decide +kernel), by decide⟩
set_option maxHeartbeats 4000000 in
theorem c_T_put (l : Launch) (u : Un) (hA : Ap u) (σ : St) (t i v : Int32) (hI : textsOk σ) : MTi l u y_T_put b_T_put 6 .int 2 [.ref (u.2.1 0), .int t, .int i, .int v] σ (fun ans σ' => (ans, σ') = tPut σ t i v) := by
  refine MT_of hA rfl (by decide) (Nat.le_of_ble_eq_true rfl) (fun X hl F hr => ?_)
  subst hl
  refine v_to (ls' := [(0, .ref (u.2.1 0)), (1, .int t), (2, .int i), (3, .int v)]) rfl ?_
  refine v_aload_n F d_T_put_0 rfl 0 rfl ?_
  refine v_iload_n F d_T_put_1 rfl 1 rfl ?_
  refine v_runi (r_V F (c_T_refusedText X.2.1 u hA σ t) mo_T_refusedText st_T_107 rc_0 (by decide) rfl (Nat.le_of_ble_eq_true rfl) d_T_put_2) (fun r1 σ2 q3 => ?_)
  rcases q3 with ⟨a1, rfl, rfl⟩ | ⟨a1, a2, rfl, eσ2⟩ | ⟨a1, a2, rfl, rfl⟩
  · skip
    refine v_istore (ls' := [(4, .int (-1)), (0, .ref (u.2.1 0)), (1, .int t), (2, .int i), (3, .int v)]) F d_T_put_5 (by decide) rfl ?_
    refine v_iload F d_T_put_7 0 rfl ?_
    refine v_if_eq F 15 d_T_put_9 rfl (fun h => absurd h (by decide)) (fun _ => ?_)
    refine v_iload F d_T_put_12 0 rfl ?_
    refine v_iret F hr rfl d_T_put_14 ?_
    first | (simp_all [tPut, inR]; done) | grind [tPut]
  · skip
    refine v_istore (ls' := [(4, .int (-3)), (0, .ref (u.2.1 0)), (1, .int t), (2, .int i), (3, .int v)]) F d_T_put_5 (by decide) rfl ?_
    refine v_iload F d_T_put_7 0 rfl ?_
    refine v_if_eq F 15 d_T_put_9 rfl (fun h => absurd h (by decide)) (fun _ => ?_)
    refine v_iload F d_T_put_12 0 rfl ?_
    refine v_iret F hr rfl d_T_put_14 ?_
    first | (simp_all [tPut, inR]; done) | grind [tPut]
  · skip
    refine v_istore (ls' := [(4, .int 0), (0, .ref (u.2.1 0)), (1, .int t), (2, .int i), (3, .int v)]) F d_T_put_5 (by decide) rfl ?_
    refine v_iload F d_T_put_7 0 rfl ?_
    refine v_if_eq F 15 d_T_put_9 rfl (fun _ => ?_) (fun h => absurd (by decide) h)
    refine v_iload_n F d_T_put_15 rfl 3 rfl ?_
    refine v_if_lt F 29 d_T_put_16 rfl (fun h16 => ?_) (fun h16 => ?_)
    · skip
      refine v_aload_n F d_T_put_29 rfl 1 rfl ?_
      refine v_iconst (v := 2) F d_T_put_30 ki_2 ?_
      refine v_runi (r_V F (c_T_refuse X.2.1 u hA σ 2 (by decide)) mo_T_refuse st_T_80 rc_0 (by decide) rfl (Nat.le_of_ble_eq_true rfl) d_T_put_31) (fun r4 σ5 q6 => ?_)
      obtain ⟨rfl, eσ5⟩ := q6
      refine v_iret F hr rfl d_T_put_34 ?_
      first | (simp_all [tPut, inR]; done) | grind [tPut]
    · skip
      refine v_iload_n F d_T_put_19 rfl 3 rfl ?_
      refine v_aload_n F d_T_put_20 rfl 1 rfl ?_
      refine v_getr (r := 14) F fk_T_23 G0 rfl d_T_put_21 ?_
      refine v_iload_n F d_T_put_24 rfl 2 rfl ?_
      refine v_ial F (ix t) G14 (ix_eq a1.1) (ix_lt a1.1 a1.2 rfl (by decide)) d_T_put_25 ?_
      refine v_icmp_lt F 35 d_T_put_26 rfl (fun h26 => ?_) (fun h26 => ?_)
      · skip
        refine v_aload_n F d_T_put_35 rfl 1 rfl ?_
        refine v_getr (r := 9) F fk_T_20 G0 rfl d_T_put_36 ?_
        refine v_iload_n F d_T_put_39 rfl 2 rfl ?_
        refine v_aal F (ix t) G9 rfl (ix_eq a1.1) (ix_lt a1.1 a1.2 rfl (by decide)) d_T_put_40 ?_
        refine v_iload_n F d_T_put_41 rfl 3 rfl ?_
        refine v_bal F (ix i) (gam_text _ (ix_lt a1.1 a1.2 rfl (by decide))) (ix_eq (i_nlt.mp h16)) (ix_lt (i_nlt.mp h16) (i_lt_of h26 (hI _ (ix_lt a1.1 a1.2 rfl (by decide)))) rfl (by decide)) d_T_put_42 ?_
        refine v_ni (fun x7 ex7 => ?_)
        refine v_istore (ls' := [(5, .int x7), (4, .int 0), (0, .ref (u.2.1 0)), (1, .int t), (2, .int i), (3, .int v)]) F d_T_put_43 (by decide) rfl ?_
        refine v_aload_n F d_T_put_45 rfl 2 rfl ?_
        refine v_getr (r := 9) F fk_T_20 G0 rfl d_T_put_46 ?_
        refine v_iload_n F d_T_put_49 rfl 3 rfl ?_
        refine v_aal F (ix t) G9 rfl (ix_eq a1.1) (ix_lt a1.1 a1.2 rfl (by decide)) d_T_put_50 ?_
        refine v_iload_n F d_T_put_51 rfl 4 rfl ?_
        refine v_iload_n F d_T_put_52 rfl 5 rfl ?_
        refine v_i2b F d_T_put_53 ?_
        refine v_bas F (ix i) (gam_text _ (ix_lt a1.1 a1.2 rfl (by decide))) (ix_eq (i_nlt.mp h16)) (ix_lt (i_nlt.mp h16) (i_lt_of h26 (hI _ (ix_lt a1.1 a1.2 rfl (by decide)))) rfl (by decide)) d_T_put_54 ?_
        refine v_ns (fun σ8 eσ8 => ?_)
        refine v_iload F d_T_put_55 0 rfl ?_
        refine v_sipush (v := 1000) F d_T_put_57 ks_1000 ?_
        refine v_iadd F d_T_put_60 ?_
        refine v_iret F hr rfl d_T_put_61 ?_
        first | (simp_all [tPut, inR]; done) | grind [tPut]
      · skip
        refine v_aload_n F d_T_put_29 rfl 1 rfl ?_
        refine v_iconst (v := 2) F d_T_put_30 ki_2 ?_
        refine v_runi (r_V F (c_T_refuse X.2.1 u hA σ 2 (by decide)) mo_T_refuse st_T_80 rc_0 (by decide) rfl (Nat.le_of_ble_eq_true rfl) d_T_put_31) (fun r9 σ10 q11 => ?_)
        obtain ⟨rfl, eσ10⟩ := q11
        refine v_iret F hr rfl d_T_put_34 ?_
        first | (simp_all [tPut, inR]; done) | grind [tPut]
abbrev b_T_mean : ByteArray := prog_1_method_7_code
abbrev y_T_mean : MethodName := ⟨"TakerBook", "mean", "(I)I"⟩
theorem d_T_mean_0 : decode b_T_mean 0 = .ok (.aload_n 0, 1) := by decide +kernel
theorem d_T_mean_1 : decode b_T_mean 1 = .ok (.iload_n 1, 1) := by decide +kernel
theorem d_T_mean_2 : decode b_T_mean 2 = .ok (.invokevirtual 91, 3) := by decide +kernel
theorem d_T_mean_5 : decode b_T_mean 5 = .ok (.istore_n 2, 1) := by decide +kernel
theorem d_T_mean_6 : decode b_T_mean 6 = .ok (.iload_n 2, 1) := by decide +kernel
theorem d_T_mean_7 : decode b_T_mean 7 = .ok (.ifCond .eq 5, 3) := by decide +kernel
theorem d_T_mean_10 : decode b_T_mean 10 = .ok (.iload_n 2, 1) := by decide +kernel
theorem d_T_mean_11 : decode b_T_mean 11 = .ok (.ireturn, 1) := by decide +kernel
theorem d_T_mean_12 : decode b_T_mean 12 = .ok (.aload_n 0, 1) := by decide +kernel
theorem d_T_mean_13 : decode b_T_mean 13 = .ok (.getfield 14, 3) := by decide +kernel
theorem d_T_mean_16 : decode b_T_mean 16 = .ok (.iload_n 1, 1) := by decide +kernel
theorem d_T_mean_17 : decode b_T_mean 17 = .ok (.iaload, 1) := by decide +kernel
theorem d_T_mean_18 : decode b_T_mean 18 = .ok (.istore_n 3, 1) := by decide +kernel
theorem d_T_mean_19 : decode b_T_mean 19 = .ok (.iload_n 3, 1) := by decide +kernel
theorem d_T_mean_20 : decode b_T_mean 20 = .ok (.ifCond .ne 9, 3) := by decide +kernel
theorem d_T_mean_23 : decode b_T_mean 23 = .ok (.aload_n 0, 1) := by decide +kernel
theorem d_T_mean_24 : decode b_T_mean 24 = .ok (.iconst 4, 1) := by decide +kernel
theorem d_T_mean_25 : decode b_T_mean 25 = .ok (.invokevirtual 80, 3) := by decide +kernel
theorem d_T_mean_28 : decode b_T_mean 28 = .ok (.ireturn, 1) := by decide +kernel
theorem d_T_mean_29 : decode b_T_mean 29 = .ok (.lconst 0, 1) := by decide +kernel
theorem d_T_mean_30 : decode b_T_mean 30 = .ok (.lstore 4, 2) := by decide +kernel
theorem d_T_mean_32 : decode b_T_mean 32 = .ok (.iconst 0, 1) := by decide +kernel
theorem d_T_mean_33 : decode b_T_mean 33 = .ok (.istore 6, 2) := by decide +kernel
theorem d_T_mean_35 : decode b_T_mean 35 = .ok (.iload 6, 2) := by decide +kernel
theorem d_T_mean_37 : decode b_T_mean 37 = .ok (.iload_n 3, 1) := by decide +kernel
theorem d_T_mean_38 : decode b_T_mean 38 = .ok (.if_icmp .ge 24, 3) := by decide +kernel
theorem d_T_mean_41 : decode b_T_mean 41 = .ok (.lload 4, 2) := by decide +kernel
theorem d_T_mean_43 : decode b_T_mean 43 = .ok (.aload_n 0, 1) := by decide +kernel
theorem d_T_mean_44 : decode b_T_mean 44 = .ok (.getfield 11, 3) := by decide +kernel
theorem d_T_mean_47 : decode b_T_mean 47 = .ok (.iload_n 1, 1) := by decide +kernel
theorem d_T_mean_48 : decode b_T_mean 48 = .ok (.aaload, 1) := by decide +kernel
theorem d_T_mean_49 : decode b_T_mean 49 = .ok (.iload 6, 2) := by decide +kernel
theorem d_T_mean_51 : decode b_T_mean 51 = .ok (.iaload, 1) := by decide +kernel
theorem d_T_mean_52 : decode b_T_mean 52 = .ok (.i2l, 1) := by decide +kernel
theorem d_T_mean_53 : decode b_T_mean 53 = .ok (.ladd, 1) := by decide +kernel
theorem d_T_mean_54 : decode b_T_mean 54 = .ok (.lstore 4, 2) := by decide +kernel
theorem d_T_mean_56 : decode b_T_mean 56 = .ok (.iinc 6 1, 3) := by decide +kernel
theorem d_T_mean_59 : decode b_T_mean 59 = .ok (.goto (-24), 3) := by decide +kernel
theorem d_T_mean_62 : decode b_T_mean 62 = .ok (.aload_n 0, 1) := by decide +kernel
theorem d_T_mean_63 : decode b_T_mean 63 = .ok (.lload 4, 2) := by decide +kernel
theorem d_T_mean_65 : decode b_T_mean 65 = .ok (.iload_n 3, 1) := by decide +kernel
theorem d_T_mean_66 : decode b_T_mean 66 = .ok (.i2l, 1) := by decide +kernel
theorem d_T_mean_67 : decode b_T_mean 67 = .ok (.ldiv, 1) := by decide +kernel
theorem d_T_mean_68 : decode b_T_mean 68 = .ok (.l2i, 1) := by decide +kernel
theorem d_T_mean_69 : decode b_T_mean 69 = .ok (.putfield 88, 3) := by decide +kernel
theorem d_T_mean_72 : decode b_T_mean 72 = .ok (.iconst 1, 1) := by decide +kernel
theorem d_T_mean_73 : decode b_T_mean 73 = .ok (.ireturn, 1) := by decide +kernel
theorem mo_T_mean : mok y_T_mean b_T_mean 7 (some .int) 1 := ⟨List.mem_of_getElem? (i := 445) (by decide +kernel), ⟨by decide +kernel, by decide +kernel, by decide +kernel⟩, List.mem_of_getElem? (i := 74) (by decide +kernel), by decide⟩
set_option maxHeartbeats 4000000 in
theorem L_T_mean_35 {X : FX} {u : Un} (hA : Ap u) {Q : State → Prop} (F : Fr X u "TakerBook" b_T_mean 7) {σ : St} {r : Int32} {N : Nat} (hr1 : inR r 6) (hN : N ≤ 40) (k : V X u 2 7 Q 62 [(0, .ref (u.2.1 0)), (1, .int r), (3, .int (nI N)), (4, .long (sumL (σ.1 (2 + ix r)) N)), (6, .int (nI N))] [] (σ)) : ∀ (nn i : Nat), i ≤ N → N - i < nn → V X u 2 7 Q 35 [(0, .ref (u.2.1 0)), (1, .int r), (3, .int (nI N)), (4, .long (sumL (σ.1 (2 + ix r)) i)), (6, .int (nI i))] [] (σ) := by
  intro nn
  induction nn with
  | zero =>
    intro i h1 h2
    exact absurd h2 (Nat.not_lt_zero _)
  | succ nn ih =>
    intro i hii hnn
    refine v_iload F d_T_mean_35 4 rfl ?_
    refine v_iload_n F d_T_mean_37 rfl 2 rfl ?_
    refine v_icmp_ge F 62 d_T_mean_38 rfl (fun h38 => ?_) (fun h38 => ?_)
    · skip
      have h38 : N ≤ i := (nI_leI (a := N) (b := i) (by omega) (by omega)).mp h38
      have he : i = N := by omega
      subst he
      exact k
    · skip
      have h38 : ¬ N ≤ i := fun q => h38 ((nI_leI (a := N) (b := i) (by omega) (by omega)).mpr q)
      refine v_lload F d_T_mean_41 3 rfl ?_
      refine v_aload_n F d_T_mean_43 rfl 0 rfl ?_
      refine v_getr (r := 1) F fk_T_11 G0 rfl d_T_mean_44 ?_
      refine v_iload_n F d_T_mean_47 rfl 1 rfl ?_
      refine v_aal F (ix r) G1 rfl (ix_eq hr1.1) (ix_lt hr1.1 hr1.2 rfl (by decide)) d_T_mean_48 ?_
      refine v_iload F d_T_mean_49 4 rfl ?_
      refine v_ial F i (gam_row _ (ix_lt hr1.1 hr1.2 rfl (by decide))) rfl (by omega) d_T_mean_51 ?_
      refine v_i2l F d_T_mean_52 ?_
      refine v_ladd F d_T_mean_53 ?_
      refine v_nl (fun x1 ex1 => ?_)
      refine v_lstore (ls' := [(4, .long x1), (0, .ref (u.2.1 0)), (1, .int r), (3, .int (nI N)), (6, .int (nI i))]) F d_T_mean_54 (by decide) rfl ?_
      refine v_iinc (v := nI (i + 1)) (ls' := [(6, .int (nI (i + 1))), (4, .long x1), (0, .ref (u.2.1 0)), (1, .int r), (3, .int (nI N))]) F d_T_mean_56 (j := 4) rfl (nI_inc _) (by decide) rfl ?_
      refine v_goto F 35 d_T_mean_59 rfl ?_
      refine v_sub [2, 3, 4, 1, 0] (ls' := [(0, .ref (u.2.1 0)), (1, .int r), (3, .int (nI N)), (4, .long x1), (6, .int (nI (i + 1)))]) rfl ?_
      have g2 : x1 = (sumL (σ.1 (2 + ix r)) (i + 1)) := (by first | rfl | (simp [sumL, *]; done) | (simp_all [sumL]; done) | grind [sumL])
      refine v_to (ls' := [(0, .ref (u.2.1 0)), (1, .int r), (3, .int (nI N)), (4, .long (sumL (σ.1 (2 + ix r)) (i + 1))), (6, .int (nI (i + 1)))]) (by first | rfl | rw [g2] | simp_all) ?_
      exact ih (i + 1) (by omega) (by omega)
set_option maxHeartbeats 4000000 in
theorem c_T_mean (l : Launch) (u : Un) (hA : Ap u) (σ : St) (r : Int32) (hI : rowsOk σ) : MTi l u y_T_mean b_T_mean 7 .int 2 [.ref (u.2.1 0), .int r] σ (fun ans σ' => (ans, σ') = tMean σ r) := by
  refine MT_of hA rfl (by decide) (Nat.le_of_ble_eq_true rfl) (fun X hl F hr => ?_)
  subst hl
  refine v_to (ls' := [(0, .ref (u.2.1 0)), (1, .int r)]) rfl ?_
  refine v_aload_n F d_T_mean_0 rfl 0 rfl ?_
  refine v_iload_n F d_T_mean_1 rfl 1 rfl ?_
  refine v_runi (r_V F (c_T_refusedRow X.2.1 u hA σ r) mo_T_refusedRow st_T_91 rc_0 (by decide) rfl (Nat.le_of_ble_eq_true rfl) d_T_mean_2) (fun r1 σ2 q3 => ?_)
  rcases q3 with ⟨a1, rfl, rfl⟩ | ⟨a1, a2, rfl, eσ2⟩ | ⟨a1, a2, rfl, rfl⟩
  · skip
    refine v_istore_n (ls' := [(2, .int (-1)), (0, .ref (u.2.1 0)), (1, .int r)]) F d_T_mean_5 rfl (by decide) rfl ?_
    refine v_iload_n F d_T_mean_6 rfl 0 rfl ?_
    refine v_if_eq F 12 d_T_mean_7 rfl (fun h => absurd h (by decide)) (fun _ => ?_)
    refine v_iload_n F d_T_mean_10 rfl 0 rfl ?_
    refine v_iret F hr rfl d_T_mean_11 ?_
    first | (simp_all [tMean, inR]; done) | grind [tMean]
  · skip
    refine v_istore_n (ls' := [(2, .int (-3)), (0, .ref (u.2.1 0)), (1, .int r)]) F d_T_mean_5 rfl (by decide) rfl ?_
    refine v_iload_n F d_T_mean_6 rfl 0 rfl ?_
    refine v_if_eq F 12 d_T_mean_7 rfl (fun h => absurd h (by decide)) (fun _ => ?_)
    refine v_iload_n F d_T_mean_10 rfl 0 rfl ?_
    refine v_iret F hr rfl d_T_mean_11 ?_
    first | (simp_all [tMean, inR]; done) | grind [tMean]
  · skip
    refine v_istore_n (ls' := [(2, .int 0), (0, .ref (u.2.1 0)), (1, .int r)]) F d_T_mean_5 rfl (by decide) rfl ?_
    refine v_iload_n F d_T_mean_6 rfl 0 rfl ?_
    refine v_if_eq F 12 d_T_mean_7 rfl (fun _ => ?_) (fun h => absurd (by decide) h)
    obtain ⟨N, hN, xN, eN⟩ := nat_of (M := 40) a2 (hI _ (ix_lt a1.1 a1.2 rfl (by decide))) rfl (by decide)
    refine v_aload_n F d_T_mean_12 rfl 1 rfl ?_
    refine v_getr (r := 8) F fk_T_14 G0 rfl d_T_mean_13 ?_
    refine v_iload_n F d_T_mean_16 rfl 2 rfl ?_
    refine v_ial F (ix r) G8 (ix_eq a1.1) (ix_lt a1.1 a1.2 rfl (by decide)) d_T_mean_17 ?_
    refine v_te (y := nI N) eN ?_
    refine v_istore_n (ls' := [(3, .int (nI N)), (2, .int 0), (0, .ref (u.2.1 0)), (1, .int r)]) F d_T_mean_18 rfl (by decide) rfl ?_
    refine v_iload_n F d_T_mean_19 rfl 0 rfl ?_
    refine v_if_ne F 29 d_T_mean_20 rfl (fun h20 => ?_) (fun h20 => ?_)
    · skip
      refine v_lconst (v := 0) F d_T_mean_29 rfl ?_
      refine v_lstore (ls' := [(4, .long 0), (3, .int (nI N)), (2, .int 0), (0, .ref (u.2.1 0)), (1, .int r)]) F d_T_mean_30 (by decide) rfl ?_
      refine v_iconst (v := 0) F d_T_mean_32 ki_0 ?_
      refine v_istore (ls' := [(6, .int 0), (4, .long 0), (3, .int (nI N)), (2, .int 0), (0, .ref (u.2.1 0)), (1, .int r)]) F d_T_mean_33 (by decide) rfl ?_
      refine v_sub [4, 5, 2, 1, 0] (ls' := [(0, .ref (u.2.1 0)), (1, .int r), (3, .int (nI N)), (4, .long 0), (6, .int 0)]) rfl ?_
      have g4 : 0 = (sumL (σ.1 (2 + ix r)) 0) := (by first | rfl | (simp [sumL, *]; done) | (simp_all [sumL]; done) | grind [sumL])
      have g5 : 0 = (nI 0) := (by first | rfl | (simp [sumL, *]; done) | (simp_all [sumL]; done) | grind [sumL])
      refine v_to (ls' := [(0, .ref (u.2.1 0)), (1, .int r), (3, .int (nI N)), (4, .long (sumL (σ.1 (2 + ix r)) 0)), (6, .int (nI 0))]) (by first | rfl | rw [g4, g5] | simp_all) ?_
      refine L_T_mean_35 hA F a1 (by omega) ?_ _ 0 (Nat.zero_le _) (Nat.lt_succ_self _)
      refine v_aload_n F d_T_mean_62 rfl 0 rfl ?_
      refine v_lload F d_T_mean_63 3 rfl ?_
      refine v_iload_n F d_T_mean_65 rfl 2 rfl ?_
      refine v_i2l F d_T_mean_66 ?_
      refine v_ldiv F d_T_mean_67 (l_ne0 h20) ?_
      refine v_l2i F d_T_mean_68 ?_
      refine v_puti F fk_T_88 pk_T_told G0 rfl d_T_mean_69 ?_
      refine v_ns (fun σ6 eσ6 => ?_)
      refine v_iconst (v := 1) F d_T_mean_72 ki_1 ?_
      refine v_iret F hr rfl d_T_mean_73 ?_
      first | (simp_all [tMean, inR]; done) | grind [tMean]
    · skip
      refine v_aload_n F d_T_mean_23 rfl 2 rfl ?_
      refine v_iconst (v := 4) F d_T_mean_24 ki_4 ?_
      refine v_runi (r_V F (c_T_refuse X.2.1 u hA σ 4 (by decide)) mo_T_refuse st_T_80 rc_0 (by decide) rfl (Nat.le_of_ble_eq_true rfl) d_T_mean_25) (fun r7 σ8 q9 => ?_)
      obtain ⟨rfl, eσ8⟩ := q9
      refine v_iret F hr rfl d_T_mean_28 ?_
      first | (simp_all [tMean, inR]; done) | grind [tMean]
abbrev b_T_row : ByteArray := prog_1_method_2_code
abbrev y_T_row : MethodName := ⟨"TakerBook", "row", "(II)I"⟩
theorem d_T_row_0 : decode b_T_row 0 = .ok (.iload_n 1, 1) := by decide +kernel
theorem d_T_row_1 : decode b_T_row 1 = .ok (.invokestatic 76, 3) := by decide +kernel
theorem d_T_row_4 : decode b_T_row 4 = .ok (.ifCond .eq 9, 3) := by decide +kernel
theorem d_T_row_7 : decode b_T_row 7 = .ok (.iload_n 2, 1) := by decide +kernel
theorem d_T_row_8 : decode b_T_row 8 = .ok (.bipush 40, 2) := by decide +kernel
theorem d_T_row_10 : decode b_T_row 10 = .ok (.if_icmp .le 5, 3) := by decide +kernel
theorem d_T_row_13 : decode b_T_row 13 = .ok (.iconst (-1), 1) := by decide +kernel
theorem d_T_row_14 : decode b_T_row 14 = .ok (.ireturn, 1) := by decide +kernel
theorem d_T_row_15 : decode b_T_row 15 = .ok (.iload_n 2, 1) := by decide +kernel
theorem d_T_row_16 : decode b_T_row 16 = .ok (.ifCond .ge 9, 3) := by decide +kernel
theorem d_T_row_19 : decode b_T_row 19 = .ok (.aload_n 0, 1) := by decide +kernel
theorem d_T_row_20 : decode b_T_row 20 = .ok (.iconst 5, 1) := by decide +kernel
theorem d_T_row_21 : decode b_T_row 21 = .ok (.invokevirtual 80, 3) := by decide +kernel
theorem d_T_row_24 : decode b_T_row 24 = .ok (.ireturn, 1) := by decide +kernel
theorem d_T_row_25 : decode b_T_row 25 = .ok (.aload_n 0, 1) := by decide +kernel
theorem d_T_row_26 : decode b_T_row 26 = .ok (.getfield 14, 3) := by decide +kernel
theorem d_T_row_29 : decode b_T_row 29 = .ok (.iload_n 1, 1) := by decide +kernel
theorem d_T_row_30 : decode b_T_row 30 = .ok (.iload_n 2, 1) := by decide +kernel
theorem d_T_row_31 : decode b_T_row 31 = .ok (.iastore, 1) := by decide +kernel
theorem d_T_row_32 : decode b_T_row 32 = .ok (.iconst 0, 1) := by decide +kernel
theorem d_T_row_33 : decode b_T_row 33 = .ok (.istore_n 3, 1) := by decide +kernel
theorem d_T_row_34 : decode b_T_row 34 = .ok (.iload_n 3, 1) := by decide +kernel
theorem d_T_row_35 : decode b_T_row 35 = .ok (.iload_n 2, 1) := by decide +kernel
theorem d_T_row_36 : decode b_T_row 36 = .ok (.if_icmp .ge 18, 3) := by decide +kernel
theorem d_T_row_39 : decode b_T_row 39 = .ok (.aload_n 0, 1) := by decide +kernel
theorem d_T_row_40 : decode b_T_row 40 = .ok (.getfield 11, 3) := by decide +kernel
theorem d_T_row_43 : decode b_T_row 43 = .ok (.iload_n 1, 1) := by decide +kernel
theorem d_T_row_44 : decode b_T_row 44 = .ok (.aaload, 1) := by decide +kernel
theorem d_T_row_45 : decode b_T_row 45 = .ok (.iload_n 3, 1) := by decide +kernel
theorem d_T_row_46 : decode b_T_row 46 = .ok (.iconst 0, 1) := by decide +kernel
theorem d_T_row_47 : decode b_T_row 47 = .ok (.iastore, 1) := by decide +kernel
theorem d_T_row_48 : decode b_T_row 48 = .ok (.iinc 3 1, 3) := by decide +kernel
theorem d_T_row_51 : decode b_T_row 51 = .ok (.goto (-17), 3) := by decide +kernel
theorem d_T_row_54 : decode b_T_row 54 = .ok (.iload_n 2, 1) := by decide +kernel
theorem d_T_row_55 : decode b_T_row 55 = .ok (.ireturn, 1) := by decide +kernel
theorem mo_T_row : mok y_T_row b_T_row 4 (some .int) 2 := ⟨List.mem_of_getElem? (i := 404) (by decide +kernel), ⟨by decide +kernel, by decide +kernel, by decide +kernel⟩, List.mem_of_getElem? (i := 74) (by decide +kernel), by decide⟩
set_option maxHeartbeats 4000000 in
theorem L_T_row_34 {X : FX} {u : Un} (hA : Ap u) {Q : State → Prop} (F : Fr X u "TakerBook" b_T_row 4) {σ : St} {r : Int32} {N : Nat} (hr1 : inR r 6) (hN : N ≤ 40) (k : V X u 1 4 Q 54 [(0, .ref (u.2.1 0)), (1, .int r), (2, .int (nI N)), (3, .int (nI N))] [] ((fl (uI σ 8 (ix r) (nI N)) (2 + ix r) 0 0 N))) : ∀ (nn i : Nat), i ≤ N → N - i < nn → V X u 1 4 Q 34 [(0, .ref (u.2.1 0)), (1, .int r), (2, .int (nI N)), (3, .int (nI i))] [] ((fl (uI σ 8 (ix r) (nI N)) (2 + ix r) 0 0 i)) := by
  intro nn
  induction nn with
  | zero =>
    intro i h1 h2
    exact absurd h2 (Nat.not_lt_zero _)
  | succ nn ih =>
    intro i hii hnn
    refine v_iload_n F d_T_row_34 rfl 3 rfl ?_
    refine v_iload_n F d_T_row_35 rfl 2 rfl ?_
    refine v_icmp_ge F 54 d_T_row_36 rfl (fun h36 => ?_) (fun h36 => ?_)
    · skip
      have h36 : N ≤ i := (nI_leI (a := N) (b := i) (by omega) (by omega)).mp h36
      have he : i = N := by omega
      subst he
      exact k
    · skip
      have h36 : ¬ N ≤ i := fun q => h36 ((nI_leI (a := N) (b := i) (by omega) (by omega)).mpr q)
      refine v_aload_n F d_T_row_39 rfl 0 rfl ?_
      refine v_getr (r := 1) F fk_T_11 G0 rfl d_T_row_40 ?_
      refine v_iload_n F d_T_row_43 rfl 1 rfl ?_
      refine v_aal F (ix r) G1 rfl (ix_eq hr1.1) (ix_lt hr1.1 hr1.2 rfl (by decide)) d_T_row_44 ?_
      refine v_iload_n F d_T_row_45 rfl 3 rfl ?_
      refine v_iconst (v := 0) F d_T_row_46 ki_0 ?_
      refine v_ias F i (gam_row _ (ix_lt hr1.1 hr1.2 rfl (by decide))) rfl (by omega) d_T_row_47 ?_
      refine v_ns (fun σ1 eσ1 => ?_)
      refine v_iinc (v := nI (i + 1)) (ls' := [(3, .int (nI (i + 1))), (0, .ref (u.2.1 0)), (1, .int r), (2, .int (nI N))]) F d_T_row_48 (j := 3) rfl (nI_inc _) (by decide) rfl ?_
      refine v_goto F 34 d_T_row_51 rfl ?_
      refine v_sub [1, 2, 3, 0] (ls' := [(0, .ref (u.2.1 0)), (1, .int r), (2, .int (nI N)), (3, .int (nI (i + 1)))]) rfl ?_
      refine v_st (show σ1 = (fl (uI σ 8 (ix r) (nI N)) (2 + ix r) 0 0 (i + 1)) from (by first | rfl | (simp [fl, vp_nar32, *]; done) | (simp_all [fl, vp_nar32]; done) | grind [fl, vp_nar32])) ?_
      exact ih (i + 1) (by omega) (by omega)
set_option maxHeartbeats 4000000 in
theorem c_T_row (l : Launch) (u : Un) (hA : Ap u) (σ : St) (r n : Int32) : MTi l u y_T_row b_T_row 4 .int 1 [.ref (u.2.1 0), .int r, .int n] σ (fun ans σ' => (ans, σ') = tRow σ r n) := by
  refine MT_of hA rfl (by decide) (Nat.le_of_ble_eq_true rfl) (fun X hl F hr => ?_)
  subst hl
  refine v_to (ls' := [(0, .ref (u.2.1 0)), (1, .int r), (2, .int n)]) rfl ?_
  refine v_iload_n F d_T_row_0 rfl 1 rfl ?_
  refine v_runi (r_S F (c_T_isRow X.2.1 u hA σ r ) mo_T_isRow st_T_76 (by decide) rfl (Nat.le_of_ble_eq_true rfl) d_T_row_1) (fun r1 σ2 q3 => ?_)
  obtain ⟨rfl, rfl⟩ := q3
  refine v_bt F 13 d_T_row_4 rfl (fun h4 => ?_) (fun h4 => ?_)
  · skip
    refine v_iconst (v := (-1)) F d_T_row_13 ki_m1 ?_
    refine v_iret F hr rfl d_T_row_14 ?_
    first | (simp_all [tRow, inR]; done) | grind [tRow]
  · skip
    refine v_iload_n F d_T_row_7 rfl 2 rfl ?_
    refine v_bipush (v := 40) F d_T_row_8 kb_40 ?_
    refine v_icmp_le F 15 d_T_row_10 rfl (fun h10 => ?_) (fun h10 => ?_)
    · skip
      refine v_iload_n F d_T_row_15 rfl 2 rfl ?_
      refine v_if_ge F 25 d_T_row_16 rfl (fun h16 => ?_) (fun h16 => ?_)
      · skip
        obtain ⟨N, hN, xN, rfl⟩ := nat_of (M := 40) h16 h10 rfl (by decide)
        have hr1 := h4
        refine v_aload_n F d_T_row_25 rfl 0 rfl ?_
        refine v_getr (r := 8) F fk_T_14 G0 rfl d_T_row_26 ?_
        refine v_iload_n F d_T_row_29 rfl 1 rfl ?_
        refine v_iload_n F d_T_row_30 rfl 2 rfl ?_
        refine v_ias F (ix r) G8 (ix_eq h4.1) (ix_lt h4.1 h4.2 rfl (by decide)) d_T_row_31 ?_
        refine v_ns (fun σ4 eσ4 => ?_)
        refine v_iconst (v := 0) F d_T_row_32 ki_0 ?_
        refine v_istore_n (ls' := [(3, .int 0), (0, .ref (u.2.1 0)), (1, .int r), (2, .int (nI N))]) F d_T_row_33 rfl (by decide) rfl ?_
        refine v_sub [1, 2, 3, 0] (ls' := [(0, .ref (u.2.1 0)), (1, .int r), (2, .int (nI N)), (3, .int 0)]) rfl ?_
        have g5 : 0 = (nI 0) := (by first | rfl | (simp [fl, vp_nar32, *]; done) | (simp_all [fl, vp_nar32]; done) | grind [fl, vp_nar32])
        refine v_to (ls' := [(0, .ref (u.2.1 0)), (1, .int r), (2, .int (nI N)), (3, .int (nI 0))]) (by first | rfl | rw [g5] | simp_all) ?_
        refine v_st (show σ4 = (fl (uI σ 8 (ix r) (nI N)) (2 + ix r) 0 0 0) from (by first | rfl | (simp [fl, vp_nar32, *]; done) | (simp_all [fl, vp_nar32]; done) | grind [fl, vp_nar32])) ?_
        refine L_T_row_34 hA F hr1 (by omega) ?_ _ 0 (Nat.zero_le _) (Nat.lt_succ_self _)
        refine v_iload_n F d_T_row_54 rfl 2 rfl ?_
        refine v_iret F hr rfl d_T_row_55 ?_
        first | (simp_all [tRow, inR]; done) | grind [tRow]
      · skip
        refine v_aload_n F d_T_row_19 rfl 0 rfl ?_
        refine v_iconst (v := 5) F d_T_row_20 ki_5 ?_
        refine v_runi (r_V F (c_T_refuse X.2.1 u hA σ 5 (by decide)) mo_T_refuse st_T_80 rc_0 (by decide) rfl (Nat.le_of_ble_eq_true rfl) d_T_row_21) (fun r6 σ7 q8 => ?_)
        obtain ⟨rfl, eσ7⟩ := q8
        refine v_iret F hr rfl d_T_row_24 ?_
        first | (simp_all [tRow, inR]; done) | grind [tRow]
    · skip
      refine v_iconst (v := (-1)) F d_T_row_13 ki_m1 ?_
      refine v_iret F hr rfl d_T_row_14 ?_
      first | (simp_all [tRow, inR]; done) | grind [tRow]
abbrev b_T_text : ByteArray := prog_1_method_8_code
abbrev y_T_text : MethodName := ⟨"TakerBook", "text", "(II)I"⟩
theorem d_T_text_0 : decode b_T_text 0 = .ok (.iload_n 1, 1) := by decide +kernel
theorem d_T_text_1 : decode b_T_text 1 = .ok (.invokestatic 104, 3) := by decide +kernel
theorem d_T_text_4 : decode b_T_text 4 = .ok (.ifCond .eq 9, 3) := by decide +kernel
theorem d_T_text_7 : decode b_T_text 7 = .ok (.iload_n 2, 1) := by decide +kernel
theorem d_T_text_8 : decode b_T_text 8 = .ok (.bipush 60, 2) := by decide +kernel
theorem d_T_text_10 : decode b_T_text 10 = .ok (.if_icmp .le 5, 3) := by decide +kernel
theorem d_T_text_13 : decode b_T_text 13 = .ok (.iconst (-1), 1) := by decide +kernel
theorem d_T_text_14 : decode b_T_text 14 = .ok (.ireturn, 1) := by decide +kernel
theorem d_T_text_15 : decode b_T_text 15 = .ok (.iload_n 2, 1) := by decide +kernel
theorem d_T_text_16 : decode b_T_text 16 = .ok (.ifCond .ge 9, 3) := by decide +kernel
theorem d_T_text_19 : decode b_T_text 19 = .ok (.aload_n 0, 1) := by decide +kernel
theorem d_T_text_20 : decode b_T_text 20 = .ok (.iconst 5, 1) := by decide +kernel
theorem d_T_text_21 : decode b_T_text 21 = .ok (.invokevirtual 80, 3) := by decide +kernel
theorem d_T_text_24 : decode b_T_text 24 = .ok (.ireturn, 1) := by decide +kernel
theorem d_T_text_25 : decode b_T_text 25 = .ok (.aload_n 0, 1) := by decide +kernel
theorem d_T_text_26 : decode b_T_text 26 = .ok (.getfield 23, 3) := by decide +kernel
theorem d_T_text_29 : decode b_T_text 29 = .ok (.iload_n 1, 1) := by decide +kernel
theorem d_T_text_30 : decode b_T_text 30 = .ok (.iload_n 2, 1) := by decide +kernel
theorem d_T_text_31 : decode b_T_text 31 = .ok (.iastore, 1) := by decide +kernel
theorem d_T_text_32 : decode b_T_text 32 = .ok (.iconst 0, 1) := by decide +kernel
theorem d_T_text_33 : decode b_T_text 33 = .ok (.istore_n 3, 1) := by decide +kernel
theorem d_T_text_34 : decode b_T_text 34 = .ok (.iload_n 3, 1) := by decide +kernel
theorem d_T_text_35 : decode b_T_text 35 = .ok (.iload_n 2, 1) := by decide +kernel
theorem d_T_text_36 : decode b_T_text 36 = .ok (.if_icmp .ge 19, 3) := by decide +kernel
theorem d_T_text_39 : decode b_T_text 39 = .ok (.aload_n 0, 1) := by decide +kernel
theorem d_T_text_40 : decode b_T_text 40 = .ok (.getfield 20, 3) := by decide +kernel
theorem d_T_text_43 : decode b_T_text 43 = .ok (.iload_n 1, 1) := by decide +kernel
theorem d_T_text_44 : decode b_T_text 44 = .ok (.aaload, 1) := by decide +kernel
theorem d_T_text_45 : decode b_T_text 45 = .ok (.iload_n 3, 1) := by decide +kernel
theorem d_T_text_46 : decode b_T_text 46 = .ok (.bipush 32, 2) := by decide +kernel
theorem d_T_text_48 : decode b_T_text 48 = .ok (.bastore, 1) := by decide +kernel
theorem d_T_text_49 : decode b_T_text 49 = .ok (.iinc 3 1, 3) := by decide +kernel
theorem d_T_text_52 : decode b_T_text 52 = .ok (.goto (-18), 3) := by decide +kernel
theorem d_T_text_55 : decode b_T_text 55 = .ok (.iload_n 2, 1) := by decide +kernel
theorem d_T_text_56 : decode b_T_text 56 = .ok (.ireturn, 1) := by decide +kernel
theorem mo_T_text : mok y_T_text b_T_text 4 (some .int) 2 := ⟨List.mem_of_getElem? (i := 449) (by decide +kernel), ⟨by decide +kernel, by decide +kernel, by decide +kernel⟩, List.mem_of_getElem? (i := 74) (by decide +kernel), by decide⟩
set_option maxHeartbeats 4000000 in
theorem L_T_text_34 {X : FX} {u : Un} (hA : Ap u) {Q : State → Prop} (F : Fr X u "TakerBook" b_T_text 4) {σ : St} {r : Int32} {N : Nat} (hr1 : inR r 4) (hN : N ≤ 60) (k : V X u 1 4 Q 55 [(0, .ref (u.2.1 0)), (1, .int r), (2, .int (nI N)), (3, .int (nI N))] [] ((fl (uI σ 14 (ix r) (nI N)) (10 + ix r) 0 32 N))) : ∀ (nn i : Nat), i ≤ N → N - i < nn → V X u 1 4 Q 34 [(0, .ref (u.2.1 0)), (1, .int r), (2, .int (nI N)), (3, .int (nI i))] [] ((fl (uI σ 14 (ix r) (nI N)) (10 + ix r) 0 32 i)) := by
  intro nn
  induction nn with
  | zero =>
    intro i h1 h2
    exact absurd h2 (Nat.not_lt_zero _)
  | succ nn ih =>
    intro i hii hnn
    refine v_iload_n F d_T_text_34 rfl 3 rfl ?_
    refine v_iload_n F d_T_text_35 rfl 2 rfl ?_
    refine v_icmp_ge F 55 d_T_text_36 rfl (fun h36 => ?_) (fun h36 => ?_)
    · skip
      have h36 : N ≤ i := (nI_leI (a := N) (b := i) (by omega) (by omega)).mp h36
      have he : i = N := by omega
      subst he
      exact k
    · skip
      have h36 : ¬ N ≤ i := fun q => h36 ((nI_leI (a := N) (b := i) (by omega) (by omega)).mpr q)
      refine v_aload_n F d_T_text_39 rfl 0 rfl ?_
      refine v_getr (r := 9) F fk_T_20 G0 rfl d_T_text_40 ?_
      refine v_iload_n F d_T_text_43 rfl 1 rfl ?_
      refine v_aal F (ix r) G9 rfl (ix_eq hr1.1) (ix_lt hr1.1 hr1.2 rfl (by decide)) d_T_text_44 ?_
      refine v_iload_n F d_T_text_45 rfl 3 rfl ?_
      refine v_bipush (v := 32) F d_T_text_46 kb_32 ?_
      refine v_bas F i (gam_text _ (ix_lt hr1.1 hr1.2 rfl (by decide))) rfl (by omega) d_T_text_48 ?_
      refine v_ns (fun σ1 eσ1 => ?_)
      refine v_iinc (v := nI (i + 1)) (ls' := [(3, .int (nI (i + 1))), (0, .ref (u.2.1 0)), (1, .int r), (2, .int (nI N))]) F d_T_text_49 (j := 3) rfl (nI_inc _) (by decide) rfl ?_
      refine v_goto F 34 d_T_text_52 rfl ?_
      refine v_sub [1, 2, 3, 0] (ls' := [(0, .ref (u.2.1 0)), (1, .int r), (2, .int (nI N)), (3, .int (nI (i + 1)))]) rfl ?_
      refine v_st (show σ1 = (fl (uI σ 14 (ix r) (nI N)) (10 + ix r) 0 32 (i + 1)) from (by first | rfl | (simp [fl, vp_nar32, *]; done) | (simp_all [fl, vp_nar32]; done) | grind [fl, vp_nar32])) ?_
      exact ih (i + 1) (by omega) (by omega)
set_option maxHeartbeats 4000000 in
theorem c_T_text (l : Launch) (u : Un) (hA : Ap u) (σ : St) (r n : Int32) : MTi l u y_T_text b_T_text 4 .int 1 [.ref (u.2.1 0), .int r, .int n] σ (fun ans σ' => (ans, σ') = tText σ r n) := by
  refine MT_of hA rfl (by decide) (Nat.le_of_ble_eq_true rfl) (fun X hl F hr => ?_)
  subst hl
  refine v_to (ls' := [(0, .ref (u.2.1 0)), (1, .int r), (2, .int n)]) rfl ?_
  refine v_iload_n F d_T_text_0 rfl 1 rfl ?_
  refine v_runi (r_S F (c_T_isText X.2.1 u hA σ r ) mo_T_isText st_T_104 (by decide) rfl (Nat.le_of_ble_eq_true rfl) d_T_text_1) (fun r1 σ2 q3 => ?_)
  obtain ⟨rfl, rfl⟩ := q3
  refine v_bt F 13 d_T_text_4 rfl (fun h4 => ?_) (fun h4 => ?_)
  · skip
    refine v_iconst (v := (-1)) F d_T_text_13 ki_m1 ?_
    refine v_iret F hr rfl d_T_text_14 ?_
    first | (simp_all [tText, inR]; done) | grind [tText]
  · skip
    refine v_iload_n F d_T_text_7 rfl 2 rfl ?_
    refine v_bipush (v := 60) F d_T_text_8 kb_60 ?_
    refine v_icmp_le F 15 d_T_text_10 rfl (fun h10 => ?_) (fun h10 => ?_)
    · skip
      refine v_iload_n F d_T_text_15 rfl 2 rfl ?_
      refine v_if_ge F 25 d_T_text_16 rfl (fun h16 => ?_) (fun h16 => ?_)
      · skip
        obtain ⟨N, hN, xN, rfl⟩ := nat_of (M := 60) h16 h10 rfl (by decide)
        have hr1 := h4
        refine v_aload_n F d_T_text_25 rfl 0 rfl ?_
        refine v_getr (r := 14) F fk_T_23 G0 rfl d_T_text_26 ?_
        refine v_iload_n F d_T_text_29 rfl 1 rfl ?_
        refine v_iload_n F d_T_text_30 rfl 2 rfl ?_
        refine v_ias F (ix r) G14 (ix_eq h4.1) (ix_lt h4.1 h4.2 rfl (by decide)) d_T_text_31 ?_
        refine v_ns (fun σ4 eσ4 => ?_)
        refine v_iconst (v := 0) F d_T_text_32 ki_0 ?_
        refine v_istore_n (ls' := [(3, .int 0), (0, .ref (u.2.1 0)), (1, .int r), (2, .int (nI N))]) F d_T_text_33 rfl (by decide) rfl ?_
        refine v_sub [1, 2, 3, 0] (ls' := [(0, .ref (u.2.1 0)), (1, .int r), (2, .int (nI N)), (3, .int 0)]) rfl ?_
        have g5 : 0 = (nI 0) := (by first | rfl | (simp [fl, vp_nar32, *]; done) | (simp_all [fl, vp_nar32]; done) | grind [fl, vp_nar32])
        refine v_to (ls' := [(0, .ref (u.2.1 0)), (1, .int r), (2, .int (nI N)), (3, .int (nI 0))]) (by first | rfl | rw [g5] | simp_all) ?_
        refine v_st (show σ4 = (fl (uI σ 14 (ix r) (nI N)) (10 + ix r) 0 32 0) from (by first | rfl | (simp [fl, vp_nar32, *]; done) | (simp_all [fl, vp_nar32]; done) | grind [fl, vp_nar32])) ?_
        refine L_T_text_34 hA F hr1 (by omega) ?_ _ 0 (Nat.zero_le _) (Nat.lt_succ_self _)
        refine v_iload_n F d_T_text_55 rfl 2 rfl ?_
        refine v_iret F hr rfl d_T_text_56 ?_
        first | (simp_all [tText, inR]; done) | grind [tText]
      · skip
        refine v_aload_n F d_T_text_19 rfl 0 rfl ?_
        refine v_iconst (v := 5) F d_T_text_20 ki_5 ?_
        refine v_runi (r_V F (c_T_refuse X.2.1 u hA σ 5 (by decide)) mo_T_refuse st_T_80 rc_0 (by decide) rfl (Nat.le_of_ble_eq_true rfl) d_T_text_21) (fun r6 σ7 q8 => ?_)
        obtain ⟨rfl, eσ7⟩ := q8
        refine v_iret F hr rfl d_T_text_24 ?_
        first | (simp_all [tText, inR]; done) | grind [tText]
    · skip
      refine v_iconst (v := (-1)) F d_T_text_13 ki_m1 ?_
      refine v_iret F hr rfl d_T_text_14 ?_
      first | (simp_all [tText, inR]; done) | grind [tText]
abbrev b_T_copy : ByteArray := prog_1_method_6_code
abbrev y_T_copy : MethodName := ⟨"TakerBook", "copy", "(IIIII)I"⟩
theorem d_T_copy_0 : decode b_T_copy 0 = .ok (.iload_n 1, 1) := by decide +kernel
theorem d_T_copy_1 : decode b_T_copy 1 = .ok (.invokestatic 76, 3) := by decide +kernel
theorem d_T_copy_4 : decode b_T_copy 4 = .ok (.ifCond .eq 10, 3) := by decide +kernel
theorem d_T_copy_7 : decode b_T_copy 7 = .ok (.iload_n 3, 1) := by decide +kernel
theorem d_T_copy_8 : decode b_T_copy 8 = .ok (.invokestatic 76, 3) := by decide +kernel
theorem d_T_copy_11 : decode b_T_copy 11 = .ok (.ifCond .ne 5, 3) := by decide +kernel
theorem d_T_copy_14 : decode b_T_copy 14 = .ok (.iconst (-1), 1) := by decide +kernel
theorem d_T_copy_15 : decode b_T_copy 15 = .ok (.ireturn, 1) := by decide +kernel
theorem d_T_copy_16 : decode b_T_copy 16 = .ok (.iload 5, 2) := by decide +kernel
theorem d_T_copy_18 : decode b_T_copy 18 = .ok (.ifCond .ge 9, 3) := by decide +kernel
theorem d_T_copy_21 : decode b_T_copy 21 = .ok (.aload_n 0, 1) := by decide +kernel
theorem d_T_copy_22 : decode b_T_copy 22 = .ok (.iconst 5, 1) := by decide +kernel
theorem d_T_copy_23 : decode b_T_copy 23 = .ok (.invokevirtual 80, 3) := by decide +kernel
theorem d_T_copy_26 : decode b_T_copy 26 = .ok (.ireturn, 1) := by decide +kernel
theorem d_T_copy_27 : decode b_T_copy 27 = .ok (.aload_n 0, 1) := by decide +kernel
theorem d_T_copy_28 : decode b_T_copy 28 = .ok (.getfield 14, 3) := by decide +kernel
theorem d_T_copy_31 : decode b_T_copy 31 = .ok (.iload_n 1, 1) := by decide +kernel
theorem d_T_copy_32 : decode b_T_copy 32 = .ok (.iaload, 1) := by decide +kernel
theorem d_T_copy_33 : decode b_T_copy 33 = .ok (.ifCond .lt 12, 3) := by decide +kernel
theorem d_T_copy_36 : decode b_T_copy 36 = .ok (.aload_n 0, 1) := by decide +kernel
theorem d_T_copy_37 : decode b_T_copy 37 = .ok (.getfield 14, 3) := by decide +kernel
theorem d_T_copy_40 : decode b_T_copy 40 = .ok (.iload_n 3, 1) := by decide +kernel
theorem d_T_copy_41 : decode b_T_copy 41 = .ok (.iaload, 1) := by decide +kernel
theorem d_T_copy_42 : decode b_T_copy 42 = .ok (.ifCond .ge 9, 3) := by decide +kernel
theorem d_T_copy_45 : decode b_T_copy 45 = .ok (.aload_n 0, 1) := by decide +kernel
theorem d_T_copy_46 : decode b_T_copy 46 = .ok (.iconst 1, 1) := by decide +kernel
theorem d_T_copy_47 : decode b_T_copy 47 = .ok (.invokevirtual 80, 3) := by decide +kernel
theorem d_T_copy_50 : decode b_T_copy 50 = .ok (.ireturn, 1) := by decide +kernel
theorem d_T_copy_51 : decode b_T_copy 51 = .ok (.aload_n 0, 1) := by decide +kernel
theorem d_T_copy_52 : decode b_T_copy 52 = .ok (.getfield 14, 3) := by decide +kernel
theorem d_T_copy_55 : decode b_T_copy 55 = .ok (.iload_n 1, 1) := by decide +kernel
theorem d_T_copy_56 : decode b_T_copy 56 = .ok (.iaload, 1) := by decide +kernel
theorem d_T_copy_57 : decode b_T_copy 57 = .ok (.iload_n 2, 1) := by decide +kernel
theorem d_T_copy_58 : decode b_T_copy 58 = .ok (.iload 5, 2) := by decide +kernel
theorem d_T_copy_60 : decode b_T_copy 60 = .ok (.invokestatic 94, 3) := by decide +kernel
theorem d_T_copy_63 : decode b_T_copy 63 = .ok (.ifCond .eq 19, 3) := by decide +kernel
theorem d_T_copy_66 : decode b_T_copy 66 = .ok (.aload_n 0, 1) := by decide +kernel
theorem d_T_copy_67 : decode b_T_copy 67 = .ok (.getfield 14, 3) := by decide +kernel
theorem d_T_copy_70 : decode b_T_copy 70 = .ok (.iload_n 3, 1) := by decide +kernel
theorem d_T_copy_71 : decode b_T_copy 71 = .ok (.iaload, 1) := by decide +kernel
theorem d_T_copy_72 : decode b_T_copy 72 = .ok (.iload 4, 2) := by decide +kernel
theorem d_T_copy_74 : decode b_T_copy 74 = .ok (.iload 5, 2) := by decide +kernel
theorem d_T_copy_76 : decode b_T_copy 76 = .ok (.invokestatic 94, 3) := by decide +kernel
theorem d_T_copy_79 : decode b_T_copy 79 = .ok (.ifCond .ne 9, 3) := by decide +kernel
theorem d_T_copy_82 : decode b_T_copy 82 = .ok (.aload_n 0, 1) := by decide +kernel
theorem d_T_copy_83 : decode b_T_copy 83 = .ok (.iconst 2, 1) := by decide +kernel
theorem d_T_copy_84 : decode b_T_copy 84 = .ok (.invokevirtual 80, 3) := by decide +kernel
theorem d_T_copy_87 : decode b_T_copy 87 = .ok (.ireturn, 1) := by decide +kernel
theorem d_T_copy_88 : decode b_T_copy 88 = .ok (.aload_n 0, 1) := by decide +kernel
theorem d_T_copy_89 : decode b_T_copy 89 = .ok (.getfield 11, 3) := by decide +kernel
theorem d_T_copy_92 : decode b_T_copy 92 = .ok (.iload_n 1, 1) := by decide +kernel
theorem d_T_copy_93 : decode b_T_copy 93 = .ok (.aaload, 1) := by decide +kernel
theorem d_T_copy_94 : decode b_T_copy 94 = .ok (.iload_n 2, 1) := by decide +kernel
theorem d_T_copy_95 : decode b_T_copy 95 = .ok (.aload_n 0, 1) := by decide +kernel
theorem d_T_copy_96 : decode b_T_copy 96 = .ok (.getfield 11, 3) := by decide +kernel
theorem d_T_copy_99 : decode b_T_copy 99 = .ok (.iload_n 3, 1) := by decide +kernel
theorem d_T_copy_100 : decode b_T_copy 100 = .ok (.aaload, 1) := by decide +kernel
theorem d_T_copy_101 : decode b_T_copy 101 = .ok (.iload 4, 2) := by decide +kernel
theorem d_T_copy_103 : decode b_T_copy 103 = .ok (.iload 5, 2) := by decide +kernel
theorem d_T_copy_105 : decode b_T_copy 105 = .ok (.invokestatic 98, 3) := by decide +kernel
theorem d_T_copy_108 : decode b_T_copy 108 = .ok (.iconst 1, 1) := by decide +kernel
theorem d_T_copy_109 : decode b_T_copy 109 = .ok (.ireturn, 1) := by decide +kernel
theorem mo_T_copy : mok y_T_copy b_T_copy 6 (some .int) 5 := ⟨List.mem_of_getElem? (i := 435) (by decide +kernel), ⟨by decide +kernel, by decide +kernel, by decide +kernel⟩, List.mem_of_getElem? (i := 74) (by decide +kernel), by decide⟩
set_option maxHeartbeats 4000000 in
theorem c_T_copy (l : Launch) (u : Un) (hA : Ap u) (σ : St) (r i to j n : Int32) (hI : rowsOk σ) : MTi l u y_T_copy b_T_copy 6 .int 2 [.ref (u.2.1 0), .int r, .int i, .int to, .int j, .int n] σ (fun ans σ' => (ans, σ') = tCopy σ r i to j n) := by
  refine MT_of hA rfl (by decide) (Nat.le_of_ble_eq_true rfl) (fun X hl F hr => ?_)
  subst hl
  refine v_to (ls' := [(0, .ref (u.2.1 0)), (1, .int r), (2, .int i), (3, .int to), (4, .int j), (5, .int n)]) rfl ?_
  refine v_iload_n F d_T_copy_0 rfl 1 rfl ?_
  refine v_runi (r_S F (c_T_isRow X.2.1 u hA σ r ) mo_T_isRow st_T_76 (by decide) rfl (Nat.le_of_ble_eq_true rfl) d_T_copy_1) (fun r1 σ2 q3 => ?_)
  obtain ⟨rfl, rfl⟩ := q3
  refine v_bt F 14 d_T_copy_4 rfl (fun h4 => ?_) (fun h4 => ?_)
  · skip
    refine v_iconst (v := (-1)) F d_T_copy_14 ki_m1 ?_
    refine v_iret F hr rfl d_T_copy_15 ?_
    first | (simp_all [tCopy, inR]; done) | grind [tCopy]
  · skip
    refine v_iload_n F d_T_copy_7 rfl 3 rfl ?_
    refine v_runi (r_S F (c_T_isRow X.2.1 u hA σ to ) mo_T_isRow st_T_76 (by decide) rfl (Nat.le_of_ble_eq_true rfl) d_T_copy_8) (fun r4 σ5 q6 => ?_)
    obtain ⟨rfl, rfl⟩ := q6
    refine v_bf F 16 d_T_copy_11 rfl (fun h11 => ?_) (fun h11 => ?_)
    · skip
      refine v_iload F d_T_copy_16 5 rfl ?_
      refine v_if_ge F 27 d_T_copy_18 rfl (fun h18 => ?_) (fun h18 => ?_)
      · skip
        refine v_aload_n F d_T_copy_27 rfl 0 rfl ?_
        refine v_getr (r := 8) F fk_T_14 G0 rfl d_T_copy_28 ?_
        refine v_iload_n F d_T_copy_31 rfl 1 rfl ?_
        refine v_ial F (ix r) G8 (ix_eq h4.1) (ix_lt h4.1 h4.2 rfl (by decide)) d_T_copy_32 ?_
        refine v_if_lt F 45 d_T_copy_33 rfl (fun h33 => ?_) (fun h33 => ?_)
        · skip
          refine v_aload_n F d_T_copy_45 rfl 0 rfl ?_
          refine v_iconst (v := 1) F d_T_copy_46 ki_1 ?_
          refine v_runi (r_V F (c_T_refuse X.2.1 u hA σ 1 (by decide)) mo_T_refuse st_T_80 rc_0 (by decide) rfl (Nat.le_of_ble_eq_true rfl) d_T_copy_47) (fun r7 σ8 q9 => ?_)
          obtain ⟨rfl, eσ8⟩ := q9
          refine v_iret F hr rfl d_T_copy_50 ?_
          first | (simp_all [tCopy, inR]; done) | grind [tCopy]
        · skip
          refine v_aload_n F d_T_copy_36 rfl 0 rfl ?_
          refine v_getr (r := 8) F fk_T_14 G0 rfl d_T_copy_37 ?_
          refine v_iload_n F d_T_copy_40 rfl 3 rfl ?_
          refine v_ial F (ix to) G8 (ix_eq h11.1) (ix_lt h11.1 h11.2 rfl (by decide)) d_T_copy_41 ?_
          refine v_if_ge F 51 d_T_copy_42 rfl (fun h42 => ?_) (fun h42 => ?_)
          · skip
            refine v_aload_n F d_T_copy_51 rfl 0 rfl ?_
            refine v_getr (r := 8) F fk_T_14 G0 rfl d_T_copy_52 ?_
            refine v_iload_n F d_T_copy_55 rfl 1 rfl ?_
            refine v_ial F (ix r) G8 (ix_eq h4.1) (ix_lt h4.1 h4.2 rfl (by decide)) d_T_copy_56 ?_
            refine v_iload_n F d_T_copy_57 rfl 2 rfl ?_
            refine v_iload F d_T_copy_58 5 rfl ?_
            refine v_runi (r_S F (c_T_holds X.2.1 u hA σ (σ.1 8 (ix r)) i n ) mo_T_holds st_T_94 (by decide) rfl (Nat.le_of_ble_eq_true rfl) d_T_copy_60) (fun r10 σ11 q12 => ?_)
            obtain ⟨rfl, rfl⟩ := q12
            refine v_bt F 82 d_T_copy_63 rfl (fun h63 => ?_) (fun h63 => ?_)
            · skip
              refine v_aload_n F d_T_copy_82 rfl 0 rfl ?_
              refine v_iconst (v := 2) F d_T_copy_83 ki_2 ?_
              refine v_runi (r_V F (c_T_refuse X.2.1 u hA σ 2 (by decide)) mo_T_refuse st_T_80 rc_0 (by decide) rfl (Nat.le_of_ble_eq_true rfl) d_T_copy_84) (fun r13 σ14 q15 => ?_)
              obtain ⟨rfl, eσ14⟩ := q15
              refine v_iret F hr rfl d_T_copy_87 ?_
              first | (simp_all [tCopy, inR]; done) | grind [tCopy]
            · skip
              refine v_aload_n F d_T_copy_66 rfl 0 rfl ?_
              refine v_getr (r := 8) F fk_T_14 G0 rfl d_T_copy_67 ?_
              refine v_iload_n F d_T_copy_70 rfl 3 rfl ?_
              refine v_ial F (ix to) G8 (ix_eq h11.1) (ix_lt h11.1 h11.2 rfl (by decide)) d_T_copy_71 ?_
              refine v_iload F d_T_copy_72 4 rfl ?_
              refine v_iload F d_T_copy_74 5 rfl ?_
              refine v_runi (r_S F (c_T_holds X.2.1 u hA σ (σ.1 8 (ix to)) j n ) mo_T_holds st_T_94 (by decide) rfl (Nat.le_of_ble_eq_true rfl) d_T_copy_76) (fun r16 σ17 q18 => ?_)
              obtain ⟨rfl, rfl⟩ := q18
              refine v_bf F 88 d_T_copy_79 rfl (fun h79 => ?_) (fun h79 => ?_)
              · skip
                refine v_aload_n F d_T_copy_88 rfl 0 rfl ?_
                refine v_getr (r := 1) F fk_T_11 G0 rfl d_T_copy_89 ?_
                refine v_iload_n F d_T_copy_92 rfl 1 rfl ?_
                refine v_aal F (ix r) G1 rfl (ix_eq h4.1) (ix_lt h4.1 h4.2 rfl (by decide)) d_T_copy_93 ?_
                refine v_iload_n F d_T_copy_94 rfl 2 rfl ?_
                refine v_aload_n F d_T_copy_95 rfl 0 rfl ?_
                refine v_getr (r := 1) F fk_T_11 G0 rfl d_T_copy_96 ?_
                refine v_iload_n F d_T_copy_99 rfl 3 rfl ?_
                refine v_aal F (ix to) G1 rfl (ix_eq h11.1) (ix_lt h11.1 h11.2 rfl (by decide)) d_T_copy_100 ?_
                refine v_iload F d_T_copy_101 4 rfl ?_
                refine v_iload F d_T_copy_103 5 rfl ?_
                refine v_copy F (gam_row _ (ix_lt h4.1 h4.2 rfl (by decide))) (gam_row _ (ix_lt h11.1 h11.2 rfl (by decide))) (List.mem_of_getElem? (i := 439) (by decide +kernel)) (List.mem_of_getElem? (i := 441) (by decide +kernel)) (List.mem_of_getElem? (i := 440) (by decide +kernel)) (List.mem_of_getElem? (i := 87) (by decide +kernel)) (i_nlt.mpr h63.1) (i_nlt.mpr h79.1) (i_nlt.mpr h18) (hld_le (i_nlt.mp h33) (hI _ (ix_lt h4.1 h4.2 rfl (by decide))) h18 h63) (hld_le h42 (hI _ (ix_lt h11.1 h11.2 rfl (by decide))) h18 h79) (by decide) (Nat.le_of_ble_eq_true rfl) d_T_copy_105 ?_
                refine v_ns (fun σ19 eσ19 => ?_)
                refine v_iconst (v := 1) F d_T_copy_108 ki_1 ?_
                refine v_iret F hr rfl d_T_copy_109 ?_
                first | (simp_all [tCopy, inR]; done) | grind [tCopy]
              · skip
                refine v_aload_n F d_T_copy_82 rfl 0 rfl ?_
                refine v_iconst (v := 2) F d_T_copy_83 ki_2 ?_
                refine v_runi (r_V F (c_T_refuse X.2.1 u hA σ 2 (by decide)) mo_T_refuse st_T_80 rc_0 (by decide) rfl (Nat.le_of_ble_eq_true rfl) d_T_copy_84) (fun r20 σ21 q22 => ?_)
                obtain ⟨rfl, eσ21⟩ := q22
                refine v_iret F hr rfl d_T_copy_87 ?_
                first | (simp_all [tCopy, inR]; done) | grind [tCopy]
          · skip
            refine v_aload_n F d_T_copy_45 rfl 0 rfl ?_
            refine v_iconst (v := 1) F d_T_copy_46 ki_1 ?_
            refine v_runi (r_V F (c_T_refuse X.2.1 u hA σ 1 (by decide)) mo_T_refuse st_T_80 rc_0 (by decide) rfl (Nat.le_of_ble_eq_true rfl) d_T_copy_47) (fun r23 σ24 q25 => ?_)
            obtain ⟨rfl, eσ24⟩ := q25
            refine v_iret F hr rfl d_T_copy_50 ?_
            first | (simp_all [tCopy, inR]; done) | grind [tCopy]
      · skip
        refine v_aload_n F d_T_copy_21 rfl 0 rfl ?_
        refine v_iconst (v := 5) F d_T_copy_22 ki_5 ?_
        refine v_runi (r_V F (c_T_refuse X.2.1 u hA σ 5 (by decide)) mo_T_refuse st_T_80 rc_0 (by decide) rfl (Nat.le_of_ble_eq_true rfl) d_T_copy_23) (fun r26 σ27 q28 => ?_)
        obtain ⟨rfl, eσ27⟩ := q28
        refine v_iret F hr rfl d_T_copy_26 ?_
        first | (simp_all [tCopy, inR]; done) | grind [tCopy]
    · skip
      refine v_iconst (v := (-1)) F d_T_copy_14 ki_m1 ?_
      refine v_iret F hr rfl d_T_copy_15 ?_
      first | (simp_all [tCopy, inR]; done) | grind [tCopy]
abbrev b_T_asked : ByteArray := prog_1_method_39_code
abbrev y_T_asked : MethodName := ⟨"TakerBook", "asked", "()I"⟩
theorem d_T_asked_0 : decode b_T_asked 0 = .ok (.aload_n 0, 1) := by decide +kernel
theorem d_T_asked_1 : decode b_T_asked 1 = .ok (.getfield 88, 3) := by decide +kernel
theorem d_T_asked_4 : decode b_T_asked 4 = .ok (.ireturn, 1) := by decide +kernel
theorem mo_T_asked : mok y_T_asked b_T_asked 1 (some .int) 0 := ⟨List.mem_of_getElem? (i := 938) (by decide +kernel), ⟨by decide +kernel, by decide +kernel, by decide +kernel⟩, List.mem_of_getElem? (i := 74) (by decide +kernel), by decide⟩
set_option maxHeartbeats 4000000 in
theorem c_T_asked (l : Launch) (u : Un) (hA : Ap u) (σ : St) : MTi l u y_T_asked b_T_asked 1 .int 0 [.ref (u.2.1 0)] σ (fun ans σ' => σ.1 0 12 = ans ∧ σ = σ') := by
  refine MT_of hA rfl (by decide) (Nat.le_of_ble_eq_true rfl) (fun X hl F hr => ?_)
  subst hl
  refine v_to (ls' := [(0, .ref (u.2.1 0))]) rfl ?_
  refine v_aload_n F d_T_asked_0 rfl 0 rfl ?_
  refine v_geti F fk_T_88 G0 rfl d_T_asked_1 ?_
  refine v_iret F hr rfl d_T_asked_4 ?_
  exact ⟨by simp_all, rfl⟩
abbrev b_T_finding : ByteArray := prog_1_method_43_code
abbrev y_T_finding : MethodName := ⟨"TakerBook", "finding", "()I"⟩
theorem d_T_finding_0 : decode b_T_finding 0 = .ok (.aload_n 0, 1) := by decide +kernel
theorem d_T_finding_1 : decode b_T_finding 1 = .ok (.getfield 329, 3) := by decide +kernel
theorem d_T_finding_4 : decode b_T_finding 4 = .ok (.ireturn, 1) := by decide +kernel
theorem mo_T_finding : mok y_T_finding b_T_finding 1 (some .int) 0 := ⟨List.mem_of_getElem? (i := 961) (by decide +kernel), ⟨by decide +kernel, by decide +kernel, by decide +kernel⟩, List.mem_of_getElem? (i := 74) (by decide +kernel), by decide⟩
set_option maxHeartbeats 4000000 in
theorem c_T_finding (l : Launch) (u : Un) (hA : Ap u) (σ : St) : MTi l u y_T_finding b_T_finding 1 .int 0 [.ref (u.2.1 0)] σ (fun ans σ' => σ.1 0 11 = ans ∧ σ = σ') := by
  refine MT_of hA rfl (by decide) (Nat.le_of_ble_eq_true rfl) (fun X hl F hr => ?_)
  subst hl
  refine v_to (ls' := [(0, .ref (u.2.1 0))]) rfl ?_
  refine v_aload_n F d_T_finding_0 rfl 0 rfl ?_
  refine v_geti F fk_T_329 G0 rfl d_T_finding_1 ?_
  refine v_iret F hr rfl d_T_finding_4 ?_
  exact ⟨by simp_all, rfl⟩
abbrev b_T_upper : ByteArray := prog_1_method_40_code
abbrev y_T_upper : MethodName := ⟨"TakerBook", "upper", "()J"⟩
theorem d_T_upper_0 : decode b_T_upper 0 = .ok (.aload_n 0, 1) := by decide +kernel
theorem d_T_upper_1 : decode b_T_upper 1 = .ok (.getfield 312, 3) := by decide +kernel
theorem d_T_upper_4 : decode b_T_upper 4 = .ok (.lreturn, 1) := by decide +kernel
theorem mo_T_upper : mok y_T_upper b_T_upper 1 (some .long) 0 := ⟨List.mem_of_getElem? (i := 942) (by decide +kernel), ⟨by decide +kernel, by decide +kernel, by decide +kernel⟩, List.mem_of_getElem? (i := 74) (by decide +kernel), by decide⟩
set_option maxHeartbeats 4000000 in
theorem c_T_upper (l : Launch) (u : Un) (hA : Ap u) (σ : St) : MTl l u y_T_upper b_T_upper 1 0 [.ref (u.2.1 0)] σ (fun ans σ' => σ.2 0 13 = ans ∧ σ = σ') := by
  refine MT_of hA rfl (by decide) (Nat.le_of_ble_eq_true rfl) (fun X hl F hr => ?_)
  subst hl
  refine v_to (ls' := [(0, .ref (u.2.1 0))]) rfl ?_
  refine v_aload_n F d_T_upper_0 rfl 0 rfl ?_
  refine v_getl F fk_T_312 G0 rfl d_T_upper_1 ?_
  refine v_lret F hr d_T_upper_4 ?_
  exact ⟨by simp_all, rfl⟩
abbrev b_T_lower : ByteArray := prog_1_method_41_code
abbrev y_T_lower : MethodName := ⟨"TakerBook", "lower", "()J"⟩
theorem d_T_lower_0 : decode b_T_lower 0 = .ok (.aload_n 0, 1) := by decide +kernel
theorem d_T_lower_1 : decode b_T_lower 1 = .ok (.getfield 68, 3) := by decide +kernel
theorem d_T_lower_4 : decode b_T_lower 4 = .ok (.lreturn, 1) := by decide +kernel
theorem mo_T_lower : mok y_T_lower b_T_lower 1 (some .long) 0 := ⟨List.mem_of_getElem? (i := 946) (by decide +kernel), ⟨by decide +kernel, by decide +kernel, by decide +kernel⟩, List.mem_of_getElem? (i := 74) (by decide +kernel), by decide⟩
set_option maxHeartbeats 4000000 in
theorem c_T_lower (l : Launch) (u : Un) (hA : Ap u) (σ : St) : MTl l u y_T_lower b_T_lower 1 0 [.ref (u.2.1 0)] σ (fun ans σ' => σ.2 0 14 = ans ∧ σ = σ') := by
  refine MT_of hA rfl (by decide) (Nat.le_of_ble_eq_true rfl) (fun X hl F hr => ?_)
  subst hl
  refine v_to (ls' := [(0, .ref (u.2.1 0))]) rfl ?_
  refine v_aload_n F d_T_lower_0 rfl 0 rfl ?_
  refine v_getl F fk_T_68 G0 rfl d_T_lower_1 ?_
  refine v_lret F hr d_T_lower_4 ?_
  exact ⟨by simp_all, rfl⟩
end
section
-- the model's methods, as functions of the state
theorem le5 {x : Int32} : (0 ≤ x ∧ x ≤ 5) ↔ inR x 6 := by
  simp only [inR, Int32.lt_iff_toInt_lt, Int32.le_iff_toInt_le]
  have h1 : (5 : Int32).toInt = 5 := rfl
  have h2 : (6 : Int32).toInt = 6 := rfl
  omega
theorem le3 {x : Int32} : (0 ≤ x ∧ x ≤ 3) ↔ inR x 4 := by
  simp only [inR, Int32.lt_iff_toInt_lt, Int32.le_iff_toInt_le]
  have h1 : (3 : Int32).toInt = 3 := rfl
  have h2 : (4 : Int32).toInt = 4 := rfl
  omega
theorem inR_nat {x n : Int32} {N : Nat} (h : inR x n) (hn : n = nI N) (hN : N < 2147483648) : ∃ j, j < N ∧ ix x = j ∧ x = nI j := by
  obtain ⟨j, hj, rfl⟩ := nI_of (i_nlt.mpr h.1)
  subst hn
  exact ⟨j, (nI_ltI hj (by omega)).mp h.2, nI_clamp hj, rfl⟩
theorem pred_nat {s i : Int32} {N : Nat} (h0 : 0 ≤ s) (h1 : s ≤ nI N) (hN : N < 2147483648) (h : 0 ≤ i ∧ i ≤ s - 1) : ∃ b, b < N ∧ ix i = b ∧ i = nI b := by
  obtain ⟨a, ha, -, rfl⟩ := nat_of h0 h1 rfl hN
  rcases a with _ | a
  · exfalso
    have h2 := h.2
    have h3 := h.1
    rw [show nI 0 - 1 = -1 from rfl] at h2
    simp only [Int32.le_iff_toInt_le] at h2 h3
    have e1 : (-1 : Int32).toInt = -1 := rfl
    have e0 : (0 : Int32).toInt = 0 := rfl
    omega
  · rw [nI_pred] at h
    obtain ⟨b, hb, eb, rfl⟩ := nat_of h.1 h.2 rfl (by omega)
    exact ⟨b, by omega, eb, rfl⟩
theorem pred_lt {s i : Int32} {N : Nat} (h0 : 0 ≤ s) (h1 : s ≤ nI N) (hN : N < 2147483648) : (0 ≤ i ∧ i ≤ s - 1) ↔ ¬ (i < 0 ∨ s ≤ i) := by
  obtain ⟨a, ha, -, rfl⟩ := nat_of h0 h1 rfl hN
  rcases a with _ | a
  · rw [show nI 0 - 1 = -1 from rfl, nI_0]
    simp only [Int32.le_iff_toInt_le, Int32.lt_iff_toInt_lt]
    have e1 : (-1 : Int32).toInt = -1 := rfl
    have e0 : (0 : Int32).toInt = 0 := rfl
    omega
  · rw [nI_pred]
    simp only [Int32.le_iff_toInt_le, Int32.lt_iff_toInt_lt]
    rw [nI_toInt (by omega), nI_toInt (by omega)]
    have e0 : (0 : Int32).toInt = 0 := rfl
    omega
def mRowsOk (σ : St) : Prop := ∀ j, j < 6 → σ.1 65 j ≤ 40
def mTextsOk (σ : St) : Prop := ∀ j, j < 4 → σ.1 68 j ≤ 60
def mLay (σ : St) (r i v : Int32) : Int32 × St := if ¬ inR r 6 then (-1, σ) else if σ.1 65 (ix r) < 0 then (-3, mRef σ 1) else if ¬ (0 ≤ i ∧ i ≤ σ.1 65 (ix r) - 1) then (-3, mRef σ 2) else (1, uI (uI σ 66 (40 * ix r + ix i) v) 63 2 (σ.1 66 (40 * ix r + ix i)))
def mAt (σ : St) (r i : Int32) : Int32 × St := if ¬ inR r 6 then (-1, σ) else if σ.1 65 (ix r) < 0 then (-3, mRef σ 1) else if ¬ (0 ≤ i ∧ i ≤ σ.1 65 (ix r) - 1) then (-3, mRef σ 2) else (1, uI σ 63 2 (σ.1 66 (40 * ix r + ix i)))
def mTear (σ : St) (r : Int32) : Int32 × St := if ¬ inR r 6 then (-1, σ) else if σ.1 65 (ix r) < 0 then (-3, mRef σ 1) else (1, uI σ 65 (ix r) (-1))
def mPut (σ : St) (t i v : Int32) : Int32 × St := if ¬ inR t 4 then (-1, σ) else if σ.1 68 (ix t) < 0 then (-3, mRef σ 1) else if ¬ (0 ≤ i ∧ i ≤ σ.1 68 (ix t) - 1) then (-3, mRef σ 2) else (1000 + σ.1 69 (60 * ix t + ix i), uI σ 69 (60 * ix t + ix i) (vp_nar .byte v.toInt8.toInt32))
def mRow (σ : St) (r n : Int32) : Int32 × St := if ¬ inR r 6 ∨ 40 < n then (-1, σ) else if n < 0 then (-3, mRef σ 5) else (n, fl (uI σ 65 (ix r) n) 66 (40 * ix r) 0 40)
def mText (σ : St) (t n : Int32) : Int32 × St := if ¬ inR t 4 ∨ 60 < n then (-1, σ) else if n < 0 then (-3, mRef σ 5) else (n, fl (uI σ 68 (ix t) n) 69 (60 * ix t) 32 60)
def mMean (σ : St) (r : Int32) : Int32 × St := if ¬ inR r 6 then (-1, σ) else if σ.1 65 (ix r) < 0 then (-3, mRef σ 1) else if σ.1 65 (ix r) = 0 then (-3, mRef σ 4) else (1, uI σ 63 2 (sumL (fun j => σ.1 66 (40 * ix r + j)) (ix (σ.1 65 (ix r))) / (σ.1 65 (ix r)).toInt64).toInt32)
/-- a part of a row comes to another place -/
def cpF (σ : St) (k off : Nat) (f : Nat → Int32) : Nat → St
  | 0 => σ
  | i + 1 => uI (cpF σ k off f i) k (off + i) (f i)
end
section
theorem st_M_89 : siteS "TakerBookModel" 89 ⟨"TakerBookModel", "in", "(III)Z"⟩ := ⟨List.mem_of_getElem? (i := 1108) (by decide +kernel), List.mem_of_getElem? (i := 1109) (by decide +kernel)⟩
theorem ki_3 : Int32.ofInt 3 = (3 : Int32) := by decide
theorem G63 : Gam[63]? = some (.inr (.inr (12, [.inr false, .inl 64, .inr false, .inr true, .inr true, .inl 65, .inl 66, .inl 67, .inl 68, .inl 69, .inr false, .inl 70, .inl 71, .inl 72, .inl 73, .inr false, .inr false, .inr false, .inl 74, .inl 75, .inl 76, .inl 77, .inr false, .inl 78, .inl 79, .inl 80, .inl 81, .inl 82, .inl 83, .inr false, .inr false, .inr false, .inr false, .inr false, .inl 84, .inl 85, .inl 86, .inr true, .inr true, .inr true]))) := rfl
theorem rc_63 : recv 63 "TakerBookModel" := ⟨12, _, (R_M, F_M, 40), G63, rfl, rfl⟩
theorem fk_M_85 : fok "TakerBookModel" 85 12 0 := ⟨(R_M, F_M, 40), rfl, by decide, List.mem_of_getElem? (i := 979) (by decide +kernel), rfl⟩
theorem pk_M_latest : pok 12 0 .int := ⟨(R_M, F_M, 40), rfl, rfl, by decide +kernel⟩
theorem fk_M_7 : fok "TakerBookModel" 7 12 1 := ⟨(R_M, F_M, 40), rfl, by decide, List.mem_of_getElem? (i := 980) (by decide +kernel), rfl⟩
theorem G64 : Gam[64]? = some (.inl (.int, 6)) := rfl
theorem fk_M_93 : fok "TakerBookModel" 93 12 2 := ⟨(R_M, F_M, 40), rfl, by decide, List.mem_of_getElem? (i := 981) (by decide +kernel), rfl⟩
theorem pk_M_asked : pok 12 2 .int := ⟨(R_M, F_M, 40), rfl, rfl, by decide +kernel⟩
theorem fk_M_20 : fok "TakerBookModel" 20 12 6 := ⟨(R_M, F_M, 40), rfl, by decide, List.mem_of_getElem? (i := 985) (by decide +kernel), rfl⟩
theorem G66 : Gam[66]? = some (.inl (.int, 240)) := rfl
theorem fk_M_96 : fok "TakerBookModel" 96 12 3 := ⟨(R_M, F_M, 40), rfl, by decide, List.mem_of_getElem? (i := 982) (by decide +kernel), rfl⟩
theorem fk_M_13 : fok "TakerBookModel" 13 12 4 := ⟨(R_M, F_M, 40), rfl, by decide, List.mem_of_getElem? (i := 983) (by decide +kernel), rfl⟩
theorem st_M_99 : siteS "TakerBookModel" 99 ⟨"TakerBookModel", "isRow", "(I)Z"⟩ := ⟨List.mem_of_getElem? (i := 1127) (by decide +kernel), List.mem_of_getElem? (i := 1128) (by decide +kernel)⟩
theorem fk_M_17 : fok "TakerBookModel" 17 12 5 := ⟨(R_M, F_M, 40), rfl, by decide, List.mem_of_getElem? (i := 984) (by decide +kernel), rfl⟩
theorem G65 : Gam[65]? = some (.inl (.int, 6)) := rfl
theorem st_M_107 : siteV "TakerBookModel" 107 ⟨"TakerBookModel", "rowAt", "(II)I"⟩ := ⟨List.mem_of_getElem? (i := 1138) (by decide +kernel), List.mem_of_getElem? (i := 1140) (by decide +kernel), List.mem_of_getElem? (i := 29) (by decide +kernel)⟩
theorem st_M_111 : siteV "TakerBookModel" 111 ⟨"TakerBookModel", "tells", "(II)I"⟩ := ⟨List.mem_of_getElem? (i := 1142) (by decide +kernel), List.mem_of_getElem? (i := 1144) (by decide +kernel), List.mem_of_getElem? (i := 30) (by decide +kernel)⟩
theorem st_M_103 : siteV "TakerBookModel" 103 ⟨"TakerBookModel", "meets", "(I)I"⟩ := ⟨List.mem_of_getElem? (i := 1130) (by decide +kernel), List.mem_of_getElem? (i := 1132) (by decide +kernel), List.mem_of_getElem? (i := 28) (by decide +kernel)⟩
theorem st_M_114 : siteS "TakerBookModel" 114 ⟨"TakerBookModel", "isText", "(I)Z"⟩ := ⟨List.mem_of_getElem? (i := 1166) (by decide +kernel), List.mem_of_getElem? (i := 1167) (by decide +kernel)⟩
theorem fk_M_26 : fok "TakerBookModel" 26 12 8 := ⟨(R_M, F_M, 40), rfl, by decide, List.mem_of_getElem? (i := 987) (by decide +kernel), rfl⟩
theorem G68 : Gam[68]? = some (.inl (.int, 4)) := rfl
theorem fk_M_29 : fok "TakerBookModel" 29 12 9 := ⟨(R_M, F_M, 40), rfl, by decide, List.mem_of_getElem? (i := 988) (by decide +kernel), rfl⟩
theorem G69 : Gam[69]? = some (.inl (.byte, 240)) := rfl
abbrev b_M_in : ByteArray := prog_14_method_2_code
abbrev y_M_in : MethodName := ⟨"TakerBookModel", "in", "(III)Z"⟩
theorem d_M_in_0 : decode b_M_in 0 = .ok (.iload_n 0, 1) := by decide +kernel
theorem d_M_in_1 : decode b_M_in 1 = .ok (.iload_n 1, 1) := by decide +kernel
theorem d_M_in_2 : decode b_M_in 2 = .ok (.if_icmp .lt 12, 3) := by decide +kernel
theorem d_M_in_5 : decode b_M_in 5 = .ok (.iload_n 0, 1) := by decide +kernel
theorem d_M_in_6 : decode b_M_in 6 = .ok (.iload_n 2, 1) := by decide +kernel
theorem d_M_in_7 : decode b_M_in 7 = .ok (.if_icmp .gt 7, 3) := by decide +kernel
theorem d_M_in_10 : decode b_M_in 10 = .ok (.iconst 1, 1) := by decide +kernel
theorem d_M_in_11 : decode b_M_in 11 = .ok (.goto 4, 3) := by decide +kernel
theorem d_M_in_14 : decode b_M_in 14 = .ok (.iconst 0, 1) := by decide +kernel
theorem d_M_in_15 : decode b_M_in 15 = .ok (.ireturn, 1) := by decide +kernel
theorem mo_M_in : mok y_M_in b_M_in 3 (some .boolean) 3 := ⟨List.mem_of_getElem? (i := 1110) (by decide +kernel), ⟨by decide +kernel, by decide +kernel, by decide +kernel⟩, List.mem_of_getElem? (i := 86) (by decide +kernel), by decide⟩
set_option maxHeartbeats 4000000 in
theorem c_M_in (l : Launch) (u : Un) (hA : Ap u) (σ : St) (x a b : Int32) : MTi l u y_M_in b_M_in 3 .boolean 0 [.int x, .int a, .int b] σ (fun ans σ' => bI (a ≤ x ∧ x ≤ b) = ans ∧ σ = σ') := by
  refine MT_of hA rfl (by decide) (Nat.le_of_ble_eq_true rfl) (fun X hl F hr => ?_)
  subst hl
  refine v_to (ls' := [(0, .int x), (1, .int a), (2, .int b)]) rfl ?_
  refine v_iload_n F d_M_in_0 rfl 0 rfl ?_
  refine v_iload_n F d_M_in_1 rfl 1 rfl ?_
  refine v_icmp_lt F 14 d_M_in_2 rfl (fun h2 => ?_) (fun h2 => ?_)
  · skip
    refine v_iconst (v := 0) F d_M_in_14 ki_0 ?_
    refine v_iret F hr rfl d_M_in_15 ?_
    exact ⟨(bI_f (by first | (simp_all [inR]; done) | grind)), rfl⟩
  · skip
    refine v_iload_n F d_M_in_5 rfl 0 rfl ?_
    refine v_iload_n F d_M_in_6 rfl 2 rfl ?_
    refine v_icmp_gt F 14 d_M_in_7 rfl (fun h7 => ?_) (fun h7 => ?_)
    · skip
      refine v_iconst (v := 0) F d_M_in_14 ki_0 ?_
      refine v_iret F hr rfl d_M_in_15 ?_
      exact ⟨(bI_f (by first | (simp_all [inR]; done) | grind)), rfl⟩
    · skip
      refine v_iconst (v := 1) F d_M_in_10 ki_1 ?_
      refine v_goto F 15 d_M_in_11 rfl ?_
      refine v_iret F hr rfl d_M_in_15 ?_
      exact ⟨(bI_t (by first | (simp_all [inR]; done) | grind)), rfl⟩
abbrev b_M_has : ByteArray := prog_14_method_3_code
abbrev y_M_has : MethodName := ⟨"TakerBookModel", "has", "(II)Z"⟩
theorem d_M_has_0 : decode b_M_has 0 = .ok (.iload_n 0, 1) := by decide +kernel
theorem d_M_has_1 : decode b_M_has 1 = .ok (.iload_n 1, 1) := by decide +kernel
theorem d_M_has_2 : decode b_M_has 2 = .ok (.ishr, 1) := by decide +kernel
theorem d_M_has_3 : decode b_M_has 3 = .ok (.iconst 1, 1) := by decide +kernel
theorem d_M_has_4 : decode b_M_has 4 = .ok (.iand, 1) := by decide +kernel
theorem d_M_has_5 : decode b_M_has 5 = .ok (.iconst 1, 1) := by decide +kernel
theorem d_M_has_6 : decode b_M_has 6 = .ok (.if_icmp .ne 7, 3) := by decide +kernel
theorem d_M_has_9 : decode b_M_has 9 = .ok (.iconst 1, 1) := by decide +kernel
theorem d_M_has_10 : decode b_M_has 10 = .ok (.goto 4, 3) := by decide +kernel
theorem d_M_has_13 : decode b_M_has 13 = .ok (.iconst 0, 1) := by decide +kernel
theorem d_M_has_14 : decode b_M_has 14 = .ok (.ireturn, 1) := by decide +kernel
theorem mo_M_has : mok y_M_has b_M_has 2 (some .boolean) 2 := ⟨List.mem_of_getElem? (i := 1230) (by decide +kernel), ⟨by decide +kernel, by decide +kernel, by decide +kernel⟩, List.mem_of_getElem? (i := 86) (by decide +kernel), by decide⟩
set_option maxHeartbeats 4000000 in
theorem c_M_has (l : Launch) (u : Un) (hA : Ap u) (σ : St) (z i : Int32) : MTi l u y_M_has b_M_has 2 .boolean 0 [.int z, .int i] σ (fun ans σ' => bI ((z >>> (i &&& 31)) &&& 1 = 1) = ans ∧ σ = σ') := by
  refine MT_of hA rfl (by decide) (Nat.le_of_ble_eq_true rfl) (fun X hl F hr => ?_)
  subst hl
  refine v_to (ls' := [(0, .int z), (1, .int i)]) rfl ?_
  refine v_iload_n F d_M_has_0 rfl 0 rfl ?_
  refine v_iload_n F d_M_has_1 rfl 1 rfl ?_
  refine v_ishr F d_M_has_2 ?_
  refine v_iconst (v := 1) F d_M_has_3 ki_1 ?_
  refine v_iand F d_M_has_4 ?_
  refine v_iconst (v := 1) F d_M_has_5 ki_1 ?_
  refine v_icmp_ne F 13 d_M_has_6 rfl (fun h6 => ?_) (fun h6 => ?_)
  · skip
    refine v_iconst (v := 0) F d_M_has_13 ki_0 ?_
    refine v_iret F hr rfl d_M_has_14 ?_
    exact ⟨(bI_f (by first | (simp_all [inR]; done) | grind)), rfl⟩
  · skip
    refine v_iconst (v := 1) F d_M_has_9 ki_1 ?_
    refine v_goto F 14 d_M_has_10 rfl ?_
    refine v_iret F hr rfl d_M_has_14 ?_
    exact ⟨(bI_t (by first | (simp_all [inR]; done) | grind)), rfl⟩
abbrev b_M_isRow : ByteArray := prog_14_method_13_code
abbrev y_M_isRow : MethodName := ⟨"TakerBookModel", "isRow", "(I)Z"⟩
theorem d_M_isRow_0 : decode b_M_isRow 0 = .ok (.iload_n 0, 1) := by decide +kernel
theorem d_M_isRow_1 : decode b_M_isRow 1 = .ok (.iconst 0, 1) := by decide +kernel
theorem d_M_isRow_2 : decode b_M_isRow 2 = .ok (.iconst 5, 1) := by decide +kernel
theorem d_M_isRow_3 : decode b_M_isRow 3 = .ok (.invokestatic 89, 3) := by decide +kernel
theorem d_M_isRow_6 : decode b_M_isRow 6 = .ok (.ireturn, 1) := by decide +kernel
theorem mo_M_isRow : mok y_M_isRow b_M_isRow 1 (some .boolean) 1 := ⟨List.mem_of_getElem? (i := 1129) (by decide +kernel), ⟨by decide +kernel, by decide +kernel, by decide +kernel⟩, List.mem_of_getElem? (i := 86) (by decide +kernel), by decide⟩
set_option maxHeartbeats 4000000 in
theorem c_M_isRow (l : Launch) (u : Un) (hA : Ap u) (σ : St) (x : Int32) : MTi l u y_M_isRow b_M_isRow 1 .boolean 1 [.int x] σ (fun ans σ' => bI (inR x 6) = ans ∧ σ = σ') := by
  refine MT_of hA rfl (by decide) (Nat.le_of_ble_eq_true rfl) (fun X hl F hr => ?_)
  subst hl
  refine v_to (ls' := [(0, .int x)]) rfl ?_
  refine v_iload_n F d_M_isRow_0 rfl 0 rfl ?_
  refine v_iconst (v := 0) F d_M_isRow_1 ki_0 ?_
  refine v_iconst (v := 5) F d_M_isRow_2 ki_5 ?_
  refine v_runi (r_S F (c_M_in X.2.1 u hA σ x 0 5 ) mo_M_in st_M_89 (by decide) rfl (Nat.le_of_ble_eq_true rfl) d_M_isRow_3) (fun r1 σ2 q3 => ?_)
  obtain ⟨rfl, rfl⟩ := q3
  refine v_iret F hr bI_nar d_M_isRow_6 ?_
  exact ⟨bI_c le5.symm, rfl⟩
abbrev b_M_isText : ByteArray := prog_14_method_21_code
abbrev y_M_isText : MethodName := ⟨"TakerBookModel", "isText", "(I)Z"⟩
theorem d_M_isText_0 : decode b_M_isText 0 = .ok (.iload_n 0, 1) := by decide +kernel
theorem d_M_isText_1 : decode b_M_isText 1 = .ok (.iconst 0, 1) := by decide +kernel
theorem d_M_isText_2 : decode b_M_isText 2 = .ok (.iconst 3, 1) := by decide +kernel
theorem d_M_isText_3 : decode b_M_isText 3 = .ok (.invokestatic 89, 3) := by decide +kernel
theorem d_M_isText_6 : decode b_M_isText 6 = .ok (.ireturn, 1) := by decide +kernel
theorem mo_M_isText : mok y_M_isText b_M_isText 1 (some .boolean) 1 := ⟨List.mem_of_getElem? (i := 1168) (by decide +kernel), ⟨by decide +kernel, by decide +kernel, by decide +kernel⟩, List.mem_of_getElem? (i := 86) (by decide +kernel), by decide⟩
set_option maxHeartbeats 4000000 in
theorem c_M_isText (l : Launch) (u : Un) (hA : Ap u) (σ : St) (x : Int32) : MTi l u y_M_isText b_M_isText 1 .boolean 1 [.int x] σ (fun ans σ' => bI (inR x 4) = ans ∧ σ = σ') := by
  refine MT_of hA rfl (by decide) (Nat.le_of_ble_eq_true rfl) (fun X hl F hr => ?_)
  subst hl
  refine v_to (ls' := [(0, .int x)]) rfl ?_
  refine v_iload_n F d_M_isText_0 rfl 0 rfl ?_
  refine v_iconst (v := 0) F d_M_isText_1 ki_0 ?_
  refine v_iconst (v := 3) F d_M_isText_2 ki_3 ?_
  refine v_runi (r_S F (c_M_in X.2.1 u hA σ x 0 3 ) mo_M_in st_M_89 (by decide) rfl (Nat.le_of_ble_eq_true rfl) d_M_isText_3) (fun r1 σ2 q3 => ?_)
  obtain ⟨rfl, rfl⟩ := q3
  refine v_iret F hr bI_nar d_M_isText_6 ?_
  exact ⟨bI_c le3.symm, rfl⟩
abbrev b_M_meets : ByteArray := prog_14_method_5_code
abbrev y_M_meets : MethodName := ⟨"TakerBookModel", "meets", "(I)I"⟩
theorem d_M_meets_0 : decode b_M_meets 0 = .ok (.aload_n 0, 1) := by decide +kernel
theorem d_M_meets_1 : decode b_M_meets 1 = .ok (.iload_n 1, 1) := by decide +kernel
theorem d_M_meets_2 : decode b_M_meets 2 = .ok (.putfield 85, 3) := by decide +kernel
theorem d_M_meets_5 : decode b_M_meets 5 = .ok (.aload_n 0, 1) := by decide +kernel
theorem d_M_meets_6 : decode b_M_meets 6 = .ok (.getfield 7, 3) := by decide +kernel
theorem d_M_meets_9 : decode b_M_meets 9 = .ok (.iload_n 1, 1) := by decide +kernel
theorem d_M_meets_10 : decode b_M_meets 10 = .ok (.dup2, 1) := by decide +kernel
theorem d_M_meets_11 : decode b_M_meets 11 = .ok (.iaload, 1) := by decide +kernel
theorem d_M_meets_12 : decode b_M_meets 12 = .ok (.iconst 1, 1) := by decide +kernel
theorem d_M_meets_13 : decode b_M_meets 13 = .ok (.iadd, 1) := by decide +kernel
theorem d_M_meets_14 : decode b_M_meets 14 = .ok (.iastore, 1) := by decide +kernel
theorem d_M_meets_15 : decode b_M_meets 15 = .ok (.bipush (-3), 2) := by decide +kernel
theorem d_M_meets_17 : decode b_M_meets 17 = .ok (.ireturn, 1) := by decide +kernel
theorem mo_M_meets : mok y_M_meets b_M_meets 2 (some .int) 1 := ⟨List.mem_of_getElem? (i := 1133) (by decide +kernel), ⟨by decide +kernel, by decide +kernel, by decide +kernel⟩, List.mem_of_getElem? (i := 86) (by decide +kernel), by decide⟩
set_option maxHeartbeats 4000000 in
theorem c_M_meets (l : Launch) (u : Un) (hA : Ap u) (σ : St) (n : Nat) (hn : n < 6) : MTi l u y_M_meets b_M_meets 2 .int 0 [.ref (u.2.1 63), .int (nI n)] σ (fun ans σ' => -3 = ans ∧ σ' = mRef σ n) := by
  refine MT_of hA rfl (by decide) (Nat.le_of_ble_eq_true rfl) (fun X hl F hr => ?_)
  subst hl
  refine v_to (ls' := [(0, .ref (u.2.1 63)), (1, .int (nI n))]) rfl ?_
  refine v_aload_n F d_M_meets_0 rfl 0 rfl ?_
  refine v_iload_n F d_M_meets_1 rfl 1 rfl ?_
  refine v_puti F fk_M_85 pk_M_latest G63 rfl d_M_meets_2 ?_
  refine v_ns (fun σ1 eσ1 => ?_)
  refine v_aload_n F d_M_meets_5 rfl 0 rfl ?_
  refine v_getr (r := 64) F fk_M_7 G63 rfl d_M_meets_6 ?_
  refine v_iload_n F d_M_meets_9 rfl 1 rfl ?_
  refine v_dup2_11 F d_M_meets_10 rfl rfl ?_
  refine v_ial F n G64 rfl (by omega) d_M_meets_11 ?_
  refine v_iconst (v := 1) F d_M_meets_12 ki_1 ?_
  refine v_iadd F d_M_meets_13 ?_
  refine v_ias F n G64 rfl (by omega) d_M_meets_14 ?_
  refine v_ns (fun σ2 eσ2 => ?_)
  refine v_bipush (v := (-3)) F d_M_meets_15 kb_m3 ?_
  refine v_iret F hr rfl d_M_meets_17 ?_
  exact ⟨rfl, by simp [mRef, uI, *]⟩
abbrev b_M_tells : ByteArray := prog_14_method_8_code
abbrev y_M_tells : MethodName := ⟨"TakerBookModel", "tells", "(II)I"⟩
theorem d_M_tells_0 : decode b_M_tells 0 = .ok (.aload_n 0, 1) := by decide +kernel
theorem d_M_tells_1 : decode b_M_tells 1 = .ok (.iload_n 1, 1) := by decide +kernel
theorem d_M_tells_2 : decode b_M_tells 2 = .ok (.putfield 93, 3) := by decide +kernel
theorem d_M_tells_5 : decode b_M_tells 5 = .ok (.iload_n 2, 1) := by decide +kernel
theorem d_M_tells_6 : decode b_M_tells 6 = .ok (.ireturn, 1) := by decide +kernel
theorem mo_M_tells : mok y_M_tells b_M_tells 3 (some .int) 2 := ⟨List.mem_of_getElem? (i := 1145) (by decide +kernel), ⟨by decide +kernel, by decide +kernel, by decide +kernel⟩, List.mem_of_getElem? (i := 86) (by decide +kernel), by decide⟩
set_option maxHeartbeats 4000000 in
theorem c_M_tells (l : Launch) (u : Un) (hA : Ap u) (σ : St) (v a : Int32) : MTi l u y_M_tells b_M_tells 3 .int 0 [.ref (u.2.1 63), .int v, .int a] σ (fun ans σ' => a = ans ∧ σ' = uI σ 63 2 v) := by
  refine MT_of hA rfl (by decide) (Nat.le_of_ble_eq_true rfl) (fun X hl F hr => ?_)
  subst hl
  refine v_to (ls' := [(0, .ref (u.2.1 63)), (1, .int v), (2, .int a)]) rfl ?_
  refine v_aload_n F d_M_tells_0 rfl 0 rfl ?_
  refine v_iload_n F d_M_tells_1 rfl 1 rfl ?_
  refine v_puti F fk_M_93 pk_M_asked G63 rfl d_M_tells_2 ?_
  refine v_ns (fun σ1 eσ1 => ?_)
  refine v_iload_n F d_M_tells_5 rfl 2 rfl ?_
  refine v_iret F hr rfl d_M_tells_6 ?_
  exact ⟨rfl, by simp [*]⟩
abbrev b_M_rowAt : ByteArray := prog_14_method_14_code
abbrev y_M_rowAt : MethodName := ⟨"TakerBookModel", "rowAt", "(II)I"⟩
theorem d_M_rowAt_0 : decode b_M_rowAt 0 = .ok (.aload_n 0, 1) := by decide +kernel
theorem d_M_rowAt_1 : decode b_M_rowAt 1 = .ok (.getfield 20, 3) := by decide +kernel
theorem d_M_rowAt_4 : decode b_M_rowAt 4 = .ok (.bipush 40, 2) := by decide +kernel
theorem d_M_rowAt_6 : decode b_M_rowAt 6 = .ok (.iload_n 1, 1) := by decide +kernel
theorem d_M_rowAt_7 : decode b_M_rowAt 7 = .ok (.imul, 1) := by decide +kernel
theorem d_M_rowAt_8 : decode b_M_rowAt 8 = .ok (.iload_n 2, 1) := by decide +kernel
theorem d_M_rowAt_9 : decode b_M_rowAt 9 = .ok (.iadd, 1) := by decide +kernel
theorem d_M_rowAt_10 : decode b_M_rowAt 10 = .ok (.iaload, 1) := by decide +kernel
theorem d_M_rowAt_11 : decode b_M_rowAt 11 = .ok (.ireturn, 1) := by decide +kernel
theorem mo_M_rowAt : mok y_M_rowAt b_M_rowAt 3 (some .int) 2 := ⟨List.mem_of_getElem? (i := 1141) (by decide +kernel), ⟨by decide +kernel, by decide +kernel, by decide +kernel⟩, List.mem_of_getElem? (i := 86) (by decide +kernel), by decide⟩
set_option maxHeartbeats 4000000 in
theorem c_M_rowAt (l : Launch) (u : Un) (hA : Ap u) (σ : St) (a b : Nat) (h : 40 * a + b < 240) : MTi l u y_M_rowAt b_M_rowAt 3 .int 0 [.ref (u.2.1 63), .int (nI a), .int (nI b)] σ (fun ans σ' => σ.1 66 (40 * a + b) = ans ∧ σ = σ') := by
  refine MT_of hA rfl (by decide) (Nat.le_of_ble_eq_true rfl) (fun X hl F hr => ?_)
  subst hl
  refine v_to (ls' := [(0, .ref (u.2.1 63)), (1, .int (nI a)), (2, .int (nI b))]) rfl ?_
  refine v_aload_n F d_M_rowAt_0 rfl 0 rfl ?_
  refine v_getr (r := 66) F fk_M_20 G63 rfl d_M_rowAt_1 ?_
  refine v_bipush (v := 40) F d_M_rowAt_4 kb_40 ?_
  refine v_iload_n F d_M_rowAt_6 rfl 1 rfl ?_
  refine v_imul F d_M_rowAt_7 ?_
  refine v_te (y := nI (40 * a)) (pk_mul _ _) ?_
  refine v_iload_n F d_M_rowAt_8 rfl 2 rfl ?_
  refine v_iadd F d_M_rowAt_9 ?_
  refine v_te (y := nI (40 * a + b)) (nI_add _ _) ?_
  refine v_ial F (40 * a + b) G66 rfl (by omega) d_M_rowAt_10 ?_
  refine v_iret F hr rfl d_M_rowAt_11 ?_
  exact ⟨rfl, rfl⟩
abbrev b_M_asked : ByteArray := prog_14_method_9_code
abbrev y_M_asked : MethodName := ⟨"TakerBookModel", "asked", "()I"⟩
theorem d_M_asked_0 : decode b_M_asked 0 = .ok (.aload_n 0, 1) := by decide +kernel
theorem d_M_asked_1 : decode b_M_asked 1 = .ok (.getfield 93, 3) := by decide +kernel
theorem d_M_asked_4 : decode b_M_asked 4 = .ok (.ireturn, 1) := by decide +kernel
theorem mo_M_asked : mok y_M_asked b_M_asked 1 (some .int) 0 := ⟨List.mem_of_getElem? (i := 1114) (by decide +kernel), ⟨by decide +kernel, by decide +kernel, by decide +kernel⟩, List.mem_of_getElem? (i := 86) (by decide +kernel), by decide⟩
set_option maxHeartbeats 4000000 in
theorem c_M_asked (l : Launch) (u : Un) (hA : Ap u) (σ : St) : MTi l u y_M_asked b_M_asked 1 .int 0 [.ref (u.2.1 63)] σ (fun ans σ' => σ.1 63 2 = ans ∧ σ = σ') := by
  refine MT_of hA rfl (by decide) (Nat.le_of_ble_eq_true rfl) (fun X hl F hr => ?_)
  subst hl
  refine v_to (ls' := [(0, .ref (u.2.1 63))]) rfl ?_
  refine v_aload_n F d_M_asked_0 rfl 0 rfl ?_
  refine v_geti F fk_M_93 G63 rfl d_M_asked_1 ?_
  refine v_iret F hr rfl d_M_asked_4 ?_
  exact ⟨by simp_all, rfl⟩
abbrev b_M_finding : ByteArray := prog_14_method_6_code
abbrev y_M_finding : MethodName := ⟨"TakerBookModel", "finding", "()I"⟩
theorem d_M_finding_0 : decode b_M_finding 0 = .ok (.aload_n 0, 1) := by decide +kernel
theorem d_M_finding_1 : decode b_M_finding 1 = .ok (.getfield 85, 3) := by decide +kernel
theorem d_M_finding_4 : decode b_M_finding 4 = .ok (.ireturn, 1) := by decide +kernel
theorem mo_M_finding : mok y_M_finding b_M_finding 1 (some .int) 0 := ⟨List.mem_of_getElem? (i := 1103) (by decide +kernel), ⟨by decide +kernel, by decide +kernel, by decide +kernel⟩, List.mem_of_getElem? (i := 86) (by decide +kernel), by decide⟩
set_option maxHeartbeats 4000000 in
theorem c_M_finding (l : Launch) (u : Un) (hA : Ap u) (σ : St) : MTi l u y_M_finding b_M_finding 1 .int 0 [.ref (u.2.1 63)] σ (fun ans σ' => σ.1 63 0 = ans ∧ σ = σ') := by
  refine MT_of hA rfl (by decide) (Nat.le_of_ble_eq_true rfl) (fun X hl F hr => ?_)
  subst hl
  refine v_to (ls' := [(0, .ref (u.2.1 63))]) rfl ?_
  refine v_aload_n F d_M_finding_0 rfl 0 rfl ?_
  refine v_geti F fk_M_85 G63 rfl d_M_finding_1 ?_
  refine v_iret F hr rfl d_M_finding_4 ?_
  exact ⟨by simp_all, rfl⟩
abbrev b_M_upper : ByteArray := prog_14_method_11_code
abbrev y_M_upper : MethodName := ⟨"TakerBookModel", "upper", "()J"⟩
theorem d_M_upper_0 : decode b_M_upper 0 = .ok (.aload_n 0, 1) := by decide +kernel
theorem d_M_upper_1 : decode b_M_upper 1 = .ok (.getfield 96, 3) := by decide +kernel
theorem d_M_upper_4 : decode b_M_upper 4 = .ok (.lreturn, 1) := by decide +kernel
theorem mo_M_upper : mok y_M_upper b_M_upper 1 (some .long) 0 := ⟨List.mem_of_getElem? (i := 1118) (by decide +kernel), ⟨by decide +kernel, by decide +kernel, by decide +kernel⟩, List.mem_of_getElem? (i := 86) (by decide +kernel), by decide⟩
set_option maxHeartbeats 4000000 in
theorem c_M_upper (l : Launch) (u : Un) (hA : Ap u) (σ : St) : MTl l u y_M_upper b_M_upper 1 0 [.ref (u.2.1 63)] σ (fun ans σ' => σ.2 63 3 = ans ∧ σ = σ') := by
  refine MT_of hA rfl (by decide) (Nat.le_of_ble_eq_true rfl) (fun X hl F hr => ?_)
  subst hl
  refine v_to (ls' := [(0, .ref (u.2.1 63))]) rfl ?_
  refine v_aload_n F d_M_upper_0 rfl 0 rfl ?_
  refine v_getl F fk_M_96 G63 rfl d_M_upper_1 ?_
  refine v_lret F hr d_M_upper_4 ?_
  exact ⟨by simp_all, rfl⟩
abbrev b_M_lower : ByteArray := prog_14_method_12_code
abbrev y_M_lower : MethodName := ⟨"TakerBookModel", "lower", "()J"⟩
theorem d_M_lower_0 : decode b_M_lower 0 = .ok (.aload_n 0, 1) := by decide +kernel
theorem d_M_lower_1 : decode b_M_lower 1 = .ok (.getfield 13, 3) := by decide +kernel
theorem d_M_lower_4 : decode b_M_lower 4 = .ok (.lreturn, 1) := by decide +kernel
theorem mo_M_lower : mok y_M_lower b_M_lower 1 (some .long) 0 := ⟨List.mem_of_getElem? (i := 1122) (by decide +kernel), ⟨by decide +kernel, by decide +kernel, by decide +kernel⟩, List.mem_of_getElem? (i := 86) (by decide +kernel), by decide⟩
set_option maxHeartbeats 4000000 in
theorem c_M_lower (l : Launch) (u : Un) (hA : Ap u) (σ : St) : MTl l u y_M_lower b_M_lower 1 0 [.ref (u.2.1 63)] σ (fun ans σ' => σ.2 63 4 = ans ∧ σ = σ') := by
  refine MT_of hA rfl (by decide) (Nat.le_of_ble_eq_true rfl) (fun X hl F hr => ?_)
  subst hl
  refine v_to (ls' := [(0, .ref (u.2.1 63))]) rfl ?_
  refine v_aload_n F d_M_lower_0 rfl 0 rfl ?_
  refine v_getl F fk_M_13 G63 rfl d_M_lower_1 ?_
  refine v_lret F hr d_M_lower_4 ?_
  exact ⟨by simp_all, rfl⟩
abbrev b_M_lay : ByteArray := prog_14_method_16_code
abbrev y_M_lay : MethodName := ⟨"TakerBookModel", "lay", "(III)I"⟩
theorem d_M_lay_0 : decode b_M_lay 0 = .ok (.iload_n 1, 1) := by decide +kernel
theorem d_M_lay_1 : decode b_M_lay 1 = .ok (.invokestatic 99, 3) := by decide +kernel
theorem d_M_lay_4 : decode b_M_lay 4 = .ok (.ifCond .ne 5, 3) := by decide +kernel
theorem d_M_lay_7 : decode b_M_lay 7 = .ok (.iconst (-1), 1) := by decide +kernel
theorem d_M_lay_8 : decode b_M_lay 8 = .ok (.ireturn, 1) := by decide +kernel
theorem d_M_lay_9 : decode b_M_lay 9 = .ok (.aload_n 0, 1) := by decide +kernel
theorem d_M_lay_10 : decode b_M_lay 10 = .ok (.getfield 17, 3) := by decide +kernel
theorem d_M_lay_13 : decode b_M_lay 13 = .ok (.iload_n 1, 1) := by decide +kernel
theorem d_M_lay_14 : decode b_M_lay 14 = .ok (.iaload, 1) := by decide +kernel
theorem d_M_lay_15 : decode b_M_lay 15 = .ok (.ifCond .ge 9, 3) := by decide +kernel
theorem d_M_lay_18 : decode b_M_lay 18 = .ok (.aload_n 0, 1) := by decide +kernel
theorem d_M_lay_19 : decode b_M_lay 19 = .ok (.iconst 1, 1) := by decide +kernel
theorem d_M_lay_20 : decode b_M_lay 20 = .ok (.invokevirtual 103, 3) := by decide +kernel
theorem d_M_lay_23 : decode b_M_lay 23 = .ok (.ireturn, 1) := by decide +kernel
theorem d_M_lay_24 : decode b_M_lay 24 = .ok (.iload_n 2, 1) := by decide +kernel
theorem d_M_lay_25 : decode b_M_lay 25 = .ok (.iconst 0, 1) := by decide +kernel
theorem d_M_lay_26 : decode b_M_lay 26 = .ok (.aload_n 0, 1) := by decide +kernel
theorem d_M_lay_27 : decode b_M_lay 27 = .ok (.getfield 17, 3) := by decide +kernel
theorem d_M_lay_30 : decode b_M_lay 30 = .ok (.iload_n 1, 1) := by decide +kernel
theorem d_M_lay_31 : decode b_M_lay 31 = .ok (.iaload, 1) := by decide +kernel
theorem d_M_lay_32 : decode b_M_lay 32 = .ok (.iconst 1, 1) := by decide +kernel
theorem d_M_lay_33 : decode b_M_lay 33 = .ok (.isub, 1) := by decide +kernel
theorem d_M_lay_34 : decode b_M_lay 34 = .ok (.invokestatic 89, 3) := by decide +kernel
theorem d_M_lay_37 : decode b_M_lay 37 = .ok (.ifCond .ne 9, 3) := by decide +kernel
theorem d_M_lay_40 : decode b_M_lay 40 = .ok (.aload_n 0, 1) := by decide +kernel
theorem d_M_lay_41 : decode b_M_lay 41 = .ok (.iconst 2, 1) := by decide +kernel
theorem d_M_lay_42 : decode b_M_lay 42 = .ok (.invokevirtual 103, 3) := by decide +kernel
theorem d_M_lay_45 : decode b_M_lay 45 = .ok (.ireturn, 1) := by decide +kernel
theorem d_M_lay_46 : decode b_M_lay 46 = .ok (.aload_n 0, 1) := by decide +kernel
theorem d_M_lay_47 : decode b_M_lay 47 = .ok (.iload_n 1, 1) := by decide +kernel
theorem d_M_lay_48 : decode b_M_lay 48 = .ok (.iload_n 2, 1) := by decide +kernel
theorem d_M_lay_49 : decode b_M_lay 49 = .ok (.invokevirtual 107, 3) := by decide +kernel
theorem d_M_lay_52 : decode b_M_lay 52 = .ok (.istore 4, 2) := by decide +kernel
theorem d_M_lay_54 : decode b_M_lay 54 = .ok (.aload_n 0, 1) := by decide +kernel
theorem d_M_lay_55 : decode b_M_lay 55 = .ok (.getfield 20, 3) := by decide +kernel
theorem d_M_lay_58 : decode b_M_lay 58 = .ok (.bipush 40, 2) := by decide +kernel
theorem d_M_lay_60 : decode b_M_lay 60 = .ok (.iload_n 1, 1) := by decide +kernel
theorem d_M_lay_61 : decode b_M_lay 61 = .ok (.imul, 1) := by decide +kernel
theorem d_M_lay_62 : decode b_M_lay 62 = .ok (.iload_n 2, 1) := by decide +kernel
theorem d_M_lay_63 : decode b_M_lay 63 = .ok (.iadd, 1) := by decide +kernel
theorem d_M_lay_64 : decode b_M_lay 64 = .ok (.iload_n 3, 1) := by decide +kernel
theorem d_M_lay_65 : decode b_M_lay 65 = .ok (.iastore, 1) := by decide +kernel
theorem d_M_lay_66 : decode b_M_lay 66 = .ok (.aload_n 0, 1) := by decide +kernel
theorem d_M_lay_67 : decode b_M_lay 67 = .ok (.iload 4, 2) := by decide +kernel
theorem d_M_lay_69 : decode b_M_lay 69 = .ok (.iconst 1, 1) := by decide +kernel
theorem d_M_lay_70 : decode b_M_lay 70 = .ok (.invokevirtual 111, 3) := by decide +kernel
theorem d_M_lay_73 : decode b_M_lay 73 = .ok (.ireturn, 1) := by decide +kernel
theorem mo_M_lay : mok y_M_lay b_M_lay 5 (some .int) 3 := ⟨List.mem_of_getElem? (i := 1137) (by decide +kernel), ⟨by decide +kernel, by decide +kernel, by decide +kernel⟩, List.mem_of_getElem? (i := 86) (by decide +kernel), by decide⟩
set_option maxHeartbeats 4000000 in
theorem c_M_lay (l : Launch) (u : Un) (hA : Ap u) (σ : St) (r i v : Int32) (hI : mRowsOk σ) : MTi l u y_M_lay b_M_lay 5 .int 2 [.ref (u.2.1 63), .int r, .int i, .int v] σ (fun ans σ' => (ans, σ') = mLay σ r i v) := by
  refine MT_of hA rfl (by decide) (Nat.le_of_ble_eq_true rfl) (fun X hl F hr => ?_)
  subst hl
  refine v_to (ls' := [(0, .ref (u.2.1 63)), (1, .int r), (2, .int i), (3, .int v)]) rfl ?_
  refine v_iload_n F d_M_lay_0 rfl 1 rfl ?_
  refine v_runi (r_S F (c_M_isRow X.2.1 u hA σ r ) mo_M_isRow st_M_99 (by decide) rfl (Nat.le_of_ble_eq_true rfl) d_M_lay_1) (fun r1 σ2 q3 => ?_)
  obtain ⟨rfl, rfl⟩ := q3
  refine v_bf F 9 d_M_lay_4 rfl (fun h4 => ?_) (fun h4 => ?_)
  · skip
    obtain ⟨a, ha, xa, rfl⟩ := inR_nat (N := 6) h4 rfl (by decide)
    refine v_aload_n F d_M_lay_9 rfl 0 rfl ?_
    refine v_getr (r := 65) F fk_M_17 G63 rfl d_M_lay_10 ?_
    refine v_iload_n F d_M_lay_13 rfl 1 rfl ?_
    refine v_ial F a G65 rfl (by omega) d_M_lay_14 ?_
    refine v_if_ge F 24 d_M_lay_15 rfl (fun h15 => ?_) (fun h15 => ?_)
    · skip
      refine v_iload_n F d_M_lay_24 rfl 2 rfl ?_
      refine v_iconst (v := 0) F d_M_lay_25 ki_0 ?_
      refine v_aload_n F d_M_lay_26 rfl 0 rfl ?_
      refine v_getr (r := 65) F fk_M_17 G63 rfl d_M_lay_27 ?_
      refine v_iload_n F d_M_lay_30 rfl 1 rfl ?_
      refine v_ial F a G65 rfl (by omega) d_M_lay_31 ?_
      refine v_iconst (v := 1) F d_M_lay_32 ki_1 ?_
      refine v_isub F d_M_lay_33 ?_
      refine v_runi (r_S F (c_M_in X.2.1 u hA σ i 0 ((σ.1 65 a) - 1) ) mo_M_in st_M_89 (by decide) rfl (Nat.le_of_ble_eq_true rfl) d_M_lay_34) (fun r4 σ5 q6 => ?_)
      obtain ⟨rfl, rfl⟩ := q6
      refine v_bf F 46 d_M_lay_37 rfl (fun h37 => ?_) (fun h37 => ?_)
      · skip
        obtain ⟨b, hb, xb, rfl⟩ := pred_nat (N := 40) h15 (hI _ ha) (by decide) h37
        refine v_aload_n F d_M_lay_46 rfl 0 rfl ?_
        refine v_iload_n F d_M_lay_47 rfl 1 rfl ?_
        refine v_iload_n F d_M_lay_48 rfl 2 rfl ?_
        refine v_runi (r_V F (c_M_rowAt X.2.1 u hA σ a b (by omega)) mo_M_rowAt st_M_107 rc_63 (by decide) rfl (Nat.le_of_ble_eq_true rfl) d_M_lay_49) (fun r7 σ8 q9 => ?_)
        obtain ⟨rfl, rfl⟩ := q9
        refine v_ni (fun x10 ex10 => ?_)
        refine v_istore (ls' := [(4, .int x10), (0, .ref (u.2.1 63)), (1, .int (nI a)), (2, .int (nI b)), (3, .int v)]) F d_M_lay_52 (by decide) rfl ?_
        refine v_aload_n F d_M_lay_54 rfl 1 rfl ?_
        refine v_getr (r := 66) F fk_M_20 G63 rfl d_M_lay_55 ?_
        refine v_bipush (v := 40) F d_M_lay_58 kb_40 ?_
        refine v_iload_n F d_M_lay_60 rfl 2 rfl ?_
        refine v_imul F d_M_lay_61 ?_
        refine v_te (y := nI (40 * a)) (pk_mul _ _) ?_
        refine v_iload_n F d_M_lay_62 rfl 3 rfl ?_
        refine v_iadd F d_M_lay_63 ?_
        refine v_te (y := nI (40 * a + b)) (nI_add _ _) ?_
        refine v_iload_n F d_M_lay_64 rfl 4 rfl ?_
        refine v_ias F (40 * a + b) G66 rfl (by omega) d_M_lay_65 ?_
        refine v_ns (fun σ11 eσ11 => ?_)
        refine v_aload_n F d_M_lay_66 rfl 1 rfl ?_
        refine v_iload F d_M_lay_67 0 rfl ?_
        refine v_iconst (v := 1) F d_M_lay_69 ki_1 ?_
        refine v_runi (r_V F (c_M_tells X.2.1 u hA σ11 x10 1) mo_M_tells st_M_111 rc_63 (by decide) rfl (Nat.le_of_ble_eq_true rfl) d_M_lay_70) (fun r12 σ13 q14 => ?_)
        obtain ⟨rfl, eσ13⟩ := q14
        refine v_iret F hr rfl d_M_lay_73 ?_
        first | (simp_all [mLay, inR]; done) | grind [mLay]
      · skip
        refine v_aload_n F d_M_lay_40 rfl 0 rfl ?_
        refine v_iconst (v := 2) F d_M_lay_41 ki_2 ?_
        refine v_runi (r_V F (c_M_meets X.2.1 u hA σ 2 (by decide)) mo_M_meets st_M_103 rc_63 (by decide) rfl (Nat.le_of_ble_eq_true rfl) d_M_lay_42) (fun r15 σ16 q17 => ?_)
        obtain ⟨rfl, eσ16⟩ := q17
        refine v_iret F hr rfl d_M_lay_45 ?_
        first | (simp_all [mLay, inR]; done) | grind [mLay]
    · skip
      refine v_aload_n F d_M_lay_18 rfl 0 rfl ?_
      refine v_iconst (v := 1) F d_M_lay_19 ki_1 ?_
      refine v_runi (r_V F (c_M_meets X.2.1 u hA σ 1 (by decide)) mo_M_meets st_M_103 rc_63 (by decide) rfl (Nat.le_of_ble_eq_true rfl) d_M_lay_20) (fun r18 σ19 q20 => ?_)
      obtain ⟨rfl, eσ19⟩ := q20
      refine v_iret F hr rfl d_M_lay_23 ?_
      first | (simp_all [mLay, inR]; done) | grind [mLay]
  · skip
    refine v_iconst (v := (-1)) F d_M_lay_7 ki_m1 ?_
    refine v_iret F hr rfl d_M_lay_8 ?_
    first | (simp_all [mLay, inR]; done) | grind [mLay]
abbrev b_M_at : ByteArray := prog_14_method_17_code
abbrev y_M_at : MethodName := ⟨"TakerBookModel", "at", "(II)I"⟩
theorem d_M_at_0 : decode b_M_at 0 = .ok (.iload_n 1, 1) := by decide +kernel
theorem d_M_at_1 : decode b_M_at 1 = .ok (.invokestatic 99, 3) := by decide +kernel
theorem d_M_at_4 : decode b_M_at 4 = .ok (.ifCond .ne 5, 3) := by decide +kernel
theorem d_M_at_7 : decode b_M_at 7 = .ok (.iconst (-1), 1) := by decide +kernel
theorem d_M_at_8 : decode b_M_at 8 = .ok (.ireturn, 1) := by decide +kernel
theorem d_M_at_9 : decode b_M_at 9 = .ok (.aload_n 0, 1) := by decide +kernel
theorem d_M_at_10 : decode b_M_at 10 = .ok (.getfield 17, 3) := by decide +kernel
theorem d_M_at_13 : decode b_M_at 13 = .ok (.iload_n 1, 1) := by decide +kernel
theorem d_M_at_14 : decode b_M_at 14 = .ok (.iaload, 1) := by decide +kernel
theorem d_M_at_15 : decode b_M_at 15 = .ok (.ifCond .ge 9, 3) := by decide +kernel
theorem d_M_at_18 : decode b_M_at 18 = .ok (.aload_n 0, 1) := by decide +kernel
theorem d_M_at_19 : decode b_M_at 19 = .ok (.iconst 1, 1) := by decide +kernel
theorem d_M_at_20 : decode b_M_at 20 = .ok (.invokevirtual 103, 3) := by decide +kernel
theorem d_M_at_23 : decode b_M_at 23 = .ok (.ireturn, 1) := by decide +kernel
theorem d_M_at_24 : decode b_M_at 24 = .ok (.iload_n 2, 1) := by decide +kernel
theorem d_M_at_25 : decode b_M_at 25 = .ok (.iconst 0, 1) := by decide +kernel
theorem d_M_at_26 : decode b_M_at 26 = .ok (.aload_n 0, 1) := by decide +kernel
theorem d_M_at_27 : decode b_M_at 27 = .ok (.getfield 17, 3) := by decide +kernel
theorem d_M_at_30 : decode b_M_at 30 = .ok (.iload_n 1, 1) := by decide +kernel
theorem d_M_at_31 : decode b_M_at 31 = .ok (.iaload, 1) := by decide +kernel
theorem d_M_at_32 : decode b_M_at 32 = .ok (.iconst 1, 1) := by decide +kernel
theorem d_M_at_33 : decode b_M_at 33 = .ok (.isub, 1) := by decide +kernel
theorem d_M_at_34 : decode b_M_at 34 = .ok (.invokestatic 89, 3) := by decide +kernel
theorem d_M_at_37 : decode b_M_at 37 = .ok (.ifCond .eq 17, 3) := by decide +kernel
theorem d_M_at_40 : decode b_M_at 40 = .ok (.aload_n 0, 1) := by decide +kernel
theorem d_M_at_41 : decode b_M_at 41 = .ok (.aload_n 0, 1) := by decide +kernel
theorem d_M_at_42 : decode b_M_at 42 = .ok (.iload_n 1, 1) := by decide +kernel
theorem d_M_at_43 : decode b_M_at 43 = .ok (.iload_n 2, 1) := by decide +kernel
theorem d_M_at_44 : decode b_M_at 44 = .ok (.invokevirtual 107, 3) := by decide +kernel
theorem d_M_at_47 : decode b_M_at 47 = .ok (.iconst 1, 1) := by decide +kernel
theorem d_M_at_48 : decode b_M_at 48 = .ok (.invokevirtual 111, 3) := by decide +kernel
theorem d_M_at_51 : decode b_M_at 51 = .ok (.goto 8, 3) := by decide +kernel
theorem d_M_at_54 : decode b_M_at 54 = .ok (.aload_n 0, 1) := by decide +kernel
theorem d_M_at_55 : decode b_M_at 55 = .ok (.iconst 2, 1) := by decide +kernel
theorem d_M_at_56 : decode b_M_at 56 = .ok (.invokevirtual 103, 3) := by decide +kernel
theorem d_M_at_59 : decode b_M_at 59 = .ok (.ireturn, 1) := by decide +kernel
theorem mo_M_at : mok y_M_at b_M_at 3 (some .int) 2 := ⟨List.mem_of_getElem? (i := 1149) (by decide +kernel), ⟨by decide +kernel, by decide +kernel, by decide +kernel⟩, List.mem_of_getElem? (i := 86) (by decide +kernel), by decide⟩
set_option maxHeartbeats 4000000 in
theorem c_M_at (l : Launch) (u : Un) (hA : Ap u) (σ : St) (r i : Int32) (hI : mRowsOk σ) : MTi l u y_M_at b_M_at 3 .int 2 [.ref (u.2.1 63), .int r, .int i] σ (fun ans σ' => (ans, σ') = mAt σ r i) := by
  refine MT_of hA rfl (by decide) (Nat.le_of_ble_eq_true rfl) (fun X hl F hr => ?_)
  subst hl
  refine v_to (ls' := [(0, .ref (u.2.1 63)), (1, .int r), (2, .int i)]) rfl ?_
  refine v_iload_n F d_M_at_0 rfl 1 rfl ?_
  refine v_runi (r_S F (c_M_isRow X.2.1 u hA σ r ) mo_M_isRow st_M_99 (by decide) rfl (Nat.le_of_ble_eq_true rfl) d_M_at_1) (fun r1 σ2 q3 => ?_)
  obtain ⟨rfl, rfl⟩ := q3
  refine v_bf F 9 d_M_at_4 rfl (fun h4 => ?_) (fun h4 => ?_)
  · skip
    obtain ⟨a, ha, xa, rfl⟩ := inR_nat (N := 6) h4 rfl (by decide)
    refine v_aload_n F d_M_at_9 rfl 0 rfl ?_
    refine v_getr (r := 65) F fk_M_17 G63 rfl d_M_at_10 ?_
    refine v_iload_n F d_M_at_13 rfl 1 rfl ?_
    refine v_ial F a G65 rfl (by omega) d_M_at_14 ?_
    refine v_if_ge F 24 d_M_at_15 rfl (fun h15 => ?_) (fun h15 => ?_)
    · skip
      refine v_iload_n F d_M_at_24 rfl 2 rfl ?_
      refine v_iconst (v := 0) F d_M_at_25 ki_0 ?_
      refine v_aload_n F d_M_at_26 rfl 0 rfl ?_
      refine v_getr (r := 65) F fk_M_17 G63 rfl d_M_at_27 ?_
      refine v_iload_n F d_M_at_30 rfl 1 rfl ?_
      refine v_ial F a G65 rfl (by omega) d_M_at_31 ?_
      refine v_iconst (v := 1) F d_M_at_32 ki_1 ?_
      refine v_isub F d_M_at_33 ?_
      refine v_runi (r_S F (c_M_in X.2.1 u hA σ i 0 ((σ.1 65 a) - 1) ) mo_M_in st_M_89 (by decide) rfl (Nat.le_of_ble_eq_true rfl) d_M_at_34) (fun r4 σ5 q6 => ?_)
      obtain ⟨rfl, rfl⟩ := q6
      refine v_bt F 54 d_M_at_37 rfl (fun h37 => ?_) (fun h37 => ?_)
      · skip
        refine v_aload_n F d_M_at_54 rfl 0 rfl ?_
        refine v_iconst (v := 2) F d_M_at_55 ki_2 ?_
        refine v_runi (r_V F (c_M_meets X.2.1 u hA σ 2 (by decide)) mo_M_meets st_M_103 rc_63 (by decide) rfl (Nat.le_of_ble_eq_true rfl) d_M_at_56) (fun r7 σ8 q9 => ?_)
        obtain ⟨rfl, eσ8⟩ := q9
        refine v_iret F hr rfl d_M_at_59 ?_
        first | (simp_all [mAt, inR]; done) | grind [mAt]
      · skip
        obtain ⟨b, hb, xb, rfl⟩ := pred_nat (N := 40) h15 (hI _ ha) (by decide) h37
        refine v_aload_n F d_M_at_40 rfl 0 rfl ?_
        refine v_aload_n F d_M_at_41 rfl 0 rfl ?_
        refine v_iload_n F d_M_at_42 rfl 1 rfl ?_
        refine v_iload_n F d_M_at_43 rfl 2 rfl ?_
        refine v_runi (r_V F (c_M_rowAt X.2.1 u hA σ a b (by omega)) mo_M_rowAt st_M_107 rc_63 (by decide) rfl (Nat.le_of_ble_eq_true rfl) d_M_at_44) (fun r10 σ11 q12 => ?_)
        obtain ⟨rfl, rfl⟩ := q12
        refine v_iconst (v := 1) F d_M_at_47 ki_1 ?_
        refine v_runi (r_V F (c_M_tells X.2.1 u hA σ (σ.1 66 (40 * a + b)) 1) mo_M_tells st_M_111 rc_63 (by decide) rfl (Nat.le_of_ble_eq_true rfl) d_M_at_48) (fun r13 σ14 q15 => ?_)
        obtain ⟨rfl, eσ14⟩ := q15
        refine v_goto F 59 d_M_at_51 rfl ?_
        refine v_iret F hr rfl d_M_at_59 ?_
        first | (simp_all [mAt, inR]; done) | grind [mAt]
    · skip
      refine v_aload_n F d_M_at_18 rfl 0 rfl ?_
      refine v_iconst (v := 1) F d_M_at_19 ki_1 ?_
      refine v_runi (r_V F (c_M_meets X.2.1 u hA σ 1 (by decide)) mo_M_meets st_M_103 rc_63 (by decide) rfl (Nat.le_of_ble_eq_true rfl) d_M_at_20) (fun r16 σ17 q18 => ?_)
      obtain ⟨rfl, eσ17⟩ := q18
      refine v_iret F hr rfl d_M_at_23 ?_
      first | (simp_all [mAt, inR]; done) | grind [mAt]
  · skip
    refine v_iconst (v := (-1)) F d_M_at_7 ki_m1 ?_
    refine v_iret F hr rfl d_M_at_8 ?_
    first | (simp_all [mAt, inR]; done) | grind [mAt]
abbrev b_M_tear : ByteArray := prog_14_method_18_code
abbrev y_M_tear : MethodName := ⟨"TakerBookModel", "tear", "(I)I"⟩
theorem d_M_tear_0 : decode b_M_tear 0 = .ok (.iload_n 1, 1) := by decide +kernel
theorem d_M_tear_1 : decode b_M_tear 1 = .ok (.invokestatic 99, 3) := by decide +kernel
theorem d_M_tear_4 : decode b_M_tear 4 = .ok (.ifCond .ne 5, 3) := by decide +kernel
theorem d_M_tear_7 : decode b_M_tear 7 = .ok (.iconst (-1), 1) := by decide +kernel
theorem d_M_tear_8 : decode b_M_tear 8 = .ok (.ireturn, 1) := by decide +kernel
theorem d_M_tear_9 : decode b_M_tear 9 = .ok (.aload_n 0, 1) := by decide +kernel
theorem d_M_tear_10 : decode b_M_tear 10 = .ok (.getfield 17, 3) := by decide +kernel
theorem d_M_tear_13 : decode b_M_tear 13 = .ok (.iload_n 1, 1) := by decide +kernel
theorem d_M_tear_14 : decode b_M_tear 14 = .ok (.iaload, 1) := by decide +kernel
theorem d_M_tear_15 : decode b_M_tear 15 = .ok (.ifCond .ge 9, 3) := by decide +kernel
theorem d_M_tear_18 : decode b_M_tear 18 = .ok (.aload_n 0, 1) := by decide +kernel
theorem d_M_tear_19 : decode b_M_tear 19 = .ok (.iconst 1, 1) := by decide +kernel
theorem d_M_tear_20 : decode b_M_tear 20 = .ok (.invokevirtual 103, 3) := by decide +kernel
theorem d_M_tear_23 : decode b_M_tear 23 = .ok (.ireturn, 1) := by decide +kernel
theorem d_M_tear_24 : decode b_M_tear 24 = .ok (.aload_n 0, 1) := by decide +kernel
theorem d_M_tear_25 : decode b_M_tear 25 = .ok (.getfield 17, 3) := by decide +kernel
theorem d_M_tear_28 : decode b_M_tear 28 = .ok (.iload_n 1, 1) := by decide +kernel
theorem d_M_tear_29 : decode b_M_tear 29 = .ok (.iconst (-1), 1) := by decide +kernel
theorem d_M_tear_30 : decode b_M_tear 30 = .ok (.iastore, 1) := by decide +kernel
theorem d_M_tear_31 : decode b_M_tear 31 = .ok (.iconst 1, 1) := by decide +kernel
theorem d_M_tear_32 : decode b_M_tear 32 = .ok (.ireturn, 1) := by decide +kernel
theorem mo_M_tear : mok y_M_tear b_M_tear 2 (some .int) 1 := ⟨List.mem_of_getElem? (i := 1153) (by decide +kernel), ⟨by decide +kernel, by decide +kernel, by decide +kernel⟩, List.mem_of_getElem? (i := 86) (by decide +kernel), by decide⟩
set_option maxHeartbeats 4000000 in
theorem c_M_tear (l : Launch) (u : Un) (hA : Ap u) (σ : St) (r : Int32) : MTi l u y_M_tear b_M_tear 2 .int 2 [.ref (u.2.1 63), .int r] σ (fun ans σ' => (ans, σ') = mTear σ r) := by
  refine MT_of hA rfl (by decide) (Nat.le_of_ble_eq_true rfl) (fun X hl F hr => ?_)
  subst hl
  refine v_to (ls' := [(0, .ref (u.2.1 63)), (1, .int r)]) rfl ?_
  refine v_iload_n F d_M_tear_0 rfl 1 rfl ?_
  refine v_runi (r_S F (c_M_isRow X.2.1 u hA σ r ) mo_M_isRow st_M_99 (by decide) rfl (Nat.le_of_ble_eq_true rfl) d_M_tear_1) (fun r1 σ2 q3 => ?_)
  obtain ⟨rfl, rfl⟩ := q3
  refine v_bf F 9 d_M_tear_4 rfl (fun h4 => ?_) (fun h4 => ?_)
  · skip
    obtain ⟨a, ha, xa, rfl⟩ := inR_nat (N := 6) h4 rfl (by decide)
    refine v_aload_n F d_M_tear_9 rfl 0 rfl ?_
    refine v_getr (r := 65) F fk_M_17 G63 rfl d_M_tear_10 ?_
    refine v_iload_n F d_M_tear_13 rfl 1 rfl ?_
    refine v_ial F a G65 rfl (by omega) d_M_tear_14 ?_
    refine v_if_ge F 24 d_M_tear_15 rfl (fun h15 => ?_) (fun h15 => ?_)
    · skip
      refine v_aload_n F d_M_tear_24 rfl 0 rfl ?_
      refine v_getr (r := 65) F fk_M_17 G63 rfl d_M_tear_25 ?_
      refine v_iload_n F d_M_tear_28 rfl 1 rfl ?_
      refine v_iconst (v := (-1)) F d_M_tear_29 ki_m1 ?_
      refine v_ias F a G65 rfl (by omega) d_M_tear_30 ?_
      refine v_ns (fun σ4 eσ4 => ?_)
      refine v_iconst (v := 1) F d_M_tear_31 ki_1 ?_
      refine v_iret F hr rfl d_M_tear_32 ?_
      first | (simp_all [mTear, inR]; done) | grind [mTear]
    · skip
      refine v_aload_n F d_M_tear_18 rfl 0 rfl ?_
      refine v_iconst (v := 1) F d_M_tear_19 ki_1 ?_
      refine v_runi (r_V F (c_M_meets X.2.1 u hA σ 1 (by decide)) mo_M_meets st_M_103 rc_63 (by decide) rfl (Nat.le_of_ble_eq_true rfl) d_M_tear_20) (fun r5 σ6 q7 => ?_)
      obtain ⟨rfl, eσ6⟩ := q7
      refine v_iret F hr rfl d_M_tear_23 ?_
      first | (simp_all [mTear, inR]; done) | grind [mTear]
  · skip
    refine v_iconst (v := (-1)) F d_M_tear_7 ki_m1 ?_
    refine v_iret F hr rfl d_M_tear_8 ?_
    first | (simp_all [mTear, inR]; done) | grind [mTear]
abbrev b_M_put : ByteArray := prog_14_method_23_code
abbrev y_M_put : MethodName := ⟨"TakerBookModel", "put", "(III)I"⟩
theorem d_M_put_0 : decode b_M_put 0 = .ok (.iload_n 1, 1) := by decide +kernel
theorem d_M_put_1 : decode b_M_put 1 = .ok (.invokestatic 114, 3) := by decide +kernel
theorem d_M_put_4 : decode b_M_put 4 = .ok (.ifCond .ne 5, 3) := by decide +kernel
theorem d_M_put_7 : decode b_M_put 7 = .ok (.iconst (-1), 1) := by decide +kernel
theorem d_M_put_8 : decode b_M_put 8 = .ok (.ireturn, 1) := by decide +kernel
theorem d_M_put_9 : decode b_M_put 9 = .ok (.aload_n 0, 1) := by decide +kernel
theorem d_M_put_10 : decode b_M_put 10 = .ok (.getfield 26, 3) := by decide +kernel
theorem d_M_put_13 : decode b_M_put 13 = .ok (.iload_n 1, 1) := by decide +kernel
theorem d_M_put_14 : decode b_M_put 14 = .ok (.iaload, 1) := by decide +kernel
theorem d_M_put_15 : decode b_M_put 15 = .ok (.ifCond .ge 9, 3) := by decide +kernel
theorem d_M_put_18 : decode b_M_put 18 = .ok (.aload_n 0, 1) := by decide +kernel
theorem d_M_put_19 : decode b_M_put 19 = .ok (.iconst 1, 1) := by decide +kernel
theorem d_M_put_20 : decode b_M_put 20 = .ok (.invokevirtual 103, 3) := by decide +kernel
theorem d_M_put_23 : decode b_M_put 23 = .ok (.ireturn, 1) := by decide +kernel
theorem d_M_put_24 : decode b_M_put 24 = .ok (.iload_n 2, 1) := by decide +kernel
theorem d_M_put_25 : decode b_M_put 25 = .ok (.iconst 0, 1) := by decide +kernel
theorem d_M_put_26 : decode b_M_put 26 = .ok (.aload_n 0, 1) := by decide +kernel
theorem d_M_put_27 : decode b_M_put 27 = .ok (.getfield 26, 3) := by decide +kernel
theorem d_M_put_30 : decode b_M_put 30 = .ok (.iload_n 1, 1) := by decide +kernel
theorem d_M_put_31 : decode b_M_put 31 = .ok (.iaload, 1) := by decide +kernel
theorem d_M_put_32 : decode b_M_put 32 = .ok (.iconst 1, 1) := by decide +kernel
theorem d_M_put_33 : decode b_M_put 33 = .ok (.isub, 1) := by decide +kernel
theorem d_M_put_34 : decode b_M_put 34 = .ok (.invokestatic 89, 3) := by decide +kernel
theorem d_M_put_37 : decode b_M_put 37 = .ok (.ifCond .ne 9, 3) := by decide +kernel
theorem d_M_put_40 : decode b_M_put 40 = .ok (.aload_n 0, 1) := by decide +kernel
theorem d_M_put_41 : decode b_M_put 41 = .ok (.iconst 2, 1) := by decide +kernel
theorem d_M_put_42 : decode b_M_put 42 = .ok (.invokevirtual 103, 3) := by decide +kernel
theorem d_M_put_45 : decode b_M_put 45 = .ok (.ireturn, 1) := by decide +kernel
theorem d_M_put_46 : decode b_M_put 46 = .ok (.aload_n 0, 1) := by decide +kernel
theorem d_M_put_47 : decode b_M_put 47 = .ok (.getfield 29, 3) := by decide +kernel
theorem d_M_put_50 : decode b_M_put 50 = .ok (.bipush 60, 2) := by decide +kernel
theorem d_M_put_52 : decode b_M_put 52 = .ok (.iload_n 1, 1) := by decide +kernel
theorem d_M_put_53 : decode b_M_put 53 = .ok (.imul, 1) := by decide +kernel
theorem d_M_put_54 : decode b_M_put 54 = .ok (.iload_n 2, 1) := by decide +kernel
theorem d_M_put_55 : decode b_M_put 55 = .ok (.iadd, 1) := by decide +kernel
theorem d_M_put_56 : decode b_M_put 56 = .ok (.baload, 1) := by decide +kernel
theorem d_M_put_57 : decode b_M_put 57 = .ok (.istore 4, 2) := by decide +kernel
theorem d_M_put_59 : decode b_M_put 59 = .ok (.aload_n 0, 1) := by decide +kernel
theorem d_M_put_60 : decode b_M_put 60 = .ok (.getfield 29, 3) := by decide +kernel
theorem d_M_put_63 : decode b_M_put 63 = .ok (.bipush 60, 2) := by decide +kernel
theorem d_M_put_65 : decode b_M_put 65 = .ok (.iload_n 1, 1) := by decide +kernel
theorem d_M_put_66 : decode b_M_put 66 = .ok (.imul, 1) := by decide +kernel
theorem d_M_put_67 : decode b_M_put 67 = .ok (.iload_n 2, 1) := by decide +kernel
theorem d_M_put_68 : decode b_M_put 68 = .ok (.iadd, 1) := by decide +kernel
theorem d_M_put_69 : decode b_M_put 69 = .ok (.iload_n 3, 1) := by decide +kernel
theorem d_M_put_70 : decode b_M_put 70 = .ok (.i2b, 1) := by decide +kernel
theorem d_M_put_71 : decode b_M_put 71 = .ok (.bastore, 1) := by decide +kernel
theorem d_M_put_72 : decode b_M_put 72 = .ok (.sipush 1000, 3) := by decide +kernel
theorem d_M_put_75 : decode b_M_put 75 = .ok (.iload 4, 2) := by decide +kernel
theorem d_M_put_77 : decode b_M_put 77 = .ok (.iadd, 1) := by decide +kernel
theorem d_M_put_78 : decode b_M_put 78 = .ok (.ireturn, 1) := by decide +kernel
theorem mo_M_put : mok y_M_put b_M_put 5 (some .int) 3 := ⟨List.mem_of_getElem? (i := 1172) (by decide +kernel), ⟨by decide +kernel, by decide +kernel, by decide +kernel⟩, List.mem_of_getElem? (i := 86) (by decide +kernel), by decide⟩
set_option maxHeartbeats 4000000 in
theorem c_M_put (l : Launch) (u : Un) (hA : Ap u) (σ : St) (t i v : Int32) (hI : mTextsOk σ) : MTi l u y_M_put b_M_put 5 .int 2 [.ref (u.2.1 63), .int t, .int i, .int v] σ (fun ans σ' => (ans, σ') = mPut σ t i v) := by
  refine MT_of hA rfl (by decide) (Nat.le_of_ble_eq_true rfl) (fun X hl F hr => ?_)
  subst hl
  refine v_to (ls' := [(0, .ref (u.2.1 63)), (1, .int t), (2, .int i), (3, .int v)]) rfl ?_
  refine v_iload_n F d_M_put_0 rfl 1 rfl ?_
  refine v_runi (r_S F (c_M_isText X.2.1 u hA σ t ) mo_M_isText st_M_114 (by decide) rfl (Nat.le_of_ble_eq_true rfl) d_M_put_1) (fun r1 σ2 q3 => ?_)
  obtain ⟨rfl, rfl⟩ := q3
  refine v_bf F 9 d_M_put_4 rfl (fun h4 => ?_) (fun h4 => ?_)
  · skip
    obtain ⟨a, ha, xa, rfl⟩ := inR_nat (N := 4) h4 rfl (by decide)
    refine v_aload_n F d_M_put_9 rfl 0 rfl ?_
    refine v_getr (r := 68) F fk_M_26 G63 rfl d_M_put_10 ?_
    refine v_iload_n F d_M_put_13 rfl 1 rfl ?_
    refine v_ial F a G68 rfl (by omega) d_M_put_14 ?_
    refine v_if_ge F 24 d_M_put_15 rfl (fun h15 => ?_) (fun h15 => ?_)
    · skip
      refine v_iload_n F d_M_put_24 rfl 2 rfl ?_
      refine v_iconst (v := 0) F d_M_put_25 ki_0 ?_
      refine v_aload_n F d_M_put_26 rfl 0 rfl ?_
      refine v_getr (r := 68) F fk_M_26 G63 rfl d_M_put_27 ?_
      refine v_iload_n F d_M_put_30 rfl 1 rfl ?_
      refine v_ial F a G68 rfl (by omega) d_M_put_31 ?_
      refine v_iconst (v := 1) F d_M_put_32 ki_1 ?_
      refine v_isub F d_M_put_33 ?_
      refine v_runi (r_S F (c_M_in X.2.1 u hA σ i 0 ((σ.1 68 a) - 1) ) mo_M_in st_M_89 (by decide) rfl (Nat.le_of_ble_eq_true rfl) d_M_put_34) (fun r4 σ5 q6 => ?_)
      obtain ⟨rfl, rfl⟩ := q6
      refine v_bf F 46 d_M_put_37 rfl (fun h37 => ?_) (fun h37 => ?_)
      · skip
        obtain ⟨b, hb, xb, rfl⟩ := pred_nat (N := 60) h15 (hI _ ha) (by decide) h37
        refine v_aload_n F d_M_put_46 rfl 0 rfl ?_
        refine v_getr (r := 69) F fk_M_29 G63 rfl d_M_put_47 ?_
        refine v_bipush (v := 60) F d_M_put_50 kb_60 ?_
        refine v_iload_n F d_M_put_52 rfl 1 rfl ?_
        refine v_imul F d_M_put_53 ?_
        refine v_te (y := nI (60 * a)) (pk_mul _ _) ?_
        refine v_iload_n F d_M_put_54 rfl 2 rfl ?_
        refine v_iadd F d_M_put_55 ?_
        refine v_te (y := nI (60 * a + b)) (nI_add _ _) ?_
        refine v_bal F (60 * a + b) G69 rfl (by omega) d_M_put_56 ?_
        refine v_ni (fun x7 ex7 => ?_)
        refine v_istore (ls' := [(4, .int x7), (0, .ref (u.2.1 63)), (1, .int (nI a)), (2, .int (nI b)), (3, .int v)]) F d_M_put_57 (by decide) rfl ?_
        refine v_aload_n F d_M_put_59 rfl 1 rfl ?_
        refine v_getr (r := 69) F fk_M_29 G63 rfl d_M_put_60 ?_
        refine v_bipush (v := 60) F d_M_put_63 kb_60 ?_
        refine v_iload_n F d_M_put_65 rfl 2 rfl ?_
        refine v_imul F d_M_put_66 ?_
        refine v_te (y := nI (60 * a)) (pk_mul _ _) ?_
        refine v_iload_n F d_M_put_67 rfl 3 rfl ?_
        refine v_iadd F d_M_put_68 ?_
        refine v_te (y := nI (60 * a + b)) (nI_add _ _) ?_
        refine v_iload_n F d_M_put_69 rfl 4 rfl ?_
        refine v_i2b F d_M_put_70 ?_
        refine v_bas F (60 * a + b) G69 rfl (by omega) d_M_put_71 ?_
        refine v_ns (fun σ8 eσ8 => ?_)
        refine v_sipush (v := 1000) F d_M_put_72 ks_1000 ?_
        refine v_iload F d_M_put_75 0 rfl ?_
        refine v_iadd F d_M_put_77 ?_
        refine v_iret F hr rfl d_M_put_78 ?_
        first | (simp_all [mPut, inR]; done) | grind [mPut]
      · skip
        refine v_aload_n F d_M_put_40 rfl 0 rfl ?_
        refine v_iconst (v := 2) F d_M_put_41 ki_2 ?_
        refine v_runi (r_V F (c_M_meets X.2.1 u hA σ 2 (by decide)) mo_M_meets st_M_103 rc_63 (by decide) rfl (Nat.le_of_ble_eq_true rfl) d_M_put_42) (fun r9 σ10 q11 => ?_)
        obtain ⟨rfl, eσ10⟩ := q11
        refine v_iret F hr rfl d_M_put_45 ?_
        first | (simp_all [mPut, inR]; done) | grind [mPut]
    · skip
      refine v_aload_n F d_M_put_18 rfl 0 rfl ?_
      refine v_iconst (v := 1) F d_M_put_19 ki_1 ?_
      refine v_runi (r_V F (c_M_meets X.2.1 u hA σ 1 (by decide)) mo_M_meets st_M_103 rc_63 (by decide) rfl (Nat.le_of_ble_eq_true rfl) d_M_put_20) (fun r12 σ13 q14 => ?_)
      obtain ⟨rfl, eσ13⟩ := q14
      refine v_iret F hr rfl d_M_put_23 ?_
      first | (simp_all [mPut, inR]; done) | grind [mPut]
  · skip
    refine v_iconst (v := (-1)) F d_M_put_7 ki_m1 ?_
    refine v_iret F hr rfl d_M_put_8 ?_
    first | (simp_all [mPut, inR]; done) | grind [mPut]
abbrev b_M_mean : ByteArray := prog_14_method_20_code
abbrev y_M_mean : MethodName := ⟨"TakerBookModel", "mean", "(I)I"⟩
theorem d_M_mean_0 : decode b_M_mean 0 = .ok (.iload_n 1, 1) := by decide +kernel
theorem d_M_mean_1 : decode b_M_mean 1 = .ok (.invokestatic 99, 3) := by decide +kernel
theorem d_M_mean_4 : decode b_M_mean 4 = .ok (.ifCond .ne 5, 3) := by decide +kernel
theorem d_M_mean_7 : decode b_M_mean 7 = .ok (.iconst (-1), 1) := by decide +kernel
theorem d_M_mean_8 : decode b_M_mean 8 = .ok (.ireturn, 1) := by decide +kernel
theorem d_M_mean_9 : decode b_M_mean 9 = .ok (.aload_n 0, 1) := by decide +kernel
theorem d_M_mean_10 : decode b_M_mean 10 = .ok (.getfield 17, 3) := by decide +kernel
theorem d_M_mean_13 : decode b_M_mean 13 = .ok (.iload_n 1, 1) := by decide +kernel
theorem d_M_mean_14 : decode b_M_mean 14 = .ok (.iaload, 1) := by decide +kernel
theorem d_M_mean_15 : decode b_M_mean 15 = .ok (.ifCond .ge 9, 3) := by decide +kernel
theorem d_M_mean_18 : decode b_M_mean 18 = .ok (.aload_n 0, 1) := by decide +kernel
theorem d_M_mean_19 : decode b_M_mean 19 = .ok (.iconst 1, 1) := by decide +kernel
theorem d_M_mean_20 : decode b_M_mean 20 = .ok (.invokevirtual 103, 3) := by decide +kernel
theorem d_M_mean_23 : decode b_M_mean 23 = .ok (.ireturn, 1) := by decide +kernel
theorem d_M_mean_24 : decode b_M_mean 24 = .ok (.aload_n 0, 1) := by decide +kernel
theorem d_M_mean_25 : decode b_M_mean 25 = .ok (.getfield 17, 3) := by decide +kernel
theorem d_M_mean_28 : decode b_M_mean 28 = .ok (.iload_n 1, 1) := by decide +kernel
theorem d_M_mean_29 : decode b_M_mean 29 = .ok (.iaload, 1) := by decide +kernel
theorem d_M_mean_30 : decode b_M_mean 30 = .ok (.ifCond .ne 9, 3) := by decide +kernel
theorem d_M_mean_33 : decode b_M_mean 33 = .ok (.aload_n 0, 1) := by decide +kernel
theorem d_M_mean_34 : decode b_M_mean 34 = .ok (.iconst 4, 1) := by decide +kernel
theorem d_M_mean_35 : decode b_M_mean 35 = .ok (.invokevirtual 103, 3) := by decide +kernel
theorem d_M_mean_38 : decode b_M_mean 38 = .ok (.ireturn, 1) := by decide +kernel
theorem d_M_mean_39 : decode b_M_mean 39 = .ok (.lconst 0, 1) := by decide +kernel
theorem d_M_mean_40 : decode b_M_mean 40 = .ok (.lstore_n 2, 1) := by decide +kernel
theorem d_M_mean_41 : decode b_M_mean 41 = .ok (.iconst 0, 1) := by decide +kernel
theorem d_M_mean_42 : decode b_M_mean 42 = .ok (.istore 4, 2) := by decide +kernel
theorem d_M_mean_44 : decode b_M_mean 44 = .ok (.iload 4, 2) := by decide +kernel
theorem d_M_mean_46 : decode b_M_mean 46 = .ok (.aload_n 0, 1) := by decide +kernel
theorem d_M_mean_47 : decode b_M_mean 47 = .ok (.getfield 17, 3) := by decide +kernel
theorem d_M_mean_50 : decode b_M_mean 50 = .ok (.iload_n 1, 1) := by decide +kernel
theorem d_M_mean_51 : decode b_M_mean 51 = .ok (.iaload, 1) := by decide +kernel
theorem d_M_mean_52 : decode b_M_mean 52 = .ok (.if_icmp .ge 20, 3) := by decide +kernel
theorem d_M_mean_55 : decode b_M_mean 55 = .ok (.lload_n 2, 1) := by decide +kernel
theorem d_M_mean_56 : decode b_M_mean 56 = .ok (.aload_n 0, 1) := by decide +kernel
theorem d_M_mean_57 : decode b_M_mean 57 = .ok (.iload_n 1, 1) := by decide +kernel
theorem d_M_mean_58 : decode b_M_mean 58 = .ok (.iload 4, 2) := by decide +kernel
theorem d_M_mean_60 : decode b_M_mean 60 = .ok (.invokevirtual 107, 3) := by decide +kernel
theorem d_M_mean_63 : decode b_M_mean 63 = .ok (.i2l, 1) := by decide +kernel
theorem d_M_mean_64 : decode b_M_mean 64 = .ok (.ladd, 1) := by decide +kernel
theorem d_M_mean_65 : decode b_M_mean 65 = .ok (.lstore_n 2, 1) := by decide +kernel
theorem d_M_mean_66 : decode b_M_mean 66 = .ok (.iinc 4 1, 3) := by decide +kernel
theorem d_M_mean_69 : decode b_M_mean 69 = .ok (.goto (-25), 3) := by decide +kernel
theorem d_M_mean_72 : decode b_M_mean 72 = .ok (.aload_n 0, 1) := by decide +kernel
theorem d_M_mean_73 : decode b_M_mean 73 = .ok (.lload_n 2, 1) := by decide +kernel
theorem d_M_mean_74 : decode b_M_mean 74 = .ok (.aload_n 0, 1) := by decide +kernel
theorem d_M_mean_75 : decode b_M_mean 75 = .ok (.getfield 17, 3) := by decide +kernel
theorem d_M_mean_78 : decode b_M_mean 78 = .ok (.iload_n 1, 1) := by decide +kernel
theorem d_M_mean_79 : decode b_M_mean 79 = .ok (.iaload, 1) := by decide +kernel
theorem d_M_mean_80 : decode b_M_mean 80 = .ok (.i2l, 1) := by decide +kernel
theorem d_M_mean_81 : decode b_M_mean 81 = .ok (.ldiv, 1) := by decide +kernel
theorem d_M_mean_82 : decode b_M_mean 82 = .ok (.l2i, 1) := by decide +kernel
theorem d_M_mean_83 : decode b_M_mean 83 = .ok (.iconst 1, 1) := by decide +kernel
theorem d_M_mean_84 : decode b_M_mean 84 = .ok (.invokevirtual 111, 3) := by decide +kernel
theorem d_M_mean_87 : decode b_M_mean 87 = .ok (.ireturn, 1) := by decide +kernel
theorem mo_M_mean : mok y_M_mean b_M_mean 5 (some .int) 1 := ⟨List.mem_of_getElem? (i := 1161) (by decide +kernel), ⟨by decide +kernel, by decide +kernel, by decide +kernel⟩, List.mem_of_getElem? (i := 86) (by decide +kernel), by decide⟩
set_option maxHeartbeats 4000000 in
theorem L_M_mean_44 {X : FX} {u : Un} (hA : Ap u) {Q : State → Prop} (F : Fr X u "TakerBookModel" b_M_mean 5) {σ : St} {a N : Nat} (ha : a < 6) (hN : N ≤ 40) (eN : σ.1 65 a = nI N) (k : V X u 2 5 Q 72 [(0, .ref (u.2.1 63)), (1, .int (nI a)), (2, .long (sumL (fun j => σ.1 66 (40 * a + j)) N)), (4, .int (nI N))] [] (σ)) : ∀ (nn i : Nat), i ≤ N → N - i < nn → V X u 2 5 Q 44 [(0, .ref (u.2.1 63)), (1, .int (nI a)), (2, .long (sumL (fun j => σ.1 66 (40 * a + j)) i)), (4, .int (nI i))] [] (σ) := by
  intro nn
  induction nn with
  | zero =>
    intro i h1 h2
    exact absurd h2 (Nat.not_lt_zero _)
  | succ nn ih =>
    intro i hii hnn
    refine v_iload F d_M_mean_44 3 rfl ?_
    refine v_aload_n F d_M_mean_46 rfl 0 rfl ?_
    refine v_getr (r := 65) F fk_M_17 G63 rfl d_M_mean_47 ?_
    refine v_iload_n F d_M_mean_50 rfl 1 rfl ?_
    refine v_ial F a G65 rfl (by omega) d_M_mean_51 ?_
    refine v_te (y := nI N) eN ?_
    refine v_icmp_ge F 72 d_M_mean_52 rfl (fun h52 => ?_) (fun h52 => ?_)
    · skip
      have h52 : N ≤ i := (nI_leI (a := N) (b := i) (by omega) (by omega)).mp h52
      have he : i = N := by omega
      subst he
      exact k
    · skip
      have h52 : ¬ N ≤ i := fun q => h52 ((nI_leI (a := N) (b := i) (by omega) (by omega)).mpr q)
      refine v_lload_n F d_M_mean_55 rfl 2 rfl ?_
      refine v_aload_n F d_M_mean_56 rfl 0 rfl ?_
      refine v_iload_n F d_M_mean_57 rfl 1 rfl ?_
      refine v_iload F d_M_mean_58 3 rfl ?_
      refine v_runi (r_V F (c_M_rowAt X.2.1 u hA σ a i (by omega)) mo_M_rowAt st_M_107 rc_63 (by decide) rfl (Nat.le_of_ble_eq_true rfl) d_M_mean_60) (fun r1 σ2 q3 => ?_)
      obtain ⟨rfl, rfl⟩ := q3
      refine v_i2l F d_M_mean_63 ?_
      refine v_ladd F d_M_mean_64 ?_
      refine v_nl (fun x4 ex4 => ?_)
      refine v_lstore_n (ls' := [(2, .long x4), (0, .ref (u.2.1 63)), (1, .int (nI a)), (4, .int (nI i))]) F d_M_mean_65 rfl (by decide) rfl ?_
      refine v_iinc (v := nI (i + 1)) (ls' := [(4, .int (nI (i + 1))), (2, .long x4), (0, .ref (u.2.1 63)), (1, .int (nI a))]) F d_M_mean_66 (j := 3) rfl (nI_inc _) (by decide) rfl ?_
      refine v_goto F 44 d_M_mean_69 rfl ?_
      refine v_sub [2, 3, 1, 0] (ls' := [(0, .ref (u.2.1 63)), (1, .int (nI a)), (2, .long x4), (4, .int (nI (i + 1)))]) rfl ?_
      have g5 : x4 = (sumL (fun j => σ.1 66 (40 * a + j)) (i + 1)) := (by first | rfl | (simp [sumL, *]; done) | (simp_all [sumL]; done) | grind [sumL])
      refine v_to (ls' := [(0, .ref (u.2.1 63)), (1, .int (nI a)), (2, .long (sumL (fun j => σ.1 66 (40 * a + j)) (i + 1))), (4, .int (nI (i + 1)))]) (by first | rfl | rw [g5] | simp_all) ?_
      exact ih (i + 1) (by omega) (by omega)
set_option maxHeartbeats 4000000 in
theorem c_M_mean (l : Launch) (u : Un) (hA : Ap u) (σ : St) (r : Int32) (hI : mRowsOk σ) : MTi l u y_M_mean b_M_mean 5 .int 2 [.ref (u.2.1 63), .int r] σ (fun ans σ' => (ans, σ') = mMean σ r) := by
  refine MT_of hA rfl (by decide) (Nat.le_of_ble_eq_true rfl) (fun X hl F hr => ?_)
  subst hl
  refine v_to (ls' := [(0, .ref (u.2.1 63)), (1, .int r)]) rfl ?_
  refine v_iload_n F d_M_mean_0 rfl 1 rfl ?_
  refine v_runi (r_S F (c_M_isRow X.2.1 u hA σ r ) mo_M_isRow st_M_99 (by decide) rfl (Nat.le_of_ble_eq_true rfl) d_M_mean_1) (fun r1 σ2 q3 => ?_)
  obtain ⟨rfl, rfl⟩ := q3
  refine v_bf F 9 d_M_mean_4 rfl (fun h4 => ?_) (fun h4 => ?_)
  · skip
    obtain ⟨a, ha, xa, rfl⟩ := inR_nat (N := 6) h4 rfl (by decide)
    refine v_aload_n F d_M_mean_9 rfl 0 rfl ?_
    refine v_getr (r := 65) F fk_M_17 G63 rfl d_M_mean_10 ?_
    refine v_iload_n F d_M_mean_13 rfl 1 rfl ?_
    refine v_ial F a G65 rfl (by omega) d_M_mean_14 ?_
    refine v_if_ge F 24 d_M_mean_15 rfl (fun h15 => ?_) (fun h15 => ?_)
    · skip
      obtain ⟨N, hN, xN, eN⟩ := nat_of (M := 40) h15 (hI _ ha) rfl (by decide)
      refine v_aload_n F d_M_mean_24 rfl 0 rfl ?_
      refine v_getr (r := 65) F fk_M_17 G63 rfl d_M_mean_25 ?_
      refine v_iload_n F d_M_mean_28 rfl 1 rfl ?_
      refine v_ial F a G65 rfl (by omega) d_M_mean_29 ?_
      refine v_te (y := nI N) eN ?_
      refine v_if_ne F 39 d_M_mean_30 rfl (fun h30 => ?_) (fun h30 => ?_)
      · skip
        refine v_lconst (v := 0) F d_M_mean_39 rfl ?_
        refine v_lstore_n (ls' := [(2, .long 0), (0, .ref (u.2.1 63)), (1, .int (nI a))]) F d_M_mean_40 rfl (by decide) rfl ?_
        refine v_iconst (v := 0) F d_M_mean_41 ki_0 ?_
        refine v_istore (ls' := [(4, .int 0), (2, .long 0), (0, .ref (u.2.1 63)), (1, .int (nI a))]) F d_M_mean_42 (by decide) rfl ?_
        refine v_sub [2, 3, 1, 0] (ls' := [(0, .ref (u.2.1 63)), (1, .int (nI a)), (2, .long 0), (4, .int 0)]) rfl ?_
        have g4 : 0 = (sumL (fun j => σ.1 66 (40 * a + j)) 0) := (by first | rfl | (simp [sumL, *]; done) | (simp_all [sumL]; done) | grind [sumL])
        have g5 : 0 = (nI 0) := (by first | rfl | (simp [sumL, *]; done) | (simp_all [sumL]; done) | grind [sumL])
        refine v_to (ls' := [(0, .ref (u.2.1 63)), (1, .int (nI a)), (2, .long (sumL (fun j => σ.1 66 (40 * a + j)) 0)), (4, .int (nI 0))]) (by first | rfl | rw [g4, g5] | simp_all) ?_
        refine L_M_mean_44 hA F ha (by omega) eN ?_ _ 0 (Nat.zero_le _) (Nat.lt_succ_self _)
        refine v_aload_n F d_M_mean_72 rfl 0 rfl ?_
        refine v_lload_n F d_M_mean_73 rfl 2 rfl ?_
        refine v_aload_n F d_M_mean_74 rfl 0 rfl ?_
        refine v_getr (r := 65) F fk_M_17 G63 rfl d_M_mean_75 ?_
        refine v_iload_n F d_M_mean_78 rfl 1 rfl ?_
        refine v_ial F a G65 rfl (by omega) d_M_mean_79 ?_
        refine v_te (y := nI N) eN ?_
        refine v_i2l F d_M_mean_80 ?_
        refine v_ldiv F d_M_mean_81 (l_ne0 h30) ?_
        refine v_l2i F d_M_mean_82 ?_
        refine v_iconst (v := 1) F d_M_mean_83 ki_1 ?_
        refine v_runi (r_V F (c_M_tells X.2.1 u hA σ (((sumL (fun j => σ.1 66 (40 * a + j)) N) / ((nI N).toInt64)).toInt32) 1) mo_M_tells st_M_111 rc_63 (by decide) rfl (Nat.le_of_ble_eq_true rfl) d_M_mean_84) (fun r6 σ7 q8 => ?_)
        obtain ⟨rfl, eσ7⟩ := q8
        refine v_iret F hr rfl d_M_mean_87 ?_
        first | (simp_all [mMean, inR]; done) | grind [mMean]
      · skip
        refine v_aload_n F d_M_mean_33 rfl 0 rfl ?_
        refine v_iconst (v := 4) F d_M_mean_34 ki_4 ?_
        refine v_runi (r_V F (c_M_meets X.2.1 u hA σ 4 (by decide)) mo_M_meets st_M_103 rc_63 (by decide) rfl (Nat.le_of_ble_eq_true rfl) d_M_mean_35) (fun r9 σ10 q11 => ?_)
        obtain ⟨rfl, eσ10⟩ := q11
        refine v_iret F hr rfl d_M_mean_38 ?_
        first | (simp_all [mMean, inR]; done) | grind [mMean]
    · skip
      refine v_aload_n F d_M_mean_18 rfl 0 rfl ?_
      refine v_iconst (v := 1) F d_M_mean_19 ki_1 ?_
      refine v_runi (r_V F (c_M_meets X.2.1 u hA σ 1 (by decide)) mo_M_meets st_M_103 rc_63 (by decide) rfl (Nat.le_of_ble_eq_true rfl) d_M_mean_20) (fun r12 σ13 q14 => ?_)
      obtain ⟨rfl, eσ13⟩ := q14
      refine v_iret F hr rfl d_M_mean_23 ?_
      first | (simp_all [mMean, inR]; done) | grind [mMean]
  · skip
    refine v_iconst (v := (-1)) F d_M_mean_7 ki_m1 ?_
    refine v_iret F hr rfl d_M_mean_8 ?_
    first | (simp_all [mMean, inR]; done) | grind [mMean]
abbrev b_M_row : ByteArray := prog_14_method_15_code
abbrev y_M_row : MethodName := ⟨"TakerBookModel", "row", "(II)I"⟩
theorem d_M_row_0 : decode b_M_row 0 = .ok (.iload_n 1, 1) := by decide +kernel
theorem d_M_row_1 : decode b_M_row 1 = .ok (.invokestatic 99, 3) := by decide +kernel
theorem d_M_row_4 : decode b_M_row 4 = .ok (.ifCond .eq 9, 3) := by decide +kernel
theorem d_M_row_7 : decode b_M_row 7 = .ok (.iload_n 2, 1) := by decide +kernel
theorem d_M_row_8 : decode b_M_row 8 = .ok (.bipush 40, 2) := by decide +kernel
theorem d_M_row_10 : decode b_M_row 10 = .ok (.if_icmp .le 5, 3) := by decide +kernel
theorem d_M_row_13 : decode b_M_row 13 = .ok (.iconst (-1), 1) := by decide +kernel
theorem d_M_row_14 : decode b_M_row 14 = .ok (.ireturn, 1) := by decide +kernel
theorem d_M_row_15 : decode b_M_row 15 = .ok (.iload_n 2, 1) := by decide +kernel
theorem d_M_row_16 : decode b_M_row 16 = .ok (.ifCond .ge 9, 3) := by decide +kernel
theorem d_M_row_19 : decode b_M_row 19 = .ok (.aload_n 0, 1) := by decide +kernel
theorem d_M_row_20 : decode b_M_row 20 = .ok (.iconst 5, 1) := by decide +kernel
theorem d_M_row_21 : decode b_M_row 21 = .ok (.invokevirtual 103, 3) := by decide +kernel
theorem d_M_row_24 : decode b_M_row 24 = .ok (.ireturn, 1) := by decide +kernel
theorem d_M_row_25 : decode b_M_row 25 = .ok (.aload_n 0, 1) := by decide +kernel
theorem d_M_row_26 : decode b_M_row 26 = .ok (.getfield 17, 3) := by decide +kernel
theorem d_M_row_29 : decode b_M_row 29 = .ok (.iload_n 1, 1) := by decide +kernel
theorem d_M_row_30 : decode b_M_row 30 = .ok (.iload_n 2, 1) := by decide +kernel
theorem d_M_row_31 : decode b_M_row 31 = .ok (.iastore, 1) := by decide +kernel
theorem d_M_row_32 : decode b_M_row 32 = .ok (.iconst 0, 1) := by decide +kernel
theorem d_M_row_33 : decode b_M_row 33 = .ok (.istore_n 3, 1) := by decide +kernel
theorem d_M_row_34 : decode b_M_row 34 = .ok (.iload_n 3, 1) := by decide +kernel
theorem d_M_row_35 : decode b_M_row 35 = .ok (.bipush 40, 2) := by decide +kernel
theorem d_M_row_37 : decode b_M_row 37 = .ok (.if_icmp .ge 21, 3) := by decide +kernel
theorem d_M_row_40 : decode b_M_row 40 = .ok (.aload_n 0, 1) := by decide +kernel
theorem d_M_row_41 : decode b_M_row 41 = .ok (.getfield 20, 3) := by decide +kernel
theorem d_M_row_44 : decode b_M_row 44 = .ok (.bipush 40, 2) := by decide +kernel
theorem d_M_row_46 : decode b_M_row 46 = .ok (.iload_n 1, 1) := by decide +kernel
theorem d_M_row_47 : decode b_M_row 47 = .ok (.imul, 1) := by decide +kernel
theorem d_M_row_48 : decode b_M_row 48 = .ok (.iload_n 3, 1) := by decide +kernel
theorem d_M_row_49 : decode b_M_row 49 = .ok (.iadd, 1) := by decide +kernel
theorem d_M_row_50 : decode b_M_row 50 = .ok (.iconst 0, 1) := by decide +kernel
theorem d_M_row_51 : decode b_M_row 51 = .ok (.iastore, 1) := by decide +kernel
theorem d_M_row_52 : decode b_M_row 52 = .ok (.iinc 3 1, 3) := by decide +kernel
theorem d_M_row_55 : decode b_M_row 55 = .ok (.goto (-21), 3) := by decide +kernel
theorem d_M_row_58 : decode b_M_row 58 = .ok (.iload_n 2, 1) := by decide +kernel
theorem d_M_row_59 : decode b_M_row 59 = .ok (.ireturn, 1) := by decide +kernel
theorem mo_M_row : mok y_M_row b_M_row 4 (some .int) 2 := ⟨List.mem_of_getElem? (i := 1126) (by decide +kernel), ⟨by decide +kernel, by decide +kernel, by decide +kernel⟩, List.mem_of_getElem? (i := 86) (by decide +kernel), by decide⟩
set_option maxHeartbeats 4000000 in
theorem L_M_row_34 {X : FX} {u : Un} (hA : Ap u) {Q : State → Prop} (F : Fr X u "TakerBookModel" b_M_row 4) {σ : St} {a N : Nat} (ha : a < 6) (k : V X u 2 4 Q 58 [(0, .ref (u.2.1 63)), (1, .int (nI a)), (2, .int (nI N)), (3, .int (nI 40))] [] ((fl (uI σ 65 a (nI N)) 66 (40 * a) 0 40))) : ∀ (nn i : Nat), i ≤ 40 → 40 - i < nn → V X u 2 4 Q 34 [(0, .ref (u.2.1 63)), (1, .int (nI a)), (2, .int (nI N)), (3, .int (nI i))] [] ((fl (uI σ 65 a (nI N)) 66 (40 * a) 0 i)) := by
  intro nn
  induction nn with
  | zero =>
    intro i h1 h2
    exact absurd h2 (Nat.not_lt_zero _)
  | succ nn ih =>
    intro i hii hnn
    refine v_iload_n F d_M_row_34 rfl 3 rfl ?_
    refine v_bipush (v := 40) F d_M_row_35 kb_40 ?_
    refine v_icmp_ge F 58 d_M_row_37 rfl (fun h37 => ?_) (fun h37 => ?_)
    · skip
      have h37 : 40 ≤ i := (nI_leI (a := 40) (b := i) (by omega) (by omega)).mp h37
      have he : i = 40 := by omega
      subst he
      exact k
    · skip
      have h37 : ¬ 40 ≤ i := fun q => h37 ((nI_leI (a := 40) (b := i) (by omega) (by omega)).mpr q)
      refine v_aload_n F d_M_row_40 rfl 0 rfl ?_
      refine v_getr (r := 66) F fk_M_20 G63 rfl d_M_row_41 ?_
      refine v_bipush (v := 40) F d_M_row_44 kb_40 ?_
      refine v_iload_n F d_M_row_46 rfl 1 rfl ?_
      refine v_imul F d_M_row_47 ?_
      refine v_te (y := nI (40 * a)) (pk_mul _ _) ?_
      refine v_iload_n F d_M_row_48 rfl 3 rfl ?_
      refine v_iadd F d_M_row_49 ?_
      refine v_te (y := nI (40 * a + i)) (nI_add _ _) ?_
      refine v_iconst (v := 0) F d_M_row_50 ki_0 ?_
      refine v_ias F (40 * a + i) G66 rfl (by omega) d_M_row_51 ?_
      refine v_ns (fun σ1 eσ1 => ?_)
      refine v_iinc (v := nI (i + 1)) (ls' := [(3, .int (nI (i + 1))), (0, .ref (u.2.1 63)), (1, .int (nI a)), (2, .int (nI N))]) F d_M_row_52 (j := 3) rfl (nI_inc _) (by decide) rfl ?_
      refine v_goto F 34 d_M_row_55 rfl ?_
      refine v_sub [1, 2, 3, 0] (ls' := [(0, .ref (u.2.1 63)), (1, .int (nI a)), (2, .int (nI N)), (3, .int (nI (i + 1)))]) rfl ?_
      refine v_st (show σ1 = (fl (uI σ 65 a (nI N)) 66 (40 * a) 0 (i + 1)) from (by first | rfl | (simp [fl, vp_nar32, *]; done) | (simp_all [fl, vp_nar32]; done) | grind [fl, vp_nar32])) ?_
      exact ih (i + 1) (by omega) (by omega)
set_option maxHeartbeats 4000000 in
theorem c_M_row (l : Launch) (u : Un) (hA : Ap u) (σ : St) (r n : Int32) : MTi l u y_M_row b_M_row 4 .int 2 [.ref (u.2.1 63), .int r, .int n] σ (fun ans σ' => (ans, σ') = mRow σ r n) := by
  refine MT_of hA rfl (by decide) (Nat.le_of_ble_eq_true rfl) (fun X hl F hr => ?_)
  subst hl
  refine v_to (ls' := [(0, .ref (u.2.1 63)), (1, .int r), (2, .int n)]) rfl ?_
  refine v_iload_n F d_M_row_0 rfl 1 rfl ?_
  refine v_runi (r_S F (c_M_isRow X.2.1 u hA σ r ) mo_M_isRow st_M_99 (by decide) rfl (Nat.le_of_ble_eq_true rfl) d_M_row_1) (fun r1 σ2 q3 => ?_)
  obtain ⟨rfl, rfl⟩ := q3
  refine v_bt F 13 d_M_row_4 rfl (fun h4 => ?_) (fun h4 => ?_)
  · skip
    refine v_iconst (v := (-1)) F d_M_row_13 ki_m1 ?_
    refine v_iret F hr rfl d_M_row_14 ?_
    first | (simp_all [mRow, inR]; done) | grind [mRow]
  · skip
    refine v_iload_n F d_M_row_7 rfl 2 rfl ?_
    refine v_bipush (v := 40) F d_M_row_8 kb_40 ?_
    refine v_icmp_le F 15 d_M_row_10 rfl (fun h10 => ?_) (fun h10 => ?_)
    · skip
      refine v_iload_n F d_M_row_15 rfl 2 rfl ?_
      refine v_if_ge F 25 d_M_row_16 rfl (fun h16 => ?_) (fun h16 => ?_)
      · skip
        obtain ⟨a, ha, xa, rfl⟩ := inR_nat (N := 6) h4 rfl (by decide)
        obtain ⟨N, hN, xN, rfl⟩ := nat_of (M := 40) h16 h10 rfl (by decide)
        refine v_aload_n F d_M_row_25 rfl 0 rfl ?_
        refine v_getr (r := 65) F fk_M_17 G63 rfl d_M_row_26 ?_
        refine v_iload_n F d_M_row_29 rfl 1 rfl ?_
        refine v_iload_n F d_M_row_30 rfl 2 rfl ?_
        refine v_ias F a G65 rfl (by omega) d_M_row_31 ?_
        refine v_ns (fun σ4 eσ4 => ?_)
        refine v_iconst (v := 0) F d_M_row_32 ki_0 ?_
        refine v_istore_n (ls' := [(3, .int 0), (0, .ref (u.2.1 63)), (1, .int (nI a)), (2, .int (nI N))]) F d_M_row_33 rfl (by decide) rfl ?_
        refine v_sub [1, 2, 3, 0] (ls' := [(0, .ref (u.2.1 63)), (1, .int (nI a)), (2, .int (nI N)), (3, .int 0)]) rfl ?_
        have g5 : 0 = (nI 0) := (by first | rfl | (simp [fl, vp_nar32, *]; done) | (simp_all [fl, vp_nar32]; done) | grind [fl, vp_nar32])
        refine v_to (ls' := [(0, .ref (u.2.1 63)), (1, .int (nI a)), (2, .int (nI N)), (3, .int (nI 0))]) (by first | rfl | rw [g5] | simp_all) ?_
        refine v_st (show σ4 = (fl (uI σ 65 a (nI N)) 66 (40 * a) 0 0) from (by first | rfl | (simp [fl, vp_nar32, *]; done) | (simp_all [fl, vp_nar32]; done) | grind [fl, vp_nar32])) ?_
        refine L_M_row_34 hA F ha ?_ _ 0 (Nat.zero_le _) (Nat.lt_succ_self _)
        refine v_iload_n F d_M_row_58 rfl 2 rfl ?_
        refine v_iret F hr rfl d_M_row_59 ?_
        first | (simp_all [mRow, inR]; done) | grind [mRow]
      · skip
        refine v_aload_n F d_M_row_19 rfl 0 rfl ?_
        refine v_iconst (v := 5) F d_M_row_20 ki_5 ?_
        refine v_runi (r_V F (c_M_meets X.2.1 u hA σ 5 (by decide)) mo_M_meets st_M_103 rc_63 (by decide) rfl (Nat.le_of_ble_eq_true rfl) d_M_row_21) (fun r6 σ7 q8 => ?_)
        obtain ⟨rfl, eσ7⟩ := q8
        refine v_iret F hr rfl d_M_row_24 ?_
        first | (simp_all [mRow, inR]; done) | grind [mRow]
    · skip
      refine v_iconst (v := (-1)) F d_M_row_13 ki_m1 ?_
      refine v_iret F hr rfl d_M_row_14 ?_
      first | (simp_all [mRow, inR]; done) | grind [mRow]
abbrev b_M_text : ByteArray := prog_14_method_22_code
abbrev y_M_text : MethodName := ⟨"TakerBookModel", "text", "(II)I"⟩
theorem d_M_text_0 : decode b_M_text 0 = .ok (.iload_n 1, 1) := by decide +kernel
theorem d_M_text_1 : decode b_M_text 1 = .ok (.invokestatic 114, 3) := by decide +kernel
theorem d_M_text_4 : decode b_M_text 4 = .ok (.ifCond .eq 9, 3) := by decide +kernel
theorem d_M_text_7 : decode b_M_text 7 = .ok (.iload_n 2, 1) := by decide +kernel
theorem d_M_text_8 : decode b_M_text 8 = .ok (.bipush 60, 2) := by decide +kernel
theorem d_M_text_10 : decode b_M_text 10 = .ok (.if_icmp .le 5, 3) := by decide +kernel
theorem d_M_text_13 : decode b_M_text 13 = .ok (.iconst (-1), 1) := by decide +kernel
theorem d_M_text_14 : decode b_M_text 14 = .ok (.ireturn, 1) := by decide +kernel
theorem d_M_text_15 : decode b_M_text 15 = .ok (.iload_n 2, 1) := by decide +kernel
theorem d_M_text_16 : decode b_M_text 16 = .ok (.ifCond .ge 9, 3) := by decide +kernel
theorem d_M_text_19 : decode b_M_text 19 = .ok (.aload_n 0, 1) := by decide +kernel
theorem d_M_text_20 : decode b_M_text 20 = .ok (.iconst 5, 1) := by decide +kernel
theorem d_M_text_21 : decode b_M_text 21 = .ok (.invokevirtual 103, 3) := by decide +kernel
theorem d_M_text_24 : decode b_M_text 24 = .ok (.ireturn, 1) := by decide +kernel
theorem d_M_text_25 : decode b_M_text 25 = .ok (.aload_n 0, 1) := by decide +kernel
theorem d_M_text_26 : decode b_M_text 26 = .ok (.getfield 26, 3) := by decide +kernel
theorem d_M_text_29 : decode b_M_text 29 = .ok (.iload_n 1, 1) := by decide +kernel
theorem d_M_text_30 : decode b_M_text 30 = .ok (.iload_n 2, 1) := by decide +kernel
theorem d_M_text_31 : decode b_M_text 31 = .ok (.iastore, 1) := by decide +kernel
theorem d_M_text_32 : decode b_M_text 32 = .ok (.iconst 0, 1) := by decide +kernel
theorem d_M_text_33 : decode b_M_text 33 = .ok (.istore_n 3, 1) := by decide +kernel
theorem d_M_text_34 : decode b_M_text 34 = .ok (.iload_n 3, 1) := by decide +kernel
theorem d_M_text_35 : decode b_M_text 35 = .ok (.bipush 60, 2) := by decide +kernel
theorem d_M_text_37 : decode b_M_text 37 = .ok (.if_icmp .ge 22, 3) := by decide +kernel
theorem d_M_text_40 : decode b_M_text 40 = .ok (.aload_n 0, 1) := by decide +kernel
theorem d_M_text_41 : decode b_M_text 41 = .ok (.getfield 29, 3) := by decide +kernel
theorem d_M_text_44 : decode b_M_text 44 = .ok (.bipush 60, 2) := by decide +kernel
theorem d_M_text_46 : decode b_M_text 46 = .ok (.iload_n 1, 1) := by decide +kernel
theorem d_M_text_47 : decode b_M_text 47 = .ok (.imul, 1) := by decide +kernel
theorem d_M_text_48 : decode b_M_text 48 = .ok (.iload_n 3, 1) := by decide +kernel
theorem d_M_text_49 : decode b_M_text 49 = .ok (.iadd, 1) := by decide +kernel
theorem d_M_text_50 : decode b_M_text 50 = .ok (.bipush 32, 2) := by decide +kernel
theorem d_M_text_52 : decode b_M_text 52 = .ok (.bastore, 1) := by decide +kernel
theorem d_M_text_53 : decode b_M_text 53 = .ok (.iinc 3 1, 3) := by decide +kernel
theorem d_M_text_56 : decode b_M_text 56 = .ok (.goto (-22), 3) := by decide +kernel
theorem d_M_text_59 : decode b_M_text 59 = .ok (.iload_n 2, 1) := by decide +kernel
theorem d_M_text_60 : decode b_M_text 60 = .ok (.ireturn, 1) := by decide +kernel
theorem mo_M_text : mok y_M_text b_M_text 4 (some .int) 2 := ⟨List.mem_of_getElem? (i := 1165) (by decide +kernel), ⟨by decide +kernel, by decide +kernel, by decide +kernel⟩, List.mem_of_getElem? (i := 86) (by decide +kernel), by decide⟩
set_option maxHeartbeats 4000000 in
theorem L_M_text_34 {X : FX} {u : Un} (hA : Ap u) {Q : State → Prop} (F : Fr X u "TakerBookModel" b_M_text 4) {σ : St} {a N : Nat} (ha : a < 4) (k : V X u 2 4 Q 59 [(0, .ref (u.2.1 63)), (1, .int (nI a)), (2, .int (nI N)), (3, .int (nI 60))] [] ((fl (uI σ 68 a (nI N)) 69 (60 * a) 32 60))) : ∀ (nn i : Nat), i ≤ 60 → 60 - i < nn → V X u 2 4 Q 34 [(0, .ref (u.2.1 63)), (1, .int (nI a)), (2, .int (nI N)), (3, .int (nI i))] [] ((fl (uI σ 68 a (nI N)) 69 (60 * a) 32 i)) := by
  intro nn
  induction nn with
  | zero =>
    intro i h1 h2
    exact absurd h2 (Nat.not_lt_zero _)
  | succ nn ih =>
    intro i hii hnn
    refine v_iload_n F d_M_text_34 rfl 3 rfl ?_
    refine v_bipush (v := 60) F d_M_text_35 kb_60 ?_
    refine v_icmp_ge F 59 d_M_text_37 rfl (fun h37 => ?_) (fun h37 => ?_)
    · skip
      have h37 : 60 ≤ i := (nI_leI (a := 60) (b := i) (by omega) (by omega)).mp h37
      have he : i = 60 := by omega
      subst he
      exact k
    · skip
      have h37 : ¬ 60 ≤ i := fun q => h37 ((nI_leI (a := 60) (b := i) (by omega) (by omega)).mpr q)
      refine v_aload_n F d_M_text_40 rfl 0 rfl ?_
      refine v_getr (r := 69) F fk_M_29 G63 rfl d_M_text_41 ?_
      refine v_bipush (v := 60) F d_M_text_44 kb_60 ?_
      refine v_iload_n F d_M_text_46 rfl 1 rfl ?_
      refine v_imul F d_M_text_47 ?_
      refine v_te (y := nI (60 * a)) (pk_mul _ _) ?_
      refine v_iload_n F d_M_text_48 rfl 3 rfl ?_
      refine v_iadd F d_M_text_49 ?_
      refine v_te (y := nI (60 * a + i)) (nI_add _ _) ?_
      refine v_bipush (v := 32) F d_M_text_50 kb_32 ?_
      refine v_bas F (60 * a + i) G69 rfl (by omega) d_M_text_52 ?_
      refine v_ns (fun σ1 eσ1 => ?_)
      refine v_iinc (v := nI (i + 1)) (ls' := [(3, .int (nI (i + 1))), (0, .ref (u.2.1 63)), (1, .int (nI a)), (2, .int (nI N))]) F d_M_text_53 (j := 3) rfl (nI_inc _) (by decide) rfl ?_
      refine v_goto F 34 d_M_text_56 rfl ?_
      refine v_sub [1, 2, 3, 0] (ls' := [(0, .ref (u.2.1 63)), (1, .int (nI a)), (2, .int (nI N)), (3, .int (nI (i + 1)))]) rfl ?_
      refine v_st (show σ1 = (fl (uI σ 68 a (nI N)) 69 (60 * a) 32 (i + 1)) from (by first | rfl | (simp [fl, vp_nar32, *]; done) | (simp_all [fl, vp_nar32]; done) | grind [fl, vp_nar32])) ?_
      exact ih (i + 1) (by omega) (by omega)
set_option maxHeartbeats 4000000 in
theorem c_M_text (l : Launch) (u : Un) (hA : Ap u) (σ : St) (r n : Int32) : MTi l u y_M_text b_M_text 4 .int 2 [.ref (u.2.1 63), .int r, .int n] σ (fun ans σ' => (ans, σ') = mText σ r n) := by
  refine MT_of hA rfl (by decide) (Nat.le_of_ble_eq_true rfl) (fun X hl F hr => ?_)
  subst hl
  refine v_to (ls' := [(0, .ref (u.2.1 63)), (1, .int r), (2, .int n)]) rfl ?_
  refine v_iload_n F d_M_text_0 rfl 1 rfl ?_
  refine v_runi (r_S F (c_M_isText X.2.1 u hA σ r ) mo_M_isText st_M_114 (by decide) rfl (Nat.le_of_ble_eq_true rfl) d_M_text_1) (fun r1 σ2 q3 => ?_)
  obtain ⟨rfl, rfl⟩ := q3
  refine v_bt F 13 d_M_text_4 rfl (fun h4 => ?_) (fun h4 => ?_)
  · skip
    refine v_iconst (v := (-1)) F d_M_text_13 ki_m1 ?_
    refine v_iret F hr rfl d_M_text_14 ?_
    first | (simp_all [mText, inR]; done) | grind [mText]
  · skip
    refine v_iload_n F d_M_text_7 rfl 2 rfl ?_
    refine v_bipush (v := 60) F d_M_text_8 kb_60 ?_
    refine v_icmp_le F 15 d_M_text_10 rfl (fun h10 => ?_) (fun h10 => ?_)
    · skip
      refine v_iload_n F d_M_text_15 rfl 2 rfl ?_
      refine v_if_ge F 25 d_M_text_16 rfl (fun h16 => ?_) (fun h16 => ?_)
      · skip
        obtain ⟨a, ha, xa, rfl⟩ := inR_nat (N := 4) h4 rfl (by decide)
        obtain ⟨N, hN, xN, rfl⟩ := nat_of (M := 60) h16 h10 rfl (by decide)
        refine v_aload_n F d_M_text_25 rfl 0 rfl ?_
        refine v_getr (r := 68) F fk_M_26 G63 rfl d_M_text_26 ?_
        refine v_iload_n F d_M_text_29 rfl 1 rfl ?_
        refine v_iload_n F d_M_text_30 rfl 2 rfl ?_
        refine v_ias F a G68 rfl (by omega) d_M_text_31 ?_
        refine v_ns (fun σ4 eσ4 => ?_)
        refine v_iconst (v := 0) F d_M_text_32 ki_0 ?_
        refine v_istore_n (ls' := [(3, .int 0), (0, .ref (u.2.1 63)), (1, .int (nI a)), (2, .int (nI N))]) F d_M_text_33 rfl (by decide) rfl ?_
        refine v_sub [1, 2, 3, 0] (ls' := [(0, .ref (u.2.1 63)), (1, .int (nI a)), (2, .int (nI N)), (3, .int 0)]) rfl ?_
        have g5 : 0 = (nI 0) := (by first | rfl | (simp [fl, vp_nar32, *]; done) | (simp_all [fl, vp_nar32]; done) | grind [fl, vp_nar32])
        refine v_to (ls' := [(0, .ref (u.2.1 63)), (1, .int (nI a)), (2, .int (nI N)), (3, .int (nI 0))]) (by first | rfl | rw [g5] | simp_all) ?_
        refine v_st (show σ4 = (fl (uI σ 68 a (nI N)) 69 (60 * a) 32 0) from (by first | rfl | (simp [fl, vp_nar32, *]; done) | (simp_all [fl, vp_nar32]; done) | grind [fl, vp_nar32])) ?_
        refine L_M_text_34 hA F ha ?_ _ 0 (Nat.zero_le _) (Nat.lt_succ_self _)
        refine v_iload_n F d_M_text_59 rfl 2 rfl ?_
        refine v_iret F hr rfl d_M_text_60 ?_
        first | (simp_all [mText, inR]; done) | grind [mText]
      · skip
        refine v_aload_n F d_M_text_19 rfl 0 rfl ?_
        refine v_iconst (v := 5) F d_M_text_20 ki_5 ?_
        refine v_runi (r_V F (c_M_meets X.2.1 u hA σ 5 (by decide)) mo_M_meets st_M_103 rc_63 (by decide) rfl (Nat.le_of_ble_eq_true rfl) d_M_text_21) (fun r6 σ7 q8 => ?_)
        obtain ⟨rfl, eσ7⟩ := q8
        refine v_iret F hr rfl d_M_text_24 ?_
        first | (simp_all [mText, inR]; done) | grind [mText]
    · skip
      refine v_iconst (v := (-1)) F d_M_text_13 ki_m1 ?_
      refine v_iret F hr rfl d_M_text_14 ?_
      first | (simp_all [mText, inR]; done) | grind [mText]
end
section
-- counts of sets, quotients
def pcN (n : Nat) : Nat := n % 2 + n / 2 % 2 + n / 4 % 2 + n / 8 % 2 + n / 16 % 2 + n / 32 % 2
theorem pc_and : ∀ n, n < 64 → 0 < n → n &&& (n - 1) < n ∧ pcN (n &&& (n - 1)) + 1 = pcN n := by decide +kernel
theorem nI_and {a b : Nat} : nI a &&& nI b = nI (a &&& b) := by
  apply Int32.toBitVec_inj.mp
  show BitVec.ofNat 32 a &&& BitVec.ofNat 32 b = BitVec.ofNat 32 (a &&& b)
  rw [BitVec.ofNat_and]
theorem bits_step {n : Nat} (h : 0 < n) : nI n &&& (nI n - 1) = nI (n &&& (n - 1)) := by
  obtain ⟨m, rfl⟩ : ∃ m, n = m + 1 := ⟨n - 1, by omega⟩
  rw [nI_pred, nI_and]
  rfl
theorem lg0 {y : Nat} (hy : y < 9223372036854775808) : lg_cmp (lN y) 0 = 0 ↔ y = 0 := by
  have e0 : (0 : Int64) = lN 0 := rfl
  constructor
  · intro h
    unfold lg_cmp at h
    split at h
    · exact absurd h (by decide)
    · split at h
      · rename_i _ h2
        rw [e0] at h2
        exact (pk_lEQ (by omega) (by omega)).mp h2
      · exact absurd h (by decide)
  · rintro rfl
    rfl
theorem lg_pos {x y : Int64} : 0 < lg_cmp x y ↔ y < x := by
  unfold lg_cmp
  split
  · rename_i h
    exact ⟨fun _ => h, fun _ => by decide⟩
  · rename_i h
    split
    · exact ⟨fun q => absurd q (by decide), fun q => absurd q h⟩
    · exact ⟨fun q => absurd q (by decide), fun q => absurd q h⟩
theorem lc_nat {i n s : Int32} (hi : 0 ≤ i) (hn : 0 ≤ n) (h0 : 0 ≤ s) (h1 : s ≤ 40) (h : ¬ 0 < lg_cmp (i.toInt64 + n.toInt64) s.toInt64) : ∃ b N, b + N ≤ 40 ∧ ix i = b ∧ ix n = N ∧ i = nI b ∧ n = nI N := by
  obtain ⟨b, hb, rfl⟩ := nI_of (i_nlt.mpr hi)
  obtain ⟨N, hN, rfl⟩ := nI_of (i_nlt.mpr hn)
  obtain ⟨c, hc, -, rfl⟩ := nat_of (M := 40) h0 h1 rfl (by decide)
  rw [lg_pos, nI_l hb, nI_l hN, nI_l (by omega), lN_add, pk_lLT (by omega) (by omega)] at h
  exact ⟨b, N, by omega, nI_clamp hb, nI_clamp hN, rfl, rfl⟩
theorem cpF_other (σ : St) (k off : Nat) (f : Nat → Int32) {k' : Nat} (h : k' ≠ k) : ∀ i, (cpF σ k off f i).1 k' = σ.1 k'
  | 0 => rfl
  | i + 1 => by
    have ih := cpF_other σ k off f h i
    simp only [cpF, uI, if_neg h, ih]
def mCopy (σ : St) (r i to j n : Int32) : Int32 × St := if ¬ inR r 6 ∨ ¬ inR to 6 then (-1, σ) else if n < 0 then (-3, mRef σ 5) else if σ.1 65 (ix r) < 0 ∨ σ.1 65 (ix to) < 0 then (-3, mRef σ 1)
  else if i < 0 ∨ j < 0 ∨ 0 < lg_cmp (i.toInt64 + n.toInt64) (σ.1 65 (ix r)).toInt64 ∨ 0 < lg_cmp (j.toInt64 + n.toInt64) (σ.1 65 (ix to)).toInt64 then (-3, mRef σ 2)
  else (1, cpF (cpF σ 67 0 (fun k => σ.1 66 (40 * ix r + (ix i + k))) (ix n)) 66 (40 * ix to + ix j) (fun k => (cpF σ 67 0 (fun k => σ.1 66 (40 * ix r + (ix i + k))) (ix n)).1 67 k) (ix n))
theorem pc0 {s c t : Nat} (h0 : s = 0) (h : pcN s + c = t) : c = t := by
  subst h0
  simpa [pcN] using h
theorem v_mmax {X : FX} {u : Un} {own : String} {cc : ByteArray} {d nL : Nat} {Q : State → Prop} {pc : Nat} {ls : List (Nat × Value)} {st : List Value} {σ : St} (F : Fr X u own cc nL) {idx : Nat} {x y : Int32} (hl : Cond.methodLink own idx Lib.Math.max.name ∈ lw_tbl) (hw : (st.map fun v => v.category).sum ≤ 8) (hd : 1 ≤ d) (hdg : decode cc pc = .ok (.invokestatic idx, 3))
    (kk : V X u d nL Q (pc + 3) ls (.int (if x < y then y else x) :: st) σ) : V X u d nL Q pc ls (.int y :: .int x :: st) σ := by
  intro H locs la hP hS hla
  refine va_mmax F.1 F.2.1 (by rw [F.2.2.1, hla.1]) F.2.2.2.1 (F.2.2.2.2.1 _ (inG hl rfl)) (F.2.2.2.2.1 _ (inG (List.mem_of_getElem? (i := 632) (by decide +kernel)) rfl)) (F.2.2.2.2.1 _ (inG (List.mem_of_getElem? (i := 89) (by decide +kernel)) rfl)) (F.2.2.2.2.1 _ (inG (List.mem_of_getElem? (i := 633) (by decide +kernel)) rfl)) hd ?_ (Nat.zero_le _) (Nat.zero_le _) hdg (kk H locs la hP hS hla)
  show _ ≤ d * 40
  omega
theorem v_mmin {X : FX} {u : Un} {own : String} {cc : ByteArray} {d nL : Nat} {Q : State → Prop} {pc : Nat} {ls : List (Nat × Value)} {st : List Value} {σ : St} (F : Fr X u own cc nL) {idx : Nat} {x y : Int32} (hl : Cond.methodLink own idx Lib.Math.min.name ∈ lw_tbl) (hw : (st.map fun v => v.category).sum ≤ 8) (hd : 1 ≤ d) (hdg : decode cc pc = .ok (.invokestatic idx, 3))
    (kk : V X u d nL Q (pc + 3) ls (.int (if y < x then y else x) :: st) σ) : V X u d nL Q pc ls (.int y :: .int x :: st) σ := by
  intro H locs la hP hS hla
  refine va_mmin F.1 F.2.1 (by rw [F.2.2.1, hla.1]) F.2.2.2.1 (F.2.2.2.2.1 _ (inG hl rfl)) (F.2.2.2.2.1 _ (inG (List.mem_of_getElem? (i := 888) (by decide +kernel)) rfl)) (F.2.2.2.2.1 _ (inG (List.mem_of_getElem? (i := 89) (by decide +kernel)) rfl)) (F.2.2.2.2.1 _ (inG (List.mem_of_getElem? (i := 889) (by decide +kernel)) rfl)) hd ?_ (Nat.zero_le _) (Nat.zero_le _) hdg (kk H locs la hP hS hla)
  show _ ≤ d * 40
  omega
theorem gcd_step {a b x y : Nat} (h : Nat.gcd x y = Nat.gcd a b) (hy : 0 < y) : Nat.gcd y (x % y) = Nat.gcd a b := by
  rw [← h, Nat.gcd_comm x y, Nat.gcd_rec y x, Nat.gcd_comm]
theorem lrem_N {x y : Nat} (hx : x < 4611686018427387904) (hy : y < 4611686018427387904) (h0 : 0 < y) : lN x - lN x / lN y * lN y = lN (x % y) := pk_lRem (by omega) h0 (by omega)
theorem ldiv_N {x y : Nat} (hx : x < 4611686018427387904) (hy : y < 4611686018427387904) (h0 : 0 < y) : lN x / lN y = lN (x / y) := pk_lDiv (by omega) h0 (by omega)
theorem lne0 {y : Nat} (hy : y < 4611686018427387904) (h0 : 0 < y) : ¬ lN y = 0 := fun h => by
  have := (pk_lEQ (a := y) (b := 0) (by omega) (by omega)).mp h
  omega
theorem gcd_le0 {a b x : Nat} (h : Nat.gcd x 0 = Nat.gcd a b) : x = Nat.gcd a b := by rw [← h, Nat.gcd_zero_right]
theorem euc_pos {x y p : Nat} (hy : 0 < y) (hxy : y ≤ x) (h : x * y < 2 * p) : y * (x % y) < p := by
  have h1 := Nat.mod_lt x hy
  have h2 := Nat.div_add_mod x y
  have h3 : 1 ≤ x / y := (Nat.one_le_div_iff hy).mpr hxy
  have h4 : y * 1 ≤ y * (x / y) := Nat.mul_le_mul_left _ h3
  have h5 : 2 * (x % y) ≤ x := by omega
  have h6 : y * (2 * (x % y)) ≤ y * x := Nat.mul_le_mul_left _ h5
  rw [Nat.mul_comm y x, Nat.mul_left_comm] at h6
  omega
end
section
theorem kc_I_265 : Cond.constant "java/lang/Integer" 265 (1431655765) ∈ lw_tbl := List.mem_of_getElem? (i := 558) (by decide +kernel)
theorem kc_I_266 : Cond.constant "java/lang/Integer" 266 (858993459) ∈ lw_tbl := List.mem_of_getElem? (i := 559) (by decide +kernel)
theorem kc_I_267 : Cond.constant "java/lang/Integer" 267 (252645135) ∈ lw_tbl := List.mem_of_getElem? (i := 560) (by decide +kernel)
theorem kb_8 : (Int8.ofInt 8).toInt32 = (8 : Int32) := by decide
theorem kb_16 : (Int8.ofInt 16).toInt32 = (16 : Int32) := by decide
theorem kb_63 : (Int8.ofInt 63).toInt32 = (63 : Int32) := by decide
abbrev b_I_bitCount : ByteArray := prog_15_method_49_code
abbrev y_I_bitCount : MethodName := ⟨"java/lang/Integer", "bitCount", "(I)I"⟩
theorem d_I_bitCount_0 : decode b_I_bitCount 0 = .ok (.iload_n 0, 1) := by decide +kernel
theorem d_I_bitCount_1 : decode b_I_bitCount 1 = .ok (.iload_n 0, 1) := by decide +kernel
theorem d_I_bitCount_2 : decode b_I_bitCount 2 = .ok (.iconst 1, 1) := by decide +kernel
theorem d_I_bitCount_3 : decode b_I_bitCount 3 = .ok (.iushr, 1) := by decide +kernel
theorem d_I_bitCount_4 : decode b_I_bitCount 4 = .ok (.ldc_w 265, 3) := by decide +kernel
theorem d_I_bitCount_7 : decode b_I_bitCount 7 = .ok (.iand, 1) := by decide +kernel
theorem d_I_bitCount_8 : decode b_I_bitCount 8 = .ok (.isub, 1) := by decide +kernel
theorem d_I_bitCount_9 : decode b_I_bitCount 9 = .ok (.istore_n 0, 1) := by decide +kernel
theorem d_I_bitCount_10 : decode b_I_bitCount 10 = .ok (.iload_n 0, 1) := by decide +kernel
theorem d_I_bitCount_11 : decode b_I_bitCount 11 = .ok (.ldc_w 266, 3) := by decide +kernel
theorem d_I_bitCount_14 : decode b_I_bitCount 14 = .ok (.iand, 1) := by decide +kernel
theorem d_I_bitCount_15 : decode b_I_bitCount 15 = .ok (.iload_n 0, 1) := by decide +kernel
theorem d_I_bitCount_16 : decode b_I_bitCount 16 = .ok (.iconst 2, 1) := by decide +kernel
theorem d_I_bitCount_17 : decode b_I_bitCount 17 = .ok (.iushr, 1) := by decide +kernel
theorem d_I_bitCount_18 : decode b_I_bitCount 18 = .ok (.ldc_w 266, 3) := by decide +kernel
theorem d_I_bitCount_21 : decode b_I_bitCount 21 = .ok (.iand, 1) := by decide +kernel
theorem d_I_bitCount_22 : decode b_I_bitCount 22 = .ok (.iadd, 1) := by decide +kernel
theorem d_I_bitCount_23 : decode b_I_bitCount 23 = .ok (.istore_n 0, 1) := by decide +kernel
theorem d_I_bitCount_24 : decode b_I_bitCount 24 = .ok (.iload_n 0, 1) := by decide +kernel
theorem d_I_bitCount_25 : decode b_I_bitCount 25 = .ok (.iload_n 0, 1) := by decide +kernel
theorem d_I_bitCount_26 : decode b_I_bitCount 26 = .ok (.iconst 4, 1) := by decide +kernel
theorem d_I_bitCount_27 : decode b_I_bitCount 27 = .ok (.iushr, 1) := by decide +kernel
theorem d_I_bitCount_28 : decode b_I_bitCount 28 = .ok (.iadd, 1) := by decide +kernel
theorem d_I_bitCount_29 : decode b_I_bitCount 29 = .ok (.ldc_w 267, 3) := by decide +kernel
theorem d_I_bitCount_32 : decode b_I_bitCount 32 = .ok (.iand, 1) := by decide +kernel
theorem d_I_bitCount_33 : decode b_I_bitCount 33 = .ok (.istore_n 0, 1) := by decide +kernel
theorem d_I_bitCount_34 : decode b_I_bitCount 34 = .ok (.iload_n 0, 1) := by decide +kernel
theorem d_I_bitCount_35 : decode b_I_bitCount 35 = .ok (.iload_n 0, 1) := by decide +kernel
theorem d_I_bitCount_36 : decode b_I_bitCount 36 = .ok (.bipush 8, 2) := by decide +kernel
theorem d_I_bitCount_38 : decode b_I_bitCount 38 = .ok (.iushr, 1) := by decide +kernel
theorem d_I_bitCount_39 : decode b_I_bitCount 39 = .ok (.iadd, 1) := by decide +kernel
theorem d_I_bitCount_40 : decode b_I_bitCount 40 = .ok (.istore_n 0, 1) := by decide +kernel
theorem d_I_bitCount_41 : decode b_I_bitCount 41 = .ok (.iload_n 0, 1) := by decide +kernel
theorem d_I_bitCount_42 : decode b_I_bitCount 42 = .ok (.iload_n 0, 1) := by decide +kernel
theorem d_I_bitCount_43 : decode b_I_bitCount 43 = .ok (.bipush 16, 2) := by decide +kernel
theorem d_I_bitCount_45 : decode b_I_bitCount 45 = .ok (.iushr, 1) := by decide +kernel
theorem d_I_bitCount_46 : decode b_I_bitCount 46 = .ok (.iadd, 1) := by decide +kernel
theorem d_I_bitCount_47 : decode b_I_bitCount 47 = .ok (.istore_n 0, 1) := by decide +kernel
theorem d_I_bitCount_48 : decode b_I_bitCount 48 = .ok (.iload_n 0, 1) := by decide +kernel
theorem d_I_bitCount_49 : decode b_I_bitCount 49 = .ok (.bipush 63, 2) := by decide +kernel
theorem d_I_bitCount_51 : decode b_I_bitCount 51 = .ok (.iand, 1) := by decide +kernel
theorem d_I_bitCount_52 : decode b_I_bitCount 52 = .ok (.ireturn, 1) := by decide +kernel
theorem mo_I_bitCount : mok y_I_bitCount b_I_bitCount 1 (some .int) 1 := ⟨List.mem_of_getElem? (i := 557) (by decide +kernel), ⟨by decide +kernel, by decide +kernel, by decide +kernel⟩, List.mem_of_getElem? (i := 88) (by decide +kernel), by decide⟩
set_option maxHeartbeats 4000000 in
theorem c_I_bitCount (l : Launch) (u : Un) (hA : Ap u) (σ : St) (n : Nat) (hn : n < 64) : MTi l u y_I_bitCount b_I_bitCount 1 .int 0 [.int (nI n)] σ (fun ans σ' => nI (pcN n) = ans ∧ σ = σ') := by
  refine MT_of hA rfl (by decide) (Nat.le_of_ble_eq_true rfl) (fun X hl F hr => ?_)
  subst hl
  refine v_to (ls' := [(0, .int (nI n))]) rfl ?_
  refine v_iload_n F d_I_bitCount_0 rfl 0 rfl ?_
  refine v_iload_n F d_I_bitCount_1 rfl 0 rfl ?_
  refine v_iconst (v := 1) F d_I_bitCount_2 ki_1 ?_
  refine v_iushr F d_I_bitCount_3 ?_
  refine v_ldcw (v := 1431655765) F kc_I_265 d_I_bitCount_4 ?_
  refine v_iand F d_I_bitCount_7 ?_
  refine v_isub F d_I_bitCount_8 ?_
  refine v_ni (fun x1 ex1 => ?_)
  refine v_istore_n (ls' := [(0, .int x1)]) F d_I_bitCount_9 rfl (by decide) rfl ?_
  refine v_iload_n F d_I_bitCount_10 rfl 0 rfl ?_
  refine v_ldcw (v := 858993459) F kc_I_266 d_I_bitCount_11 ?_
  refine v_iand F d_I_bitCount_14 ?_
  refine v_iload_n F d_I_bitCount_15 rfl 0 rfl ?_
  refine v_iconst (v := 2) F d_I_bitCount_16 ki_2 ?_
  refine v_iushr F d_I_bitCount_17 ?_
  refine v_ldcw (v := 858993459) F kc_I_266 d_I_bitCount_18 ?_
  refine v_iand F d_I_bitCount_21 ?_
  refine v_iadd F d_I_bitCount_22 ?_
  refine v_ni (fun x2 ex2 => ?_)
  refine v_istore_n (ls' := [(0, .int x2)]) F d_I_bitCount_23 rfl (by decide) rfl ?_
  refine v_iload_n F d_I_bitCount_24 rfl 0 rfl ?_
  refine v_iload_n F d_I_bitCount_25 rfl 0 rfl ?_
  refine v_iconst (v := 4) F d_I_bitCount_26 ki_4 ?_
  refine v_iushr F d_I_bitCount_27 ?_
  refine v_iadd F d_I_bitCount_28 ?_
  refine v_ldcw (v := 252645135) F kc_I_267 d_I_bitCount_29 ?_
  refine v_iand F d_I_bitCount_32 ?_
  refine v_ni (fun x3 ex3 => ?_)
  refine v_istore_n (ls' := [(0, .int x3)]) F d_I_bitCount_33 rfl (by decide) rfl ?_
  refine v_iload_n F d_I_bitCount_34 rfl 0 rfl ?_
  refine v_iload_n F d_I_bitCount_35 rfl 0 rfl ?_
  refine v_bipush (v := 8) F d_I_bitCount_36 kb_8 ?_
  refine v_iushr F d_I_bitCount_38 ?_
  refine v_iadd F d_I_bitCount_39 ?_
  refine v_ni (fun x4 ex4 => ?_)
  refine v_istore_n (ls' := [(0, .int x4)]) F d_I_bitCount_40 rfl (by decide) rfl ?_
  refine v_iload_n F d_I_bitCount_41 rfl 0 rfl ?_
  refine v_iload_n F d_I_bitCount_42 rfl 0 rfl ?_
  refine v_bipush (v := 16) F d_I_bitCount_43 kb_16 ?_
  refine v_iushr F d_I_bitCount_45 ?_
  refine v_iadd F d_I_bitCount_46 ?_
  refine v_ni (fun x5 ex5 => ?_)
  refine v_istore_n (ls' := [(0, .int x5)]) F d_I_bitCount_47 rfl (by decide) rfl ?_
  refine v_iload_n F d_I_bitCount_48 rfl 0 rfl ?_
  refine v_bipush (v := 63) F d_I_bitCount_49 kb_63 ?_
  refine v_iand F d_I_bitCount_51 ?_
  refine v_iret F hr rfl d_I_bitCount_52 ?_
  refine ⟨?_, rfl⟩
  subst_vars
  clear hr F hA
  revert hn
  revert n
  decide +kernel
abbrev b_M_bits : ByteArray := prog_14_method_4_code
abbrev y_M_bits : MethodName := ⟨"TakerBookModel", "bits", "(I)I"⟩
theorem d_M_bits_0 : decode b_M_bits 0 = .ok (.iconst 0, 1) := by decide +kernel
theorem d_M_bits_1 : decode b_M_bits 1 = .ok (.istore_n 1, 1) := by decide +kernel
theorem d_M_bits_2 : decode b_M_bits 2 = .ok (.iload_n 0, 1) := by decide +kernel
theorem d_M_bits_3 : decode b_M_bits 3 = .ok (.istore_n 2, 1) := by decide +kernel
theorem d_M_bits_4 : decode b_M_bits 4 = .ok (.iload_n 2, 1) := by decide +kernel
theorem d_M_bits_5 : decode b_M_bits 5 = .ok (.ifCond .eq 15, 3) := by decide +kernel
theorem d_M_bits_8 : decode b_M_bits 8 = .ok (.iinc 1 1, 3) := by decide +kernel
theorem d_M_bits_11 : decode b_M_bits 11 = .ok (.iload_n 2, 1) := by decide +kernel
theorem d_M_bits_12 : decode b_M_bits 12 = .ok (.iload_n 2, 1) := by decide +kernel
theorem d_M_bits_13 : decode b_M_bits 13 = .ok (.iconst 1, 1) := by decide +kernel
theorem d_M_bits_14 : decode b_M_bits 14 = .ok (.isub, 1) := by decide +kernel
theorem d_M_bits_15 : decode b_M_bits 15 = .ok (.iand, 1) := by decide +kernel
theorem d_M_bits_16 : decode b_M_bits 16 = .ok (.istore_n 2, 1) := by decide +kernel
theorem d_M_bits_17 : decode b_M_bits 17 = .ok (.goto (-13), 3) := by decide +kernel
theorem d_M_bits_20 : decode b_M_bits 20 = .ok (.iload_n 1, 1) := by decide +kernel
theorem d_M_bits_21 : decode b_M_bits 21 = .ok (.ireturn, 1) := by decide +kernel
theorem mo_M_bits : mok y_M_bits b_M_bits 3 (some .int) 1 := ⟨List.mem_of_getElem? (i := 1252) (by decide +kernel), ⟨by decide +kernel, by decide +kernel, by decide +kernel⟩, List.mem_of_getElem? (i := 86) (by decide +kernel), by decide⟩
set_option maxHeartbeats 4000000 in
theorem L_M_bits_4 {X : FX} {u : Un} (hA : Ap u) {Q : State → Prop} (F : Fr X u "TakerBookModel" b_M_bits 3) {σ : St} {z : Int32} {t : Nat} (k0 : ∀ (s : Nat) (c : Nat), c = t → V X u 0 3 Q 20 [(1, .int (nI c))] [] (σ)) : ∀ (nn : Nat) (s : Nat) (c : Nat), s < 64 → pcN s + c = t → s < nn → V X u 0 3 Q 4 [(0, .int z), (1, .int (nI c)), (2, .int (nI s))] [] (σ) := by
  intro nn
  induction nn with
  | zero =>
    intro s c hs hc h2
    exact absurd h2 (Nat.not_lt_zero _)
  | succ nn ih =>
    intro s c hs hc hm
    refine v_iload_n F d_M_bits_4 rfl 2 rfl ?_
    refine v_if_eq F 20 d_M_bits_5 rfl (fun h5 => ?_) (fun h5 => ?_)
    · skip
      have h5 : s = 0 := (nI_eq (a := s) (b := 0) (by omega) (by omega)).mp h5
      refine v_sub [1] (ls' := [(1, .int (nI c))]) rfl ?_
      exact k0 s c (pc0 (by omega) hc)
    · skip
      have h5 : ¬ s = 0 := fun q => h5 ((nI_eq (a := s) (b := 0) (by omega) (by omega)).mpr q)
      refine v_iinc (v := nI (c + 1)) (ls' := [(1, .int (nI (c + 1))), (0, .int z), (2, .int (nI s))]) F d_M_bits_8 (j := 1) rfl (nI_inc _) (by decide) rfl ?_
      refine v_iload_n F d_M_bits_11 rfl 2 rfl ?_
      refine v_iload_n F d_M_bits_12 rfl 2 rfl ?_
      refine v_iconst (v := 1) F d_M_bits_13 ki_1 ?_
      refine v_isub F d_M_bits_14 ?_
      refine v_iand F d_M_bits_15 ?_
      refine v_te (y := nI (s &&& (s - 1))) (bits_step (by omega)) ?_
      refine v_ni (fun x1 ex1 => ?_)
      refine v_istore_n (ls' := [(2, .int x1), (1, .int (nI (c + 1))), (0, .int z)]) F d_M_bits_16 rfl (by decide) rfl ?_
      refine v_goto F 4 d_M_bits_17 rfl ?_
      refine v_sub [2, 1, 0] (ls' := [(0, .int z), (1, .int (nI (c + 1))), (2, .int x1)]) rfl ?_
      have g2 : x1 = (nI (s &&& (s - 1))) := (by first | rfl | (simp_all; done) | grind)
      refine v_to (ls' := [(0, .int z), (1, .int (nI (c + 1))), (2, .int (nI (s &&& (s - 1))))]) (by first | rfl | rw [g2] | simp_all) ?_
      exact ih (s &&& (s - 1)) (c + 1) (by have := (pc_and s hs (by omega)).1; omega) (by have := (pc_and s hs (by omega)).2; omega) (by have := (pc_and s hs (by omega)).1; omega)
set_option maxHeartbeats 4000000 in
theorem c_M_bits (l : Launch) (u : Un) (hA : Ap u) (σ : St) (n : Nat) (hn : n < 64) : MTi l u y_M_bits b_M_bits 3 .int 0 [.int (nI n)] σ (fun ans σ' => nI (pcN n) = ans ∧ σ = σ') := by
  refine MT_of hA rfl (by decide) (Nat.le_of_ble_eq_true rfl) (fun X hl F hr => ?_)
  subst hl
  refine v_to (ls' := [(0, .int (nI n))]) rfl ?_
  refine v_iconst (v := 0) F d_M_bits_0 ki_0 ?_
  refine v_istore_n (ls' := [(1, .int 0), (0, .int (nI n))]) F d_M_bits_1 rfl (by decide) rfl ?_
  refine v_iload_n F d_M_bits_2 rfl 1 rfl ?_
  refine v_istore_n (ls' := [(2, .int (nI n)), (1, .int 0), (0, .int (nI n))]) F d_M_bits_3 rfl (by decide) rfl ?_
  refine v_sub [2, 1, 0] (ls' := [(0, .int (nI n)), (1, .int (nI 0)), (2, .int (nI n))]) rfl ?_
  refine L_M_bits_4 (t := pcN n) hA F (fun s c hct => ?_) _ n 0 hn (by omega) (Nat.lt_succ_self _)
  subst hct
  refine v_iload_n F d_M_bits_20 rfl 0 rfl ?_
  refine v_iret F hr rfl d_M_bits_21 ?_
  exact ⟨rfl, rfl⟩
end
section
-- quotients, findings
theorem le_trans1 {x : Int32} (h : ¬ x < 1) : 0 ≤ x := by
  simp only [Int32.lt_iff_toInt_lt, Int32.le_iff_toInt_le] at *
  have h1 : (1 : Int32).toInt = 1 := rfl
  have h2 : (0 : Int32).toInt = 0 := rfl
  omega
theorem lt6 {x : Int32} (h : ¬ x < 1) (h5 : x ≤ 5) : ix x < 6 := by
  obtain ⟨j, hj, e, rfl⟩ := nat_of (M := 5) (le_trans1 h) h5 rfl (by decide)
  omega
theorem gcd_p {a b : Nat} (hb : 0 < b) : 0 < Nat.gcd a b := Nat.gcd_pos_of_pos_right a hb
theorem gcd_lt {a b n : Nat} (h : b < n) (hb : 0 < b) : Nat.gcd a b < n := Nat.lt_of_le_of_lt (Nat.gcd_le_right a hb) h
theorem nlt_of_le {x : Int32} (h : x ≤ 0) : ¬ 0 < x := i_nlt.mpr h
end
section
theorem pk_M_upper : pok 12 3 .long := ⟨(R_M, F_M, 40), rfl, rfl, by decide +kernel⟩
theorem pk_M_lower : pok 12 4 .long := ⟨(R_M, F_M, 40), rfl, rfl, by decide +kernel⟩
theorem fk_M_23 : fok "TakerBookModel" 23 12 7 := ⟨(R_M, F_M, 40), rfl, by decide, List.mem_of_getElem? (i := 986) (by decide +kernel), rfl⟩
theorem G67 : Gam[67]? = some (.inl (.int, 40)) := rfl
abbrev b_T_findings : ByteArray := prog_1_method_44_code
abbrev y_T_findings : MethodName := ⟨"TakerBook", "findings", "(I)I"⟩
theorem d_T_findings_0 : decode b_T_findings 0 = .ok (.iload_n 1, 1) := by decide +kernel
theorem d_T_findings_1 : decode b_T_findings 1 = .ok (.iconst 1, 1) := by decide +kernel
theorem d_T_findings_2 : decode b_T_findings 2 = .ok (.if_icmp .lt 8, 3) := by decide +kernel
theorem d_T_findings_5 : decode b_T_findings 5 = .ok (.iload_n 1, 1) := by decide +kernel
theorem d_T_findings_6 : decode b_T_findings 6 = .ok (.iconst 5, 1) := by decide +kernel
theorem d_T_findings_7 : decode b_T_findings 7 = .ok (.if_icmp .le 7, 3) := by decide +kernel
theorem d_T_findings_10 : decode b_T_findings 10 = .ok (.iconst (-1), 1) := by decide +kernel
theorem d_T_findings_11 : decode b_T_findings 11 = .ok (.goto 9, 3) := by decide +kernel
theorem d_T_findings_14 : decode b_T_findings 14 = .ok (.aload_n 0, 1) := by decide +kernel
theorem d_T_findings_15 : decode b_T_findings 15 = .ok (.getfield 65, 3) := by decide +kernel
theorem d_T_findings_18 : decode b_T_findings 18 = .ok (.iload_n 1, 1) := by decide +kernel
theorem d_T_findings_19 : decode b_T_findings 19 = .ok (.iaload, 1) := by decide +kernel
theorem d_T_findings_20 : decode b_T_findings 20 = .ok (.ireturn, 1) := by decide +kernel
theorem mo_T_findings : mok y_T_findings b_T_findings 2 (some .int) 1 := ⟨List.mem_of_getElem? (i := 965) (by decide +kernel), ⟨by decide +kernel, by decide +kernel, by decide +kernel⟩, List.mem_of_getElem? (i := 74) (by decide +kernel), by decide⟩
set_option maxHeartbeats 4000000 in
theorem c_T_findings (l : Launch) (u : Un) (hA : Ap u) (σ : St) (f : Int32) : MTi l u y_T_findings b_T_findings 2 .int 1 [.ref (u.2.1 0), .int f] σ (fun ans σ' => (if 1 ≤ f ∧ f ≤ 5 then σ.1 62 (ix f) else -1) = ans ∧ σ = σ') := by
  refine MT_of hA rfl (by decide) (Nat.le_of_ble_eq_true rfl) (fun X hl F hr => ?_)
  subst hl
  refine v_to (ls' := [(0, .ref (u.2.1 0)), (1, .int f)]) rfl ?_
  refine v_iload_n F d_T_findings_0 rfl 1 rfl ?_
  refine v_iconst (v := 1) F d_T_findings_1 ki_1 ?_
  refine v_icmp_lt F 10 d_T_findings_2 rfl (fun h2 => ?_) (fun h2 => ?_)
  · skip
    refine v_iconst (v := (-1)) F d_T_findings_10 ki_m1 ?_
    refine v_goto F 20 d_T_findings_11 rfl ?_
    refine v_iret F hr rfl d_T_findings_20 ?_
    exact ⟨by first | (simp_all; done) | grind, rfl⟩
  · skip
    refine v_iload_n F d_T_findings_5 rfl 1 rfl ?_
    refine v_iconst (v := 5) F d_T_findings_6 ki_5 ?_
    refine v_icmp_le F 14 d_T_findings_7 rfl (fun h7 => ?_) (fun h7 => ?_)
    · skip
      refine v_aload_n F d_T_findings_14 rfl 0 rfl ?_
      refine v_getr (r := 62) F fk_T_65 G0 rfl d_T_findings_15 ?_
      refine v_iload_n F d_T_findings_18 rfl 1 rfl ?_
      refine v_ial F (ix f) G62 (ix_eq (le_trans1 h2)) (lt6 h2 h7) d_T_findings_19 ?_
      refine v_iret F hr rfl d_T_findings_20 ?_
      exact ⟨by first | (simp_all; done) | grind, rfl⟩
    · skip
      refine v_iconst (v := (-1)) F d_T_findings_10 ki_m1 ?_
      refine v_goto F 20 d_T_findings_11 rfl ?_
      refine v_iret F hr rfl d_T_findings_20 ?_
      exact ⟨by first | (simp_all; done) | grind, rfl⟩
abbrev b_M_findings : ByteArray := prog_14_method_7_code
abbrev y_M_findings : MethodName := ⟨"TakerBookModel", "findings", "(I)I"⟩
theorem d_M_findings_0 : decode b_M_findings 0 = .ok (.iload_n 1, 1) := by decide +kernel
theorem d_M_findings_1 : decode b_M_findings 1 = .ok (.iconst 1, 1) := by decide +kernel
theorem d_M_findings_2 : decode b_M_findings 2 = .ok (.iconst 5, 1) := by decide +kernel
theorem d_M_findings_3 : decode b_M_findings 3 = .ok (.invokestatic 89, 3) := by decide +kernel
theorem d_M_findings_6 : decode b_M_findings 6 = .ok (.ifCond .eq 12, 3) := by decide +kernel
theorem d_M_findings_9 : decode b_M_findings 9 = .ok (.aload_n 0, 1) := by decide +kernel
theorem d_M_findings_10 : decode b_M_findings 10 = .ok (.getfield 7, 3) := by decide +kernel
theorem d_M_findings_13 : decode b_M_findings 13 = .ok (.iload_n 1, 1) := by decide +kernel
theorem d_M_findings_14 : decode b_M_findings 14 = .ok (.iaload, 1) := by decide +kernel
theorem d_M_findings_15 : decode b_M_findings 15 = .ok (.goto 4, 3) := by decide +kernel
theorem d_M_findings_18 : decode b_M_findings 18 = .ok (.iconst (-1), 1) := by decide +kernel
theorem d_M_findings_19 : decode b_M_findings 19 = .ok (.ireturn, 1) := by decide +kernel
theorem mo_M_findings : mok y_M_findings b_M_findings 2 (some .int) 1 := ⟨List.mem_of_getElem? (i := 1107) (by decide +kernel), ⟨by decide +kernel, by decide +kernel, by decide +kernel⟩, List.mem_of_getElem? (i := 86) (by decide +kernel), by decide⟩
set_option maxHeartbeats 4000000 in
theorem c_M_findings (l : Launch) (u : Un) (hA : Ap u) (σ : St) (f : Int32) : MTi l u y_M_findings b_M_findings 2 .int 1 [.ref (u.2.1 63), .int f] σ (fun ans σ' => (if 1 ≤ f ∧ f ≤ 5 then σ.1 64 (ix f) else -1) = ans ∧ σ = σ') := by
  refine MT_of hA rfl (by decide) (Nat.le_of_ble_eq_true rfl) (fun X hl F hr => ?_)
  subst hl
  refine v_to (ls' := [(0, .ref (u.2.1 63)), (1, .int f)]) rfl ?_
  refine v_iload_n F d_M_findings_0 rfl 1 rfl ?_
  refine v_iconst (v := 1) F d_M_findings_1 ki_1 ?_
  refine v_iconst (v := 5) F d_M_findings_2 ki_5 ?_
  refine v_runi (r_S F (c_M_in X.2.1 u hA σ f 1 5 ) mo_M_in st_M_89 (by decide) rfl (Nat.le_of_ble_eq_true rfl) d_M_findings_3) (fun r1 σ2 q3 => ?_)
  obtain ⟨rfl, rfl⟩ := q3
  refine v_bt F 18 d_M_findings_6 rfl (fun h6 => ?_) (fun h6 => ?_)
  · skip
    refine v_iconst (v := (-1)) F d_M_findings_18 ki_m1 ?_
    refine v_iret F hr rfl d_M_findings_19 ?_
    exact ⟨by first | (simp_all; done) | grind, rfl⟩
  · skip
    refine v_aload_n F d_M_findings_9 rfl 0 rfl ?_
    refine v_getr (r := 64) F fk_M_7 G63 rfl d_M_findings_10 ?_
    refine v_iload_n F d_M_findings_13 rfl 1 rfl ?_
    refine v_ial F (ix f) G64 (ix_eq (le_trans1 (i_nlt.mpr h6.1))) (lt6 (i_nlt.mpr h6.1) h6.2) d_M_findings_14 ?_
    refine v_goto F 19 d_M_findings_15 rfl ?_
    refine v_iret F hr rfl d_M_findings_19 ?_
    exact ⟨by first | (simp_all; done) | grind, rfl⟩
abbrev b_M_fraction : ByteArray := prog_14_method_10_code
abbrev y_M_fraction : MethodName := ⟨"TakerBookModel", "fraction", "(JJ)I"⟩
theorem d_M_fraction_0 : decode b_M_fraction 0 = .ok (.lload_n 1, 1) := by decide +kernel
theorem d_M_fraction_1 : decode b_M_fraction 1 = .ok (.lstore 5, 2) := by decide +kernel
theorem d_M_fraction_3 : decode b_M_fraction 3 = .ok (.lload_n 3, 1) := by decide +kernel
theorem d_M_fraction_4 : decode b_M_fraction 4 = .ok (.lstore 7, 2) := by decide +kernel
theorem d_M_fraction_6 : decode b_M_fraction 6 = .ok (.lload 7, 2) := by decide +kernel
theorem d_M_fraction_8 : decode b_M_fraction 8 = .ok (.lconst 0, 1) := by decide +kernel
theorem d_M_fraction_9 : decode b_M_fraction 9 = .ok (.lcmp, 1) := by decide +kernel
theorem d_M_fraction_10 : decode b_M_fraction 10 = .ok (.ifCond .eq 21, 3) := by decide +kernel
theorem d_M_fraction_13 : decode b_M_fraction 13 = .ok (.lload 5, 2) := by decide +kernel
theorem d_M_fraction_15 : decode b_M_fraction 15 = .ok (.lload 7, 2) := by decide +kernel
theorem d_M_fraction_17 : decode b_M_fraction 17 = .ok (.lrem, 1) := by decide +kernel
theorem d_M_fraction_18 : decode b_M_fraction 18 = .ok (.lstore 9, 2) := by decide +kernel
theorem d_M_fraction_20 : decode b_M_fraction 20 = .ok (.lload 7, 2) := by decide +kernel
theorem d_M_fraction_22 : decode b_M_fraction 22 = .ok (.lstore 5, 2) := by decide +kernel
theorem d_M_fraction_24 : decode b_M_fraction 24 = .ok (.lload 9, 2) := by decide +kernel
theorem d_M_fraction_26 : decode b_M_fraction 26 = .ok (.lstore 7, 2) := by decide +kernel
theorem d_M_fraction_28 : decode b_M_fraction 28 = .ok (.goto (-22), 3) := by decide +kernel
theorem d_M_fraction_31 : decode b_M_fraction 31 = .ok (.aload_n 0, 1) := by decide +kernel
theorem d_M_fraction_32 : decode b_M_fraction 32 = .ok (.lload_n 1, 1) := by decide +kernel
theorem d_M_fraction_33 : decode b_M_fraction 33 = .ok (.lload 5, 2) := by decide +kernel
theorem d_M_fraction_35 : decode b_M_fraction 35 = .ok (.ldiv, 1) := by decide +kernel
theorem d_M_fraction_36 : decode b_M_fraction 36 = .ok (.putfield 96, 3) := by decide +kernel
theorem d_M_fraction_39 : decode b_M_fraction 39 = .ok (.aload_n 0, 1) := by decide +kernel
theorem d_M_fraction_40 : decode b_M_fraction 40 = .ok (.lload_n 3, 1) := by decide +kernel
theorem d_M_fraction_41 : decode b_M_fraction 41 = .ok (.lload 5, 2) := by decide +kernel
theorem d_M_fraction_43 : decode b_M_fraction 43 = .ok (.ldiv, 1) := by decide +kernel
theorem d_M_fraction_44 : decode b_M_fraction 44 = .ok (.putfield 13, 3) := by decide +kernel
theorem d_M_fraction_47 : decode b_M_fraction 47 = .ok (.iconst 1, 1) := by decide +kernel
theorem d_M_fraction_48 : decode b_M_fraction 48 = .ok (.ireturn, 1) := by decide +kernel
theorem mo_M_fraction : mok y_M_fraction b_M_fraction 11 (some .int) 2 := ⟨List.mem_of_getElem? (i := 1377) (by decide +kernel), ⟨by decide +kernel, by decide +kernel, by decide +kernel⟩, List.mem_of_getElem? (i := 86) (by decide +kernel), by decide⟩
set_option maxHeartbeats 4000000 in
theorem L_M_fraction_6 {X : FX} {u : Un} (hA : Ap u) {Q : State → Prop} (F : Fr X u "TakerBookModel" b_M_fraction 11) {σ : St} {a b : Nat} (k0 : ∀ (x : Nat) (y : Nat), y = 0 → Nat.gcd x y = Nat.gcd a b → V X u 0 11 Q 31 [(0, .ref (u.2.1 63)), (1, .long (lN a)), (3, .long (lN b)), (5, .long (lN x)), (7, .long (lN y))] [] (σ)) : ∀ (nn : Nat) (x : Nat) (y : Nat), x < 4611686018427387904 → y < 4611686018427387904 → Nat.gcd x y = Nat.gcd a b → y < nn → V X u 0 11 Q 6 [(0, .ref (u.2.1 63)), (1, .long (lN a)), (3, .long (lN b)), (5, .long (lN x)), (7, .long (lN y))] [] (σ) := by
  intro nn
  induction nn with
  | zero =>
    intro x y hx hy hg h2
    exact absurd h2 (Nat.not_lt_zero _)
  | succ nn ih =>
    intro x y hx hy hg hm
    refine v_lload F d_M_fraction_6 4 rfl ?_
    refine v_lconst (v := 0) F d_M_fraction_8 rfl ?_
    refine v_lcmp F d_M_fraction_9 ?_
    refine v_if_eq F 31 d_M_fraction_10 rfl (fun h10 => ?_) (fun h10 => ?_)
    · skip
      exact k0 x y ((lg0 (by omega)).mp h10) hg
    · skip
      have hy0 : 0 < y := Nat.pos_of_ne_zero (fun q => h10 ((lg0 (by omega)).mpr q))
      refine v_lload F d_M_fraction_13 3 rfl ?_
      refine v_lload F d_M_fraction_15 4 rfl ?_
      refine v_lrem F d_M_fraction_17 (lne0 hy hy0) ?_
      refine v_tl (y := (lN (x % y))) (lrem_N hx hy hy0) ?_
      refine v_lstore (ls' := [(9, .long (lN (x % y))), (0, .ref (u.2.1 63)), (1, .long (lN a)), (3, .long (lN b)), (5, .long (lN x)), (7, .long (lN y))]) F d_M_fraction_18 (by decide) rfl ?_
      refine v_lload F d_M_fraction_20 5 rfl ?_
      refine v_lstore (ls' := [(5, .long (lN y)), (9, .long (lN (x % y))), (0, .ref (u.2.1 63)), (1, .long (lN a)), (3, .long (lN b)), (7, .long (lN y))]) F d_M_fraction_22 (by decide) rfl ?_
      refine v_lload F d_M_fraction_24 1 rfl ?_
      refine v_lstore (ls' := [(7, .long (lN (x % y))), (5, .long (lN y)), (9, .long (lN (x % y))), (0, .ref (u.2.1 63)), (1, .long (lN a)), (3, .long (lN b))]) F d_M_fraction_26 (by decide) rfl ?_
      refine v_goto F 6 d_M_fraction_28 rfl ?_
      refine v_sub [3, 4, 5, 1, 0] (ls' := [(0, .ref (u.2.1 63)), (1, .long (lN a)), (3, .long (lN b)), (5, .long (lN y)), (7, .long (lN (x % y)))]) rfl ?_
      exact ih (y) (x % y) hy (Nat.lt_of_lt_of_le (Nat.mod_lt x hy0) (Nat.le_of_lt hy)) (gcd_step hg hy0) (by have := Nat.mod_lt x hy0; omega)
set_option maxHeartbeats 4000000 in
theorem c_M_fraction (l : Launch) (u : Un) (hA : Ap u) (σ : St) (a b : Nat) (ha : a < 4611686018427387904) (hb : b < 4611686018427387904) (hb0 : 0 < b) : MTi l u y_M_fraction b_M_fraction 11 .int 0 [.ref (u.2.1 63), .long (lN a), .long (lN b)] σ (fun ans σ' => 1 = ans ∧ σ' = uL (uL σ 63 3 (lN (a / Nat.gcd a b))) 63 4 (lN (b / Nat.gcd a b))) := by
  refine MT_of hA rfl (by decide) (Nat.le_of_ble_eq_true rfl) (fun X hl F hr => ?_)
  subst hl
  refine v_to (ls' := [(0, .ref (u.2.1 63)), (1, .long (lN a)), (3, .long (lN b))]) rfl ?_
  refine v_lload_n F d_M_fraction_0 rfl 1 rfl ?_
  refine v_lstore (ls' := [(5, .long (lN a)), (0, .ref (u.2.1 63)), (1, .long (lN a)), (3, .long (lN b))]) F d_M_fraction_1 (by decide) rfl ?_
  refine v_lload_n F d_M_fraction_3 rfl 3 rfl ?_
  refine v_lstore (ls' := [(7, .long (lN b)), (5, .long (lN a)), (0, .ref (u.2.1 63)), (1, .long (lN a)), (3, .long (lN b))]) F d_M_fraction_4 (by decide) rfl ?_
  refine v_sub [2, 3, 4, 1, 0] (ls' := [(0, .ref (u.2.1 63)), (1, .long (lN a)), (3, .long (lN b)), (5, .long (lN a)), (7, .long (lN b))]) rfl ?_
  refine L_M_fraction_6 (a := a) (b := b) hA F (fun x y hy0 hg => ?_) _ a b ha hb rfl (Nat.lt_succ_self _)
  subst hy0
  obtain rfl := gcd_le0 hg
  refine v_aload_n F d_M_fraction_31 rfl 0 rfl ?_
  refine v_lload_n F d_M_fraction_32 rfl 1 rfl ?_
  refine v_lload F d_M_fraction_33 3 rfl ?_
  refine v_ldiv F d_M_fraction_35 (lne0 (gcd_lt hb hb0) (gcd_p hb0)) ?_
  refine v_tl (y := (lN (a / Nat.gcd a b))) (ldiv_N ha (gcd_lt hb hb0) (gcd_p hb0)) ?_
  refine v_putl F fk_M_96 pk_M_upper G63 rfl d_M_fraction_36 ?_
  refine v_ns (fun σ1 eσ1 => ?_)
  refine v_aload_n F d_M_fraction_39 rfl 0 rfl ?_
  refine v_lload_n F d_M_fraction_40 rfl 2 rfl ?_
  refine v_lload F d_M_fraction_41 3 rfl ?_
  refine v_ldiv F d_M_fraction_43 (lne0 (gcd_lt hb hb0) (gcd_p hb0)) ?_
  refine v_tl (y := (lN (b / Nat.gcd a b))) (ldiv_N hb (gcd_lt hb hb0) (gcd_p hb0)) ?_
  refine v_putl F fk_M_13 pk_M_lower G63 rfl d_M_fraction_44 ?_
  refine v_ns (fun σ2 eσ2 => ?_)
  refine v_iconst (v := 1) F d_M_fraction_47 ki_1 ?_
  refine v_iret F hr rfl d_M_fraction_48 ?_
  exact ⟨rfl, by simp [*]⟩
abbrev b_M_copy : ByteArray := prog_14_method_19_code
abbrev y_M_copy : MethodName := ⟨"TakerBookModel", "copy", "(IIIII)I"⟩
theorem d_M_copy_0 : decode b_M_copy 0 = .ok (.iload_n 1, 1) := by decide +kernel
theorem d_M_copy_1 : decode b_M_copy 1 = .ok (.invokestatic 99, 3) := by decide +kernel
theorem d_M_copy_4 : decode b_M_copy 4 = .ok (.ifCond .eq 10, 3) := by decide +kernel
theorem d_M_copy_7 : decode b_M_copy 7 = .ok (.iload_n 3, 1) := by decide +kernel
theorem d_M_copy_8 : decode b_M_copy 8 = .ok (.invokestatic 99, 3) := by decide +kernel
theorem d_M_copy_11 : decode b_M_copy 11 = .ok (.ifCond .ne 5, 3) := by decide +kernel
theorem d_M_copy_14 : decode b_M_copy 14 = .ok (.iconst (-1), 1) := by decide +kernel
theorem d_M_copy_15 : decode b_M_copy 15 = .ok (.ireturn, 1) := by decide +kernel
theorem d_M_copy_16 : decode b_M_copy 16 = .ok (.iload 5, 2) := by decide +kernel
theorem d_M_copy_18 : decode b_M_copy 18 = .ok (.ifCond .ge 9, 3) := by decide +kernel
theorem d_M_copy_21 : decode b_M_copy 21 = .ok (.aload_n 0, 1) := by decide +kernel
theorem d_M_copy_22 : decode b_M_copy 22 = .ok (.iconst 5, 1) := by decide +kernel
theorem d_M_copy_23 : decode b_M_copy 23 = .ok (.invokevirtual 103, 3) := by decide +kernel
theorem d_M_copy_26 : decode b_M_copy 26 = .ok (.ireturn, 1) := by decide +kernel
theorem d_M_copy_27 : decode b_M_copy 27 = .ok (.aload_n 0, 1) := by decide +kernel
theorem d_M_copy_28 : decode b_M_copy 28 = .ok (.getfield 17, 3) := by decide +kernel
theorem d_M_copy_31 : decode b_M_copy 31 = .ok (.iload_n 1, 1) := by decide +kernel
theorem d_M_copy_32 : decode b_M_copy 32 = .ok (.iaload, 1) := by decide +kernel
theorem d_M_copy_33 : decode b_M_copy 33 = .ok (.ifCond .lt 12, 3) := by decide +kernel
theorem d_M_copy_36 : decode b_M_copy 36 = .ok (.aload_n 0, 1) := by decide +kernel
theorem d_M_copy_37 : decode b_M_copy 37 = .ok (.getfield 17, 3) := by decide +kernel
theorem d_M_copy_40 : decode b_M_copy 40 = .ok (.iload_n 3, 1) := by decide +kernel
theorem d_M_copy_41 : decode b_M_copy 41 = .ok (.iaload, 1) := by decide +kernel
theorem d_M_copy_42 : decode b_M_copy 42 = .ok (.ifCond .ge 9, 3) := by decide +kernel
theorem d_M_copy_45 : decode b_M_copy 45 = .ok (.aload_n 0, 1) := by decide +kernel
theorem d_M_copy_46 : decode b_M_copy 46 = .ok (.iconst 1, 1) := by decide +kernel
theorem d_M_copy_47 : decode b_M_copy 47 = .ok (.invokevirtual 103, 3) := by decide +kernel
theorem d_M_copy_50 : decode b_M_copy 50 = .ok (.ireturn, 1) := by decide +kernel
theorem d_M_copy_51 : decode b_M_copy 51 = .ok (.iload_n 2, 1) := by decide +kernel
theorem d_M_copy_52 : decode b_M_copy 52 = .ok (.ifCond .lt 43, 3) := by decide +kernel
theorem d_M_copy_55 : decode b_M_copy 55 = .ok (.iload 4, 2) := by decide +kernel
theorem d_M_copy_57 : decode b_M_copy 57 = .ok (.ifCond .lt 38, 3) := by decide +kernel
theorem d_M_copy_60 : decode b_M_copy 60 = .ok (.iload_n 2, 1) := by decide +kernel
theorem d_M_copy_61 : decode b_M_copy 61 = .ok (.i2l, 1) := by decide +kernel
theorem d_M_copy_62 : decode b_M_copy 62 = .ok (.iload 5, 2) := by decide +kernel
theorem d_M_copy_64 : decode b_M_copy 64 = .ok (.i2l, 1) := by decide +kernel
theorem d_M_copy_65 : decode b_M_copy 65 = .ok (.ladd, 1) := by decide +kernel
theorem d_M_copy_66 : decode b_M_copy 66 = .ok (.aload_n 0, 1) := by decide +kernel
theorem d_M_copy_67 : decode b_M_copy 67 = .ok (.getfield 17, 3) := by decide +kernel
theorem d_M_copy_70 : decode b_M_copy 70 = .ok (.iload_n 1, 1) := by decide +kernel
theorem d_M_copy_71 : decode b_M_copy 71 = .ok (.iaload, 1) := by decide +kernel
theorem d_M_copy_72 : decode b_M_copy 72 = .ok (.i2l, 1) := by decide +kernel
theorem d_M_copy_73 : decode b_M_copy 73 = .ok (.lcmp, 1) := by decide +kernel
theorem d_M_copy_74 : decode b_M_copy 74 = .ok (.ifCond .gt 21, 3) := by decide +kernel
theorem d_M_copy_77 : decode b_M_copy 77 = .ok (.iload 4, 2) := by decide +kernel
theorem d_M_copy_79 : decode b_M_copy 79 = .ok (.i2l, 1) := by decide +kernel
theorem d_M_copy_80 : decode b_M_copy 80 = .ok (.iload 5, 2) := by decide +kernel
theorem d_M_copy_82 : decode b_M_copy 82 = .ok (.i2l, 1) := by decide +kernel
theorem d_M_copy_83 : decode b_M_copy 83 = .ok (.ladd, 1) := by decide +kernel
theorem d_M_copy_84 : decode b_M_copy 84 = .ok (.aload_n 0, 1) := by decide +kernel
theorem d_M_copy_85 : decode b_M_copy 85 = .ok (.getfield 17, 3) := by decide +kernel
theorem d_M_copy_88 : decode b_M_copy 88 = .ok (.iload_n 3, 1) := by decide +kernel
theorem d_M_copy_89 : decode b_M_copy 89 = .ok (.iaload, 1) := by decide +kernel
theorem d_M_copy_90 : decode b_M_copy 90 = .ok (.i2l, 1) := by decide +kernel
theorem d_M_copy_91 : decode b_M_copy 91 = .ok (.lcmp, 1) := by decide +kernel
theorem d_M_copy_92 : decode b_M_copy 92 = .ok (.ifCond .le 9, 3) := by decide +kernel
theorem d_M_copy_95 : decode b_M_copy 95 = .ok (.aload_n 0, 1) := by decide +kernel
theorem d_M_copy_96 : decode b_M_copy 96 = .ok (.iconst 2, 1) := by decide +kernel
theorem d_M_copy_97 : decode b_M_copy 97 = .ok (.invokevirtual 103, 3) := by decide +kernel
theorem d_M_copy_100 : decode b_M_copy 100 = .ok (.ireturn, 1) := by decide +kernel
theorem d_M_copy_101 : decode b_M_copy 101 = .ok (.iconst 0, 1) := by decide +kernel
theorem d_M_copy_102 : decode b_M_copy 102 = .ok (.istore 6, 2) := by decide +kernel
theorem d_M_copy_104 : decode b_M_copy 104 = .ok (.iload 6, 2) := by decide +kernel
theorem d_M_copy_106 : decode b_M_copy 106 = .ok (.iload 5, 2) := by decide +kernel
theorem d_M_copy_108 : decode b_M_copy 108 = .ok (.if_icmp .ge 25, 3) := by decide +kernel
theorem d_M_copy_111 : decode b_M_copy 111 = .ok (.aload_n 0, 1) := by decide +kernel
theorem d_M_copy_112 : decode b_M_copy 112 = .ok (.getfield 23, 3) := by decide +kernel
theorem d_M_copy_115 : decode b_M_copy 115 = .ok (.iload 6, 2) := by decide +kernel
theorem d_M_copy_117 : decode b_M_copy 117 = .ok (.aload_n 0, 1) := by decide +kernel
theorem d_M_copy_118 : decode b_M_copy 118 = .ok (.iload_n 1, 1) := by decide +kernel
theorem d_M_copy_119 : decode b_M_copy 119 = .ok (.iload_n 2, 1) := by decide +kernel
theorem d_M_copy_120 : decode b_M_copy 120 = .ok (.iload 6, 2) := by decide +kernel
theorem d_M_copy_122 : decode b_M_copy 122 = .ok (.iadd, 1) := by decide +kernel
theorem d_M_copy_123 : decode b_M_copy 123 = .ok (.invokevirtual 107, 3) := by decide +kernel
theorem d_M_copy_126 : decode b_M_copy 126 = .ok (.iastore, 1) := by decide +kernel
theorem d_M_copy_127 : decode b_M_copy 127 = .ok (.iinc 6 1, 3) := by decide +kernel
theorem d_M_copy_130 : decode b_M_copy 130 = .ok (.goto (-26), 3) := by decide +kernel
theorem d_M_copy_133 : decode b_M_copy 133 = .ok (.iconst 0, 1) := by decide +kernel
theorem d_M_copy_134 : decode b_M_copy 134 = .ok (.istore 6, 2) := by decide +kernel
theorem d_M_copy_136 : decode b_M_copy 136 = .ok (.iload 6, 2) := by decide +kernel
theorem d_M_copy_138 : decode b_M_copy 138 = .ok (.iload 5, 2) := by decide +kernel
theorem d_M_copy_140 : decode b_M_copy 140 = .ok (.if_icmp .ge 31, 3) := by decide +kernel
theorem d_M_copy_143 : decode b_M_copy 143 = .ok (.aload_n 0, 1) := by decide +kernel
theorem d_M_copy_144 : decode b_M_copy 144 = .ok (.getfield 20, 3) := by decide +kernel
theorem d_M_copy_147 : decode b_M_copy 147 = .ok (.bipush 40, 2) := by decide +kernel
theorem d_M_copy_149 : decode b_M_copy 149 = .ok (.iload_n 3, 1) := by decide +kernel
theorem d_M_copy_150 : decode b_M_copy 150 = .ok (.imul, 1) := by decide +kernel
theorem d_M_copy_151 : decode b_M_copy 151 = .ok (.iload 4, 2) := by decide +kernel
theorem d_M_copy_153 : decode b_M_copy 153 = .ok (.iadd, 1) := by decide +kernel
theorem d_M_copy_154 : decode b_M_copy 154 = .ok (.iload 6, 2) := by decide +kernel
theorem d_M_copy_156 : decode b_M_copy 156 = .ok (.iadd, 1) := by decide +kernel
theorem d_M_copy_157 : decode b_M_copy 157 = .ok (.aload_n 0, 1) := by decide +kernel
theorem d_M_copy_158 : decode b_M_copy 158 = .ok (.getfield 23, 3) := by decide +kernel
theorem d_M_copy_161 : decode b_M_copy 161 = .ok (.iload 6, 2) := by decide +kernel
theorem d_M_copy_163 : decode b_M_copy 163 = .ok (.iaload, 1) := by decide +kernel
theorem d_M_copy_164 : decode b_M_copy 164 = .ok (.iastore, 1) := by decide +kernel
theorem d_M_copy_165 : decode b_M_copy 165 = .ok (.iinc 6 1, 3) := by decide +kernel
theorem d_M_copy_168 : decode b_M_copy 168 = .ok (.goto (-32), 3) := by decide +kernel
theorem d_M_copy_171 : decode b_M_copy 171 = .ok (.iconst 1, 1) := by decide +kernel
theorem d_M_copy_172 : decode b_M_copy 172 = .ok (.ireturn, 1) := by decide +kernel
theorem mo_M_copy : mok y_M_copy b_M_copy 7 (some .int) 5 := ⟨List.mem_of_getElem? (i := 1157) (by decide +kernel), ⟨by decide +kernel, by decide +kernel, by decide +kernel⟩, List.mem_of_getElem? (i := 86) (by decide +kernel), by decide⟩
set_option maxHeartbeats 4000000 in
theorem L_M_copy_104 {X : FX} {u : Un} (hA : Ap u) {Q : State → Prop} (F : Fr X u "TakerBookModel" b_M_copy 7) {σ : St} {a b c e N : Nat} (ha : a < 6) (hb : b + N ≤ 40) (k : V X u 2 7 Q 133 [(0, .ref (u.2.1 63)), (1, .int (nI a)), (2, .int (nI b)), (3, .int (nI c)), (4, .int (nI e)), (5, .int (nI N)), (6, .int (nI N))] [] ((cpF σ 67 0 (fun k => σ.1 66 (40 * a + (b + k))) N))) : ∀ (nn i : Nat), i ≤ N → N - i < nn → V X u 2 7 Q 104 [(0, .ref (u.2.1 63)), (1, .int (nI a)), (2, .int (nI b)), (3, .int (nI c)), (4, .int (nI e)), (5, .int (nI N)), (6, .int (nI i))] [] ((cpF σ 67 0 (fun k => σ.1 66 (40 * a + (b + k))) i)) := by
  intro nn
  induction nn with
  | zero =>
    intro i h1 h2
    exact absurd h2 (Nat.not_lt_zero _)
  | succ nn ih =>
    intro i hii hnn
    refine v_iload F d_M_copy_104 6 rfl ?_
    refine v_iload F d_M_copy_106 5 rfl ?_
    refine v_icmp_ge F 133 d_M_copy_108 rfl (fun h108 => ?_) (fun h108 => ?_)
    · skip
      have h108 : N ≤ i := (nI_leI (a := N) (b := i) (by omega) (by omega)).mp h108
      have he : i = N := by omega
      subst he
      exact k
    · skip
      have h108 : ¬ N ≤ i := fun q => h108 ((nI_leI (a := N) (b := i) (by omega) (by omega)).mpr q)
      refine v_aload_n F d_M_copy_111 rfl 0 rfl ?_
      refine v_getr (r := 67) F fk_M_23 G63 rfl d_M_copy_112 ?_
      refine v_iload F d_M_copy_115 6 rfl ?_
      refine v_aload_n F d_M_copy_117 rfl 0 rfl ?_
      refine v_iload_n F d_M_copy_118 rfl 1 rfl ?_
      refine v_iload_n F d_M_copy_119 rfl 2 rfl ?_
      refine v_iload F d_M_copy_120 6 rfl ?_
      refine v_iadd F d_M_copy_122 ?_
      refine v_te (y := nI (b + i)) (nI_add _ _) ?_
      refine v_runi (r_V F (c_M_rowAt X.2.1 u hA (cpF σ 67 0 (fun k => σ.1 66 (40 * a + (b + k))) i) a (b + i) (by omega)) mo_M_rowAt st_M_107 rc_63 (by decide) rfl (Nat.le_of_ble_eq_true rfl) d_M_copy_123) (fun r1 σ2 q3 => ?_)
      obtain ⟨rfl, rfl⟩ := q3
      refine v_ias F i G67 rfl (by omega) d_M_copy_126 ?_
      refine v_ns (fun σ4 eσ4 => ?_)
      refine v_iinc (v := nI (i + 1)) (ls' := [(6, .int (nI (i + 1))), (0, .ref (u.2.1 63)), (1, .int (nI a)), (2, .int (nI b)), (3, .int (nI c)), (4, .int (nI e)), (5, .int (nI N))]) F d_M_copy_127 (j := 6) rfl (nI_inc _) (by decide) rfl ?_
      refine v_goto F 104 d_M_copy_130 rfl ?_
      refine v_sub [1, 2, 3, 4, 5, 6, 0] (ls' := [(0, .ref (u.2.1 63)), (1, .int (nI a)), (2, .int (nI b)), (3, .int (nI c)), (4, .int (nI e)), (5, .int (nI N)), (6, .int (nI (i + 1)))]) rfl ?_
      refine v_st (show σ4 = (cpF σ 67 0 (fun k => σ.1 66 (40 * a + (b + k))) (i + 1)) from (by first | rfl | (simp [cpF, cpF_other, *]; done) | (simp_all [cpF, cpF_other]; done) | grind [cpF, cpF_other])) ?_
      exact ih (i + 1) (by omega) (by omega)
set_option maxHeartbeats 4000000 in
theorem L_M_copy_136 {X : FX} {u : Un} (hA : Ap u) {Q : State → Prop} (F : Fr X u "TakerBookModel" b_M_copy 7) {σ : St} {a b c e N : Nat} (hc : c < 6) (he1 : e + N ≤ 40) (k : V X u 2 7 Q 171 [(0, .ref (u.2.1 63)), (1, .int (nI a)), (2, .int (nI b)), (3, .int (nI c)), (4, .int (nI e)), (5, .int (nI N)), (6, .int (nI N))] [] ((cpF σ 66 (40 * c + e) (fun k => σ.1 67 k) N))) : ∀ (nn i : Nat), i ≤ N → N - i < nn → V X u 2 7 Q 136 [(0, .ref (u.2.1 63)), (1, .int (nI a)), (2, .int (nI b)), (3, .int (nI c)), (4, .int (nI e)), (5, .int (nI N)), (6, .int (nI i))] [] ((cpF σ 66 (40 * c + e) (fun k => σ.1 67 k) i)) := by
  intro nn
  induction nn with
  | zero =>
    intro i h1 h2
    exact absurd h2 (Nat.not_lt_zero _)
  | succ nn ih =>
    intro i hii hnn
    refine v_iload F d_M_copy_136 6 rfl ?_
    refine v_iload F d_M_copy_138 5 rfl ?_
    refine v_icmp_ge F 171 d_M_copy_140 rfl (fun h140 => ?_) (fun h140 => ?_)
    · skip
      have h140 : N ≤ i := (nI_leI (a := N) (b := i) (by omega) (by omega)).mp h140
      have he : i = N := by omega
      subst he
      exact k
    · skip
      have h140 : ¬ N ≤ i := fun q => h140 ((nI_leI (a := N) (b := i) (by omega) (by omega)).mpr q)
      refine v_aload_n F d_M_copy_143 rfl 0 rfl ?_
      refine v_getr (r := 66) F fk_M_20 G63 rfl d_M_copy_144 ?_
      refine v_bipush (v := 40) F d_M_copy_147 kb_40 ?_
      refine v_iload_n F d_M_copy_149 rfl 3 rfl ?_
      refine v_imul F d_M_copy_150 ?_
      refine v_te (y := nI (40 * c)) (pk_mul _ _) ?_
      refine v_iload F d_M_copy_151 4 rfl ?_
      refine v_iadd F d_M_copy_153 ?_
      refine v_te (y := nI (40 * c + e)) (nI_add _ _) ?_
      refine v_iload F d_M_copy_154 6 rfl ?_
      refine v_iadd F d_M_copy_156 ?_
      refine v_te (y := nI (40 * c + e + i)) (nI_add _ _) ?_
      refine v_aload_n F d_M_copy_157 rfl 0 rfl ?_
      refine v_getr (r := 67) F fk_M_23 G63 rfl d_M_copy_158 ?_
      refine v_iload F d_M_copy_161 6 rfl ?_
      refine v_ial F i G67 rfl (by omega) d_M_copy_163 ?_
      refine v_ias F (40 * c + e + i) G66 rfl (by omega) d_M_copy_164 ?_
      refine v_ns (fun σ1 eσ1 => ?_)
      refine v_iinc (v := nI (i + 1)) (ls' := [(6, .int (nI (i + 1))), (0, .ref (u.2.1 63)), (1, .int (nI a)), (2, .int (nI b)), (3, .int (nI c)), (4, .int (nI e)), (5, .int (nI N))]) F d_M_copy_165 (j := 6) rfl (nI_inc _) (by decide) rfl ?_
      refine v_goto F 136 d_M_copy_168 rfl ?_
      refine v_sub [1, 2, 3, 4, 5, 6, 0] (ls' := [(0, .ref (u.2.1 63)), (1, .int (nI a)), (2, .int (nI b)), (3, .int (nI c)), (4, .int (nI e)), (5, .int (nI N)), (6, .int (nI (i + 1)))]) rfl ?_
      refine v_st (show σ1 = (cpF σ 66 (40 * c + e) (fun k => σ.1 67 k) (i + 1)) from (by first | rfl | (simp [cpF, cpF_other, *]; done) | (simp_all [cpF, cpF_other]; done) | grind [cpF, cpF_other])) ?_
      exact ih (i + 1) (by omega) (by omega)
set_option maxHeartbeats 4000000 in
theorem c_M_copy (l : Launch) (u : Un) (hA : Ap u) (σ : St) (r i to j n : Int32) (hI : mRowsOk σ) : MTi l u y_M_copy b_M_copy 7 .int 2 [.ref (u.2.1 63), .int r, .int i, .int to, .int j, .int n] σ (fun ans σ' => (ans, σ') = mCopy σ r i to j n) := by
  refine MT_of hA rfl (by decide) (Nat.le_of_ble_eq_true rfl) (fun X hl F hr => ?_)
  subst hl
  refine v_to (ls' := [(0, .ref (u.2.1 63)), (1, .int r), (2, .int i), (3, .int to), (4, .int j), (5, .int n)]) rfl ?_
  refine v_iload_n F d_M_copy_0 rfl 1 rfl ?_
  refine v_runi (r_S F (c_M_isRow X.2.1 u hA σ r ) mo_M_isRow st_M_99 (by decide) rfl (Nat.le_of_ble_eq_true rfl) d_M_copy_1) (fun r1 σ2 q3 => ?_)
  obtain ⟨rfl, rfl⟩ := q3
  refine v_bt F 14 d_M_copy_4 rfl (fun h4 => ?_) (fun h4 => ?_)
  · skip
    refine v_iconst (v := (-1)) F d_M_copy_14 ki_m1 ?_
    refine v_iret F hr rfl d_M_copy_15 ?_
    first | (simp_all [mCopy, inR]; done) | grind [mCopy]
  · skip
    obtain ⟨a, ha, xa, rfl⟩ := inR_nat (N := 6) h4 rfl (by decide)
    refine v_iload_n F d_M_copy_7 rfl 3 rfl ?_
    refine v_runi (r_S F (c_M_isRow X.2.1 u hA σ to ) mo_M_isRow st_M_99 (by decide) rfl (Nat.le_of_ble_eq_true rfl) d_M_copy_8) (fun r4 σ5 q6 => ?_)
    obtain ⟨rfl, rfl⟩ := q6
    refine v_bf F 16 d_M_copy_11 rfl (fun h11 => ?_) (fun h11 => ?_)
    · skip
      obtain ⟨c, hc, xc, rfl⟩ := inR_nat (N := 6) h11 rfl (by decide)
      refine v_iload F d_M_copy_16 5 rfl ?_
      refine v_if_ge F 27 d_M_copy_18 rfl (fun h18 => ?_) (fun h18 => ?_)
      · skip
        refine v_aload_n F d_M_copy_27 rfl 0 rfl ?_
        refine v_getr (r := 65) F fk_M_17 G63 rfl d_M_copy_28 ?_
        refine v_iload_n F d_M_copy_31 rfl 1 rfl ?_
        refine v_ial F a G65 rfl (by omega) d_M_copy_32 ?_
        refine v_if_lt F 45 d_M_copy_33 rfl (fun h33 => ?_) (fun h33 => ?_)
        · skip
          refine v_aload_n F d_M_copy_45 rfl 0 rfl ?_
          refine v_iconst (v := 1) F d_M_copy_46 ki_1 ?_
          refine v_runi (r_V F (c_M_meets X.2.1 u hA σ 1 (by decide)) mo_M_meets st_M_103 rc_63 (by decide) rfl (Nat.le_of_ble_eq_true rfl) d_M_copy_47) (fun r7 σ8 q9 => ?_)
          obtain ⟨rfl, eσ8⟩ := q9
          refine v_iret F hr rfl d_M_copy_50 ?_
          first | (simp_all [mCopy, inR]; done) | grind [mCopy]
        · skip
          refine v_aload_n F d_M_copy_36 rfl 0 rfl ?_
          refine v_getr (r := 65) F fk_M_17 G63 rfl d_M_copy_37 ?_
          refine v_iload_n F d_M_copy_40 rfl 3 rfl ?_
          refine v_ial F c G65 rfl (by omega) d_M_copy_41 ?_
          refine v_if_ge F 51 d_M_copy_42 rfl (fun h42 => ?_) (fun h42 => ?_)
          · skip
            refine v_iload_n F d_M_copy_51 rfl 2 rfl ?_
            refine v_if_lt F 95 d_M_copy_52 rfl (fun h52 => ?_) (fun h52 => ?_)
            · skip
              refine v_aload_n F d_M_copy_95 rfl 0 rfl ?_
              refine v_iconst (v := 2) F d_M_copy_96 ki_2 ?_
              refine v_runi (r_V F (c_M_meets X.2.1 u hA σ 2 (by decide)) mo_M_meets st_M_103 rc_63 (by decide) rfl (Nat.le_of_ble_eq_true rfl) d_M_copy_97) (fun r10 σ11 q12 => ?_)
              obtain ⟨rfl, eσ11⟩ := q12
              refine v_iret F hr rfl d_M_copy_100 ?_
              first | (simp_all [mCopy, inR]; done) | grind [mCopy]
            · skip
              refine v_iload F d_M_copy_55 4 rfl ?_
              refine v_if_lt F 95 d_M_copy_57 rfl (fun h57 => ?_) (fun h57 => ?_)
              · skip
                refine v_aload_n F d_M_copy_95 rfl 0 rfl ?_
                refine v_iconst (v := 2) F d_M_copy_96 ki_2 ?_
                refine v_runi (r_V F (c_M_meets X.2.1 u hA σ 2 (by decide)) mo_M_meets st_M_103 rc_63 (by decide) rfl (Nat.le_of_ble_eq_true rfl) d_M_copy_97) (fun r13 σ14 q15 => ?_)
                obtain ⟨rfl, eσ14⟩ := q15
                refine v_iret F hr rfl d_M_copy_100 ?_
                first | (simp_all [mCopy, inR]; done) | grind [mCopy]
              · skip
                refine v_iload_n F d_M_copy_60 rfl 2 rfl ?_
                refine v_i2l F d_M_copy_61 ?_
                refine v_iload F d_M_copy_62 5 rfl ?_
                refine v_i2l F d_M_copy_64 ?_
                refine v_ladd F d_M_copy_65 ?_
                refine v_aload_n F d_M_copy_66 rfl 0 rfl ?_
                refine v_getr (r := 65) F fk_M_17 G63 rfl d_M_copy_67 ?_
                refine v_iload_n F d_M_copy_70 rfl 1 rfl ?_
                refine v_ial F a G65 rfl (by omega) d_M_copy_71 ?_
                refine v_i2l F d_M_copy_72 ?_
                refine v_lcmp F d_M_copy_73 ?_
                refine v_if_gt F 95 d_M_copy_74 rfl (fun h74 => ?_) (fun h74 => ?_)
                · skip
                  refine v_aload_n F d_M_copy_95 rfl 0 rfl ?_
                  refine v_iconst (v := 2) F d_M_copy_96 ki_2 ?_
                  refine v_runi (r_V F (c_M_meets X.2.1 u hA σ 2 (by decide)) mo_M_meets st_M_103 rc_63 (by decide) rfl (Nat.le_of_ble_eq_true rfl) d_M_copy_97) (fun r16 σ17 q18 => ?_)
                  obtain ⟨rfl, eσ17⟩ := q18
                  refine v_iret F hr rfl d_M_copy_100 ?_
                  first | (simp_all [mCopy, inR]; done) | grind [mCopy]
                · skip
                  refine v_iload F d_M_copy_77 4 rfl ?_
                  refine v_i2l F d_M_copy_79 ?_
                  refine v_iload F d_M_copy_80 5 rfl ?_
                  refine v_i2l F d_M_copy_82 ?_
                  refine v_ladd F d_M_copy_83 ?_
                  refine v_aload_n F d_M_copy_84 rfl 0 rfl ?_
                  refine v_getr (r := 65) F fk_M_17 G63 rfl d_M_copy_85 ?_
                  refine v_iload_n F d_M_copy_88 rfl 3 rfl ?_
                  refine v_ial F c G65 rfl (by omega) d_M_copy_89 ?_
                  refine v_i2l F d_M_copy_90 ?_
                  refine v_lcmp F d_M_copy_91 ?_
                  refine v_if_le F 101 d_M_copy_92 rfl (fun h92 => ?_) (fun h92 => ?_)
                  · skip
                    obtain ⟨b, N, hb, xb, xN, rfl, rfl⟩ := lc_nat (i_nlt.mp h52) h18 (i_nlt.mp h33) (hI _ ha) h74
                    obtain ⟨e, N2, he, xe, xN2, rfl, q2⟩ := lc_nat (i_nlt.mp h57) h18 h42 (hI _ hc) (nlt_of_le h92)
                    obtain rfl : N = N2 := by rw [← xN, ← xN2]
                    refine v_iconst (v := 0) F d_M_copy_101 ki_0 ?_
                    refine v_istore (ls' := [(6, .int 0), (0, .ref (u.2.1 63)), (1, .int (nI a)), (2, .int (nI b)), (3, .int (nI c)), (4, .int (nI e)), (5, .int (nI N))]) F d_M_copy_102 (by decide) rfl ?_
                    refine v_sub [1, 2, 3, 4, 5, 6, 0] (ls' := [(0, .ref (u.2.1 63)), (1, .int (nI a)), (2, .int (nI b)), (3, .int (nI c)), (4, .int (nI e)), (5, .int (nI N)), (6, .int 0)]) rfl ?_
                    have g19 : 0 = (nI 0) := (by first | rfl | (simp [cpF, cpF_other, *]; done) | (simp_all [cpF, cpF_other]; done) | grind [cpF, cpF_other])
                    refine v_to (ls' := [(0, .ref (u.2.1 63)), (1, .int (nI a)), (2, .int (nI b)), (3, .int (nI c)), (4, .int (nI e)), (5, .int (nI N)), (6, .int (nI 0))]) (by first | rfl | rw [g19] | simp_all) ?_
                    refine v_st (show σ = (cpF σ 67 0 (fun k => σ.1 66 (40 * a + (b + k))) 0) from (by first | rfl | (simp [cpF, cpF_other, *]; done) | (simp_all [cpF, cpF_other]; done) | grind [cpF, cpF_other])) ?_
                    refine L_M_copy_104 hA F ha (by omega) ?_ _ 0 (Nat.zero_le _) (Nat.lt_succ_self _)
                    refine v_iconst (v := 0) F d_M_copy_133 ki_0 ?_
                    refine v_istore (ls' := [(6, .int 0), (0, .ref (u.2.1 63)), (1, .int (nI a)), (2, .int (nI b)), (3, .int (nI c)), (4, .int (nI e)), (5, .int (nI N))]) F d_M_copy_134 (by decide) rfl ?_
                    refine v_ns (fun σc eσc => ?_)
                    refine v_sub [1, 2, 3, 4, 5, 6, 0] (ls' := [(0, .ref (u.2.1 63)), (1, .int (nI a)), (2, .int (nI b)), (3, .int (nI c)), (4, .int (nI e)), (5, .int (nI N)), (6, .int 0)]) rfl ?_
                    have g20 : 0 = (nI 0) := (by first | rfl | (simp [cpF, *]; done) | (simp_all [cpF]; done) | grind [cpF])
                    refine v_to (ls' := [(0, .ref (u.2.1 63)), (1, .int (nI a)), (2, .int (nI b)), (3, .int (nI c)), (4, .int (nI e)), (5, .int (nI N)), (6, .int (nI 0))]) (by first | rfl | rw [g20] | simp_all) ?_
                    refine v_st (show σc = (cpF σc 66 (40 * c + e) (fun k => σc.1 67 k) 0) from (by first | rfl | (simp [cpF, *]; done) | (simp_all [cpF]; done) | grind [cpF])) ?_
                    refine L_M_copy_136 hA F hc (by omega) ?_ _ 0 (Nat.zero_le _) (Nat.lt_succ_self _)
                    refine v_iconst (v := 1) F d_M_copy_171 ki_1 ?_
                    refine v_iret F hr rfl d_M_copy_172 ?_
                    first | (simp_all [mCopy, inR]; done) | grind [mCopy]
                  · skip
                    refine v_aload_n F d_M_copy_95 rfl 0 rfl ?_
                    refine v_iconst (v := 2) F d_M_copy_96 ki_2 ?_
                    refine v_runi (r_V F (c_M_meets X.2.1 u hA σ 2 (by decide)) mo_M_meets st_M_103 rc_63 (by decide) rfl (Nat.le_of_ble_eq_true rfl) d_M_copy_97) (fun r21 σ22 q23 => ?_)
                    obtain ⟨rfl, eσ22⟩ := q23
                    refine v_iret F hr rfl d_M_copy_100 ?_
                    first | (simp_all [mCopy, inR]; done) | grind [mCopy]
          · skip
            refine v_aload_n F d_M_copy_45 rfl 0 rfl ?_
            refine v_iconst (v := 1) F d_M_copy_46 ki_1 ?_
            refine v_runi (r_V F (c_M_meets X.2.1 u hA σ 1 (by decide)) mo_M_meets st_M_103 rc_63 (by decide) rfl (Nat.le_of_ble_eq_true rfl) d_M_copy_47) (fun r24 σ25 q26 => ?_)
            obtain ⟨rfl, eσ25⟩ := q26
            refine v_iret F hr rfl d_M_copy_50 ?_
            first | (simp_all [mCopy, inR]; done) | grind [mCopy]
      · skip
        refine v_aload_n F d_M_copy_21 rfl 0 rfl ?_
        refine v_iconst (v := 5) F d_M_copy_22 ki_5 ?_
        refine v_runi (r_V F (c_M_meets X.2.1 u hA σ 5 (by decide)) mo_M_meets st_M_103 rc_63 (by decide) rfl (Nat.le_of_ble_eq_true rfl) d_M_copy_23) (fun r27 σ28 q29 => ?_)
        obtain ⟨rfl, eσ28⟩ := q29
        refine v_iret F hr rfl d_M_copy_26 ?_
        first | (simp_all [mCopy, inR]; done) | grind [mCopy]
    · skip
      refine v_iconst (v := (-1)) F d_M_copy_14 ki_m1 ?_
      refine v_iret F hr rfl d_M_copy_15 ?_
      first | (simp_all [mCopy, inR]; done) | grind [mCopy]
end
section
-- Euclid within 200 steps
def eucI (s x y : Nat) : Prop := s ≤ 200 ∧ ((y ≤ x ∧ x * y < 2 ^ (200 - s)) ∨ (s = 0 ∧ x * y < 2 ^ 199))
theorem eucI_next {s x y : Nat} (h : eucI s x y) (hs : s < 200) (hy : 0 < y) : eucI (s + 1) y (x % y) := by
  obtain ⟨h0, h⟩ := h
  refine ⟨by omega, Or.inl ⟨Nat.le_of_lt (Nat.mod_lt x hy), ?_⟩⟩
  rcases h with ⟨h1, h2⟩ | ⟨h1, h2⟩
  · obtain ⟨t, ht⟩ : ∃ t, 200 - s = t + 1 := ⟨199 - s, by omega⟩
    rw [ht, Nat.pow_succ, Nat.mul_comm] at h2
    rw [show 200 - (s + 1) = t by omega]
    exact euc_pos hy h1 (by rw [Nat.mul_comm] at h2; omega)
  · subst h1
    rcases Nat.lt_or_ge x y with q | q
    · rw [Nat.mod_eq_of_lt q, Nat.mul_comm]
      exact h2
    · refine euc_pos hy q ?_
      omega
theorem eucI_end {s x y : Nat} (h : eucI s x y) (hs : ¬ s < 200) : y = 0 := by
  obtain ⟨h0, h⟩ := h
  rcases h with ⟨h1, h2⟩ | ⟨h1, h2⟩
  · have e : 200 - s = 0 := by omega
    rw [e] at h2
    have h3 : x * y = 0 := by omega
    rcases Nat.mul_eq_zero.mp h3 with q | q
    · omega
    · exact q
  · omega
theorem eucI_0 {x y : Nat} (hx : x < 4611686018427387904) (hy : y < 4611686018427387904) : eucI 0 x y := by
  refine ⟨by omega, Or.inr ⟨rfl, ?_⟩⟩
  have h1 : x * y ≤ 4611686018427387904 * 4611686018427387904 := Nat.mul_le_mul (Nat.le_of_lt hx) (Nat.le_of_lt hy)
  exact Nat.lt_of_le_of_lt h1 (by decide)
theorem lgle {x : Nat} (hx : x < 4611686018427387904) (h0 : 0 < x) : ¬ lg_cmp (lN x) 0 ≤ 0 := by
  intro h
  have h1 : (0 : Int64) < lN x := (pk_lLT (a := 0) (b := x) (by omega) (by omega)).mpr h0
  exact i_nlt.mpr h (lg_pos.mpr h1)
end
section
theorem ks_200 : (Int16.ofInt 200).toInt32 = (200 : Int32) := by decide
theorem pk_T_upperNumber : pok 0 13 .long := ⟨(R_T, F_T, 15), rfl, rfl, by decide +kernel⟩
theorem pk_T_lowerNumber : pok 0 14 .long := ⟨(R_T, F_T, 15), rfl, rfl, by decide +kernel⟩
abbrev b_T_tellNumbers : ByteArray := prog_1_method_73_code
abbrev y_T_tellNumbers : MethodName := ⟨"TakerBook", "tellNumbers", "(JJ)V"⟩
theorem d_T_tellNumbers_0 : decode b_T_tellNumbers 0 = .ok (.lload_n 1, 1) := by decide +kernel
theorem d_T_tellNumbers_1 : decode b_T_tellNumbers 1 = .ok (.lstore 5, 2) := by decide +kernel
theorem d_T_tellNumbers_3 : decode b_T_tellNumbers 3 = .ok (.lload_n 3, 1) := by decide +kernel
theorem d_T_tellNumbers_4 : decode b_T_tellNumbers 4 = .ok (.lstore 7, 2) := by decide +kernel
theorem d_T_tellNumbers_6 : decode b_T_tellNumbers 6 = .ok (.iconst 0, 1) := by decide +kernel
theorem d_T_tellNumbers_7 : decode b_T_tellNumbers 7 = .ok (.istore 9, 2) := by decide +kernel
theorem d_T_tellNumbers_9 : decode b_T_tellNumbers 9 = .ok (.iload 9, 2) := by decide +kernel
theorem d_T_tellNumbers_11 : decode b_T_tellNumbers 11 = .ok (.sipush 200, 3) := by decide +kernel
theorem d_T_tellNumbers_14 : decode b_T_tellNumbers 14 = .ok (.if_icmp .ge 31, 3) := by decide +kernel
theorem d_T_tellNumbers_17 : decode b_T_tellNumbers 17 = .ok (.lload 7, 2) := by decide +kernel
theorem d_T_tellNumbers_19 : decode b_T_tellNumbers 19 = .ok (.lconst 0, 1) := by decide +kernel
theorem d_T_tellNumbers_20 : decode b_T_tellNumbers 20 = .ok (.lcmp, 1) := by decide +kernel
theorem d_T_tellNumbers_21 : decode b_T_tellNumbers 21 = .ok (.ifCond .eq 24, 3) := by decide +kernel
theorem d_T_tellNumbers_24 : decode b_T_tellNumbers 24 = .ok (.lload 5, 2) := by decide +kernel
theorem d_T_tellNumbers_26 : decode b_T_tellNumbers 26 = .ok (.lload 7, 2) := by decide +kernel
theorem d_T_tellNumbers_28 : decode b_T_tellNumbers 28 = .ok (.lrem, 1) := by decide +kernel
theorem d_T_tellNumbers_29 : decode b_T_tellNumbers 29 = .ok (.lstore 10, 2) := by decide +kernel
theorem d_T_tellNumbers_31 : decode b_T_tellNumbers 31 = .ok (.lload 7, 2) := by decide +kernel
theorem d_T_tellNumbers_33 : decode b_T_tellNumbers 33 = .ok (.lstore 5, 2) := by decide +kernel
theorem d_T_tellNumbers_35 : decode b_T_tellNumbers 35 = .ok (.lload 10, 2) := by decide +kernel
theorem d_T_tellNumbers_37 : decode b_T_tellNumbers 37 = .ok (.lstore 7, 2) := by decide +kernel
theorem d_T_tellNumbers_39 : decode b_T_tellNumbers 39 = .ok (.iinc 9 1, 3) := by decide +kernel
theorem d_T_tellNumbers_42 : decode b_T_tellNumbers 42 = .ok (.goto (-33), 3) := by decide +kernel
theorem d_T_tellNumbers_45 : decode b_T_tellNumbers 45 = .ok (.lload 5, 2) := by decide +kernel
theorem d_T_tellNumbers_47 : decode b_T_tellNumbers 47 = .ok (.lconst 0, 1) := by decide +kernel
theorem d_T_tellNumbers_48 : decode b_T_tellNumbers 48 = .ok (.lcmp, 1) := by decide +kernel
theorem d_T_tellNumbers_49 : decode b_T_tellNumbers 49 = .ok (.ifCond .le 19, 3) := by decide +kernel
theorem d_T_tellNumbers_52 : decode b_T_tellNumbers 52 = .ok (.aload_n 0, 1) := by decide +kernel
theorem d_T_tellNumbers_53 : decode b_T_tellNumbers 53 = .ok (.lload_n 1, 1) := by decide +kernel
theorem d_T_tellNumbers_54 : decode b_T_tellNumbers 54 = .ok (.lload 5, 2) := by decide +kernel
theorem d_T_tellNumbers_56 : decode b_T_tellNumbers 56 = .ok (.ldiv, 1) := by decide +kernel
theorem d_T_tellNumbers_57 : decode b_T_tellNumbers 57 = .ok (.putfield 312, 3) := by decide +kernel
theorem d_T_tellNumbers_60 : decode b_T_tellNumbers 60 = .ok (.aload_n 0, 1) := by decide +kernel
theorem d_T_tellNumbers_61 : decode b_T_tellNumbers 61 = .ok (.lload_n 3, 1) := by decide +kernel
theorem d_T_tellNumbers_62 : decode b_T_tellNumbers 62 = .ok (.lload 5, 2) := by decide +kernel
theorem d_T_tellNumbers_64 : decode b_T_tellNumbers 64 = .ok (.ldiv, 1) := by decide +kernel
theorem d_T_tellNumbers_65 : decode b_T_tellNumbers 65 = .ok (.putfield 68, 3) := by decide +kernel
theorem d_T_tellNumbers_68 : decode b_T_tellNumbers 68 = .ok (.return_, 1) := by decide +kernel
theorem mo_T_tellNumbers : mok y_T_tellNumbers b_T_tellNumbers 12 none 2 := ⟨List.mem_of_getElem? (i := 799) (by decide +kernel), ⟨by decide +kernel, by decide +kernel, by decide +kernel⟩, List.mem_of_getElem? (i := 74) (by decide +kernel), by decide⟩
set_option maxHeartbeats 4000000 in
theorem L_T_tellNumbers_9 {X : FX} {u : Un} (hA : Ap u) {Q : State → Prop} (F : Fr X u "TakerBook" b_T_tellNumbers 12) {σ : St} {a b : Nat} (k0 : ∀ (s : Nat) (x : Nat) (y : Nat), y = 0 → Nat.gcd x y = Nat.gcd a b → V X u 1 12 Q 45 [(0, .ref (u.2.1 0)), (1, .long (lN a)), (3, .long (lN b)), (5, .long (lN x)), (7, .long (lN y))] [] (σ)) : ∀ (nn : Nat) (s : Nat) (x : Nat) (y : Nat), x < 4611686018427387904 → y < 4611686018427387904 → Nat.gcd x y = Nat.gcd a b → eucI s x y → 201 - s < nn → V X u 1 12 Q 9 [(0, .ref (u.2.1 0)), (1, .long (lN a)), (3, .long (lN b)), (5, .long (lN x)), (7, .long (lN y)), (9, .int (nI s))] [] (σ) := by
  intro nn
  induction nn with
  | zero =>
    intro s x y hx hy hg hI h2
    exact absurd h2 (Nat.not_lt_zero _)
  | succ nn ih =>
    intro s x y hx hy hg hI hm
    have hs200 := hI.1
    refine v_iload F d_T_tellNumbers_9 5 rfl ?_
    refine v_sipush (v := 200) F d_T_tellNumbers_11 ks_200 ?_
    refine v_icmp_ge F 45 d_T_tellNumbers_14 rfl (fun h14 => ?_) (fun h14 => ?_)
    · skip
      have h14 : 200 ≤ s := (nI_leI (a := 200) (b := s) (by omega) (by omega)).mp h14
      refine v_sub [0, 1, 2, 3, 4] (ls' := [(0, .ref (u.2.1 0)), (1, .long (lN a)), (3, .long (lN b)), (5, .long (lN x)), (7, .long (lN y))]) rfl ?_
      exact k0 s x y (by first | exact (lg0 (by omega)).mp h21 | exact eucI_end hI (by omega)) hg
    · skip
      have h14 : ¬ 200 ≤ s := fun q => h14 ((nI_leI (a := 200) (b := s) (by omega) (by omega)).mpr q)
      have h14 : s < 200 := by omega
      refine v_lload F d_T_tellNumbers_17 4 rfl ?_
      refine v_lconst (v := 0) F d_T_tellNumbers_19 rfl ?_
      refine v_lcmp F d_T_tellNumbers_20 ?_
      refine v_if_eq F 45 d_T_tellNumbers_21 rfl (fun h21 => ?_) (fun h21 => ?_)
      · skip
        refine v_sub [0, 1, 2, 3, 4] (ls' := [(0, .ref (u.2.1 0)), (1, .long (lN a)), (3, .long (lN b)), (5, .long (lN x)), (7, .long (lN y))]) rfl ?_
        exact k0 s x y (by first | exact (lg0 (by omega)).mp h21 | exact eucI_end hI (by omega)) hg
      · skip
        have hy0 : 0 < y := Nat.pos_of_ne_zero (fun q => h21 ((lg0 (by omega)).mpr q))
        refine v_lload F d_T_tellNumbers_24 3 rfl ?_
        refine v_lload F d_T_tellNumbers_26 4 rfl ?_
        refine v_lrem F d_T_tellNumbers_28 (lne0 hy hy0) ?_
        refine v_tl (y := (lN (x % y))) (lrem_N hx hy hy0) ?_
        refine v_lstore (ls' := [(10, .long (lN (x % y))), (0, .ref (u.2.1 0)), (1, .long (lN a)), (3, .long (lN b)), (5, .long (lN x)), (7, .long (lN y)), (9, .int (nI s))]) F d_T_tellNumbers_29 (by decide) rfl ?_
        refine v_lload F d_T_tellNumbers_31 5 rfl ?_
        refine v_lstore (ls' := [(5, .long (lN y)), (10, .long (lN (x % y))), (0, .ref (u.2.1 0)), (1, .long (lN a)), (3, .long (lN b)), (7, .long (lN y)), (9, .int (nI s))]) F d_T_tellNumbers_33 (by decide) rfl ?_
        refine v_lload F d_T_tellNumbers_35 1 rfl ?_
        refine v_lstore (ls' := [(7, .long (lN (x % y))), (5, .long (lN y)), (10, .long (lN (x % y))), (0, .ref (u.2.1 0)), (1, .long (lN a)), (3, .long (lN b)), (9, .int (nI s))]) F d_T_tellNumbers_37 (by decide) rfl ?_
        refine v_iinc (v := nI (s + 1)) (ls' := [(9, .int (nI (s + 1))), (7, .long (lN (x % y))), (5, .long (lN y)), (10, .long (lN (x % y))), (0, .ref (u.2.1 0)), (1, .long (lN a)), (3, .long (lN b))]) F d_T_tellNumbers_39 (j := 6) rfl (nI_inc _) (by decide) rfl ?_
        refine v_goto F 9 d_T_tellNumbers_42 rfl ?_
        refine v_sub [4, 5, 6, 2, 1, 0] (ls' := [(0, .ref (u.2.1 0)), (1, .long (lN a)), (3, .long (lN b)), (5, .long (lN y)), (7, .long (lN (x % y))), (9, .int (nI (s + 1)))]) rfl ?_
        exact ih (s + 1) (y) (x % y) hy (Nat.lt_of_lt_of_le (Nat.mod_lt x hy0) (Nat.le_of_lt hy)) (gcd_step hg hy0) (eucI_next hI h14 hy0) (by have := hI.1; omega)
set_option maxHeartbeats 4000000 in
theorem c_T_tellNumbers (l : Launch) (u : Un) (hA : Ap u) (σ : St) (a b : Nat) (ha : a < 4611686018427387904) (hb : b < 4611686018427387904) (hb0 : 0 < b) : MTv l u y_T_tellNumbers b_T_tellNumbers 12 1 [.ref (u.2.1 0), .long (lN a), .long (lN b)] σ (fun σ' => σ' = uL (uL σ 0 13 (lN (a / Nat.gcd a b))) 0 14 (lN (b / Nat.gcd a b))) := by
  refine MT_of hA rfl (by decide) (Nat.le_of_ble_eq_true rfl) (fun X hl F hr => ?_)
  subst hl
  refine v_to (ls' := [(0, .ref (u.2.1 0)), (1, .long (lN a)), (3, .long (lN b))]) rfl ?_
  refine v_lload_n F d_T_tellNumbers_0 rfl 1 rfl ?_
  refine v_lstore (ls' := [(5, .long (lN a)), (0, .ref (u.2.1 0)), (1, .long (lN a)), (3, .long (lN b))]) F d_T_tellNumbers_1 (by decide) rfl ?_
  refine v_lload_n F d_T_tellNumbers_3 rfl 3 rfl ?_
  refine v_lstore (ls' := [(7, .long (lN b)), (5, .long (lN a)), (0, .ref (u.2.1 0)), (1, .long (lN a)), (3, .long (lN b))]) F d_T_tellNumbers_4 (by decide) rfl ?_
  refine v_iconst (v := 0) F d_T_tellNumbers_6 ki_0 ?_
  refine v_istore (ls' := [(9, .int 0), (7, .long (lN b)), (5, .long (lN a)), (0, .ref (u.2.1 0)), (1, .long (lN a)), (3, .long (lN b))]) F d_T_tellNumbers_7 (by decide) rfl ?_
  refine v_sub [3, 4, 5, 2, 1, 0] (ls' := [(0, .ref (u.2.1 0)), (1, .long (lN a)), (3, .long (lN b)), (5, .long (lN a)), (7, .long (lN b)), (9, .int 0)]) rfl ?_
  have g1 : 0 = (nI 0) := (by first | rfl | (simp_all; done) | grind)
  refine v_to (ls' := [(0, .ref (u.2.1 0)), (1, .long (lN a)), (3, .long (lN b)), (5, .long (lN a)), (7, .long (lN b)), (9, .int (nI 0))]) (by first | rfl | rw [g1] | simp_all) ?_
  refine L_T_tellNumbers_9 (a := a) (b := b) hA F (fun s x y hy0 hg => ?_) _ 0 a b ha hb rfl (eucI_0 ha hb) (Nat.lt_succ_self _)
  subst hy0
  obtain rfl := gcd_le0 hg
  refine v_lload F d_T_tellNumbers_45 3 rfl ?_
  refine v_lconst (v := 0) F d_T_tellNumbers_47 rfl ?_
  refine v_lcmp F d_T_tellNumbers_48 ?_
  refine v_if_le F 68 d_T_tellNumbers_49 rfl (fun h49 => ?_) (fun h49 => ?_)
  · exact absurd h49 (lgle (gcd_lt hb hb0) (gcd_p hb0))
  · skip
    refine v_aload_n F d_T_tellNumbers_52 rfl 0 rfl ?_
    refine v_lload_n F d_T_tellNumbers_53 rfl 1 rfl ?_
    refine v_lload F d_T_tellNumbers_54 3 rfl ?_
    refine v_ldiv F d_T_tellNumbers_56 (lne0 (gcd_lt hb hb0) (gcd_p hb0)) ?_
    refine v_tl (y := (lN (a / Nat.gcd a b))) (ldiv_N ha (gcd_lt hb hb0) (gcd_p hb0)) ?_
    refine v_putl F fk_T_312 pk_T_upperNumber G0 rfl d_T_tellNumbers_57 ?_
    refine v_ns (fun σ2 eσ2 => ?_)
    refine v_aload_n F d_T_tellNumbers_60 rfl 0 rfl ?_
    refine v_lload_n F d_T_tellNumbers_61 rfl 2 rfl ?_
    refine v_lload F d_T_tellNumbers_62 3 rfl ?_
    refine v_ldiv F d_T_tellNumbers_64 (lne0 (gcd_lt hb hb0) (gcd_p hb0)) ?_
    refine v_tl (y := (lN (b / Nat.gcd a b))) (ldiv_N hb (gcd_lt hb hb0) (gcd_p hb0)) ?_
    refine v_putl F fk_T_68 pk_T_lowerNumber G0 rfl d_T_tellNumbers_65 ?_
    refine v_ns (fun σ3 eσ3 => ?_)
    refine v_vret F hr d_T_tellNumbers_68 ?_
    simp [*]
end
section
-- an inherited method called by super; what a kind does
theorem r_SU2 {X : FX} {u : Un} {own : String} {cc : ByteArray} {d nL : Nat} {pc : Nat} {stk st : List Value} {σ : St} {y x : MethodName} {cc' : ByteArray} {nL' d' idx k : Nat} {ret : Option FieldType} {As : List Value} {Qc : Array Value → State → Outcome → State → Prop} {C : String}
    (F : Fr X u own cc nL) (hM : Met X.2.1 y (wsY y cc' nL' ret) (rmD d') (PcU u (.ref (u.2.1 k) :: As) σ) Qc 0 0 (AU u)) (hm : mok y cc' nL' ret As.length) (h1 : Cond.methodLink own idx x ∈ lw_tbl) (h2 : Cond.sameMethod x.cls y.cls x.name x.desc ∈ lw_tbl) (h3 : Cond.superclass own x.cls ∈ lw_tbl) (h4 : Cond.superclass x.cls y.cls ∈ lw_tbl) (h5 : Cond.instanceMethod y ∈ lw_tbl) (hxy : (⟨y.cls, x.name, x.desc⟩ : MethodName) = y) (hno : x.name ≠ "<init>") (hr : recv k C) (hd : d' + 1 ≤ d) (hst : stk = As.reverse ++ .ref (u.2.1 k) :: st) (hw : (st.map fun v => v.category).sum ≤ 8) (hdg : decode cc pc = .ok (.invokespecial idx, 3)) :
    ∀ (H : Heap) (locs : List Loc) (la : Array Slot), va_P u.1 cls (wU u σ) H → va_S (AU u) X.s.heap H locs → la.size = nL → va_Run X.1 X.2.1 X.2.2.1 (rmD d) X.s X.m X.args X.below X.meth X.c H locs 0 0 0 0 (F0 X.m pc la stk) st (Qc (Value.ref (u.2.1 k) :: As).toArray) (AU u) := by
  intro H locs la hP hS hl
  obtain ⟨ci, fs, q, hGk, hq, hC⟩ := id hr
  have hat := (F.2.2.2.2.2.1.1 ci q hq).2
  rw [hC] at hat
  have hp := v_preV F As hr hP hS
  have hts := F.2.2.2.2.1
  have hws := pay_in hts (wsY_good hm.1)
  have hini := hts _ (inG hm.2.2.1 rfl)
  have hK : Back X.2.1 (rmD d) X.1 X.2.2.1 X.below X.s X.args y 3 8 (PreOf (rmD d) 0 0 (PcU u (.ref (u.2.1 k) :: As) σ)) (PostOf Qc 0 0 (AU u)) := back_of (bytes := cc') (maxL := nL') (ret := ret) hM hp.1 rfl rfl (room_le hd hm.2.2.2).1 (room_le hd hm.2.2.2).2 hws List.mem_cons_self (fun a' U hW => word_at hW (Or.inl rfl) hini)
  obtain ⟨-, ⟨cellB, hcB, hoB, hclB⟩, hPc⟩ := hp
  obtain ⟨hfc, kB, hkB, -⟩ := hat
  have ecl := Option.some.inj (hfc.symm.trans hclB)
  rw [ecl] at hkB
  intro T hT XX
  obtain ⟨mk, methM, hnamed, hmethM, hstM, habM⟩ := Cond.instanceMethod_spec (hts _ (inG h5 rfl))
  obtain ⟨methM', cM, hmethM', -, -, -, -, -, -, hsigM⟩ := Cond.code_spec hnamed (hts _ (inG hm.1 rfl))
  cases hmethM.symm.trans hmethM'
  obtain ⟨ps, dk, kp, hps, hdk, hkp, hsuper, -, -, hnid⟩ := Cond.superclass_spec F.2.2.2.1 (hts _ (inG h3 rfl))
  obtain ⟨ps2, dk2, kp2, hps2, hdk2, hkp2, hsuper2, -⟩ := Cond.superclass_spec hps (hts _ (inG h4 rfl))
  have hpm : ps2 = mk.cls := Option.some.inj (hps2.symm.trans (findClass_of_methodNamed hnamed))
  have hsub : X.s.vm.isSubclass ps mk.cls = true := by
    rw [← hpm]
    have hlt : ps < X.s.vm.classes.size := (Array.getElem?_eq_some_iff.mp hdk2).1
    obtain ⟨z, hz⟩ : ∃ z, X.s.vm.classes.size = z + 1 := ⟨X.s.vm.classes.size - 1, (Nat.succ_pred_eq_of_pos (Nat.lt_of_le_of_lt (Nat.zero_le _) hlt)).symm⟩
    unfold Vm.isSubclass
    rw [hz]
    simp [Vm.isSubclassAux, hdk2, hsuper2]
  have hn : X.s.methodNamed? ⟨y.cls, x.name, x.desc⟩ = some mk := by rw [hxy]; exact hnamed
  have hyd : y.desc = x.desc := by rw [← hxy]
  have hlen : As.length = methM.sig.parameters.length := by
    have h9 := hm.2.1.2.2
    rw [hsigM] at h9
    exact (Option.some.inj h9).symm
  obtain ⟨vm₁, X₁, hstep₁⟩ := XX.invokespecialUp F.1 F.2.2.2.1 (hts _ (inG h1 rfl)) (hts _ (inG h2 rfl)) hn hmethM hstM habM hno hdk hnid hps hsuper hsub (a := u.2.1 k) (cell := cellB) (by rw [hT]; exact hcB)
    (fun z h => by rw [h] at hoB; cases hoB) hkB (g := F0 X.m pc la stk) rfl (argsL := As) (rest := st) hlen hst (by rw [F.2.1]; exact hdg)
  obtain ⟨v, ⟨U', l2, c2, s2⟩, X', ⟨g', mk', t, L, e1, e2, hq, hh1, hL, hh2, hh3⟩, hsteps⟩ := hK X.m X.meth X.c ⟨T.setVm vm₁, locs, 0, 0⟩ { F0 X.m pc la stk with stack := st } (.invokespecial idx) mk (Value.ref (u.2.1 k) :: As).toArray X₁ rfl (hl.trans F.2.2.1.symm) (by rw [F.2.1]; exact hdg) (lv_room hw) (X₁.named hnamed) ⟨Nat.zero_le _, Nat.zero_le _, hPc (T.setVm vm₁) hT X₁.warmed⟩
  dsimp only [Pt.U, Pt.locs, Pt.cells, Pt.slots] at X' e1 e2 hh1 hh2 hh3 hsteps
  subst hh1; subst hh2; subst hh3
  exact ⟨v, (T.setVm vm₁).calling g' mk' (Value.ref (u.2.1 k) :: As).toArray, t, U', L, hT, X', hL, e1, e2, hq, fun target h => hstep₁ _ (by rw [doInvoke_state]; exact hsteps.trans h)⟩
def ofB (k : Nat) (kind : Int32) : Bool := match k with
  | 0 => kind == 0
  | 1 => kind == 1 || kind == 0
  | 2 => kind == 2 || kind == 0
  | 3 => kind == 3 || kind == 0
  | 4 => kind == 4 || (kind == 1 || kind == 0)
  | _ => kind == 5 || (kind == 3 || kind == 0)
def lootS (k : Nat) (skill others : Int32) : Int32 := match k with
  | 0 => skill
  | 1 => skill + 1
  | 2 => skill / 2
  | 3 => skill + others
  | 4 => skill + 1
  | _ => (skill + others) / 2
def talkB (k : Nat) (bold fear crosses others : Int32) : Bool := match k with
  | 0 => decide (fear + 2 * crosses < bold)
  | 1 => false
  | 2 => decide (crosses = 0) && decide (fear + 2 * crosses < bold)
  | 3 => decide (others ≤ 1) && decide (fear + 2 * crosses < bold)
  | 4 => decide (crosses = 2)
  | _ => decide (others ≤ 1) && decide (fear + 2 * crosses < bold + 2)
def priceS (k : Nat) (bounty crosses : Int32) : Int32 := match k with
  | 2 => (bounty + crosses) / 2
  | 5 => if 0 < bounty + crosses - 1 then bounty + crosses - 1 else 0
  | _ => bounty + crosses
end
section
theorem st_Re_9 : siteSU "TakerBook$Returned" 9 ⟨"TakerBook$Thief", "isOf", "(I)Z"⟩ := ⟨List.mem_of_getElem? (i := 524) (by decide +kernel), List.mem_of_getElem? (i := 509) (by decide +kernel), List.mem_of_getElem? (i := 150) (by decide +kernel), List.mem_of_getElem? (i := 507) (by decide +kernel), by decide⟩
theorem st_Cl_9 : siteSU "TakerBook$Clerk" 9 ⟨"TakerBook$Thief", "isOf", "(I)Z"⟩ := ⟨List.mem_of_getElem? (i := 513) (by decide +kernel), List.mem_of_getElem? (i := 509) (by decide +kernel), List.mem_of_getElem? (i := 157) (by decide +kernel), List.mem_of_getElem? (i := 507) (by decide +kernel), by decide⟩
theorem st_Ga_9 : siteSU "TakerBook$Gang" 9 ⟨"TakerBook$Thief", "isOf", "(I)Z"⟩ := ⟨List.mem_of_getElem? (i := 517) (by decide +kernel), List.mem_of_getElem? (i := 509) (by decide +kernel), List.mem_of_getElem? (i := 164) (by decide +kernel), List.mem_of_getElem? (i := 507) (by decide +kernel), by decide⟩
theorem st_La_9 : siteSU "TakerBook$Lace" 9 ⟨"TakerBook$Returned", "isOf", "(I)Z"⟩ := ⟨List.mem_of_getElem? (i := 521) (by decide +kernel), List.mem_of_getElem? (i := 1487) (by decide +kernel), List.mem_of_getElem? (i := 171) (by decide +kernel), List.mem_of_getElem? (i := 522) (by decide +kernel), by decide⟩
theorem st_Yo_9 : siteSU "TakerBook$Young" 9 ⟨"TakerBook$Gang", "isOf", "(I)Z"⟩ := ⟨List.mem_of_getElem? (i := 529) (by decide +kernel), List.mem_of_getElem? (i := 1488) (by decide +kernel), List.mem_of_getElem? (i := 178) (by decide +kernel), List.mem_of_getElem? (i := 515) (by decide +kernel), by decide⟩
theorem st_Yo_13 : siteSU "TakerBook$Young" 13 ⟨"TakerBook$Gang", "loot", "(II)I"⟩ := ⟨List.mem_of_getElem? (i := 578) (by decide +kernel), List.mem_of_getElem? (i := 1489) (by decide +kernel), List.mem_of_getElem? (i := 178) (by decide +kernel), List.mem_of_getElem? (i := 569) (by decide +kernel), by decide⟩
theorem st_Cl_13 : siteSU "TakerBook$Clerk" 13 ⟨"TakerBook$Thief", "talks", "(IIII)Z"⟩ := ⟨List.mem_of_getElem? (i := 591) (by decide +kernel), List.mem_of_getElem? (i := 587) (by decide +kernel), List.mem_of_getElem? (i := 157) (by decide +kernel), List.mem_of_getElem? (i := 585) (by decide +kernel), by decide⟩
theorem st_Ga_13 : siteSU "TakerBook$Gang" 13 ⟨"TakerBook$Thief", "talks", "(IIII)Z"⟩ := ⟨List.mem_of_getElem? (i := 595) (by decide +kernel), List.mem_of_getElem? (i := 587) (by decide +kernel), List.mem_of_getElem? (i := 164) (by decide +kernel), List.mem_of_getElem? (i := 585) (by decide +kernel), by decide⟩
theorem st_Yo_19 : siteSU "TakerBook$Young" 19 ⟨"TakerBook$Gang", "talks", "(IIII)Z"⟩ := ⟨List.mem_of_getElem? (i := 605) (by decide +kernel), List.mem_of_getElem? (i := 1490) (by decide +kernel), List.mem_of_getElem? (i := 178) (by decide +kernel), List.mem_of_getElem? (i := 593) (by decide +kernel), by decide⟩
theorem st_Cl_17 : siteSU "TakerBook$Clerk" 17 ⟨"TakerBook$Thief", "price", "(II)I"⟩ := ⟨List.mem_of_getElem? (i := 621) (by decide +kernel), List.mem_of_getElem? (i := 617) (by decide +kernel), List.mem_of_getElem? (i := 157) (by decide +kernel), List.mem_of_getElem? (i := 615) (by decide +kernel), by decide⟩
theorem st_T_134_Th : siteU "TakerBook" 134 ⟨"TakerBook$Thief", "isOf", "(I)Z"⟩ ⟨"TakerBook$Thief", "isOf", "(I)Z"⟩ "TakerBook$Thief" := ⟨List.mem_of_getElem? (i := 640) (by decide +kernel), List.mem_of_getElem? (i := 509) (by decide +kernel), List.mem_of_getElem? (i := 507) (by decide +kernel), ⟨prog_11_method_2_code, 2, (Option.some Jvm.ClassFile.FieldType.boolean), List.mem_of_getElem? (i := 530) (by decide +kernel)⟩, List.mem_of_getElem? (i := 508) (by decide +kernel), List.mem_of_getElem? (i := 507) (by decide +kernel), rfl⟩
theorem G21 : Gam[21]? = some (.inr (.inr (6, []))) := rfl
theorem rc_21 : recv 21 "TakerBook$Thief" := ⟨6, _, (R_Th, F_Th, 0), G21, rfl, rfl⟩
theorem st_T_134_Re : siteU "TakerBook" 134 ⟨"TakerBook$Thief", "isOf", "(I)Z"⟩ ⟨"TakerBook$Returned", "isOf", "(I)Z"⟩ "TakerBook$Returned" := ⟨List.mem_of_getElem? (i := 640) (by decide +kernel), List.mem_of_getElem? (i := 509) (by decide +kernel), List.mem_of_getElem? (i := 507) (by decide +kernel), ⟨prog_11_method_2_code, 2, (Option.some Jvm.ClassFile.FieldType.boolean), List.mem_of_getElem? (i := 530) (by decide +kernel)⟩, List.mem_of_getElem? (i := 525) (by decide +kernel), List.mem_of_getElem? (i := 522) (by decide +kernel), rfl⟩
theorem G22 : Gam[22]? = some (.inr (.inr (7, []))) := rfl
theorem rc_22 : recv 22 "TakerBook$Returned" := ⟨7, _, (R_Re, F_Re, 0), G22, rfl, rfl⟩
theorem st_T_134_Cl : siteU "TakerBook" 134 ⟨"TakerBook$Thief", "isOf", "(I)Z"⟩ ⟨"TakerBook$Clerk", "isOf", "(I)Z"⟩ "TakerBook$Clerk" := ⟨List.mem_of_getElem? (i := 640) (by decide +kernel), List.mem_of_getElem? (i := 509) (by decide +kernel), List.mem_of_getElem? (i := 507) (by decide +kernel), ⟨prog_11_method_2_code, 2, (Option.some Jvm.ClassFile.FieldType.boolean), List.mem_of_getElem? (i := 530) (by decide +kernel)⟩, List.mem_of_getElem? (i := 510) (by decide +kernel), List.mem_of_getElem? (i := 511) (by decide +kernel), rfl⟩
theorem G23 : Gam[23]? = some (.inr (.inr (8, []))) := rfl
theorem rc_23 : recv 23 "TakerBook$Clerk" := ⟨8, _, (R_Cl, F_Cl, 0), G23, rfl, rfl⟩
theorem st_T_134_Ga : siteU "TakerBook" 134 ⟨"TakerBook$Thief", "isOf", "(I)Z"⟩ ⟨"TakerBook$Gang", "isOf", "(I)Z"⟩ "TakerBook$Gang" := ⟨List.mem_of_getElem? (i := 640) (by decide +kernel), List.mem_of_getElem? (i := 509) (by decide +kernel), List.mem_of_getElem? (i := 507) (by decide +kernel), ⟨prog_11_method_2_code, 2, (Option.some Jvm.ClassFile.FieldType.boolean), List.mem_of_getElem? (i := 530) (by decide +kernel)⟩, List.mem_of_getElem? (i := 514) (by decide +kernel), List.mem_of_getElem? (i := 515) (by decide +kernel), rfl⟩
theorem G24 : Gam[24]? = some (.inr (.inr (9, []))) := rfl
theorem rc_24 : recv 24 "TakerBook$Gang" := ⟨9, _, (R_Ga, F_Ga, 0), G24, rfl, rfl⟩
theorem st_T_134_La : siteU "TakerBook" 134 ⟨"TakerBook$Thief", "isOf", "(I)Z"⟩ ⟨"TakerBook$Lace", "isOf", "(I)Z"⟩ "TakerBook$Lace" := ⟨List.mem_of_getElem? (i := 640) (by decide +kernel), List.mem_of_getElem? (i := 509) (by decide +kernel), List.mem_of_getElem? (i := 507) (by decide +kernel), ⟨prog_11_method_2_code, 2, (Option.some Jvm.ClassFile.FieldType.boolean), List.mem_of_getElem? (i := 530) (by decide +kernel)⟩, List.mem_of_getElem? (i := 518) (by decide +kernel), List.mem_of_getElem? (i := 519) (by decide +kernel), rfl⟩
theorem G25 : Gam[25]? = some (.inr (.inr (10, []))) := rfl
theorem rc_25 : recv 25 "TakerBook$Lace" := ⟨10, _, (R_La, F_La, 0), G25, rfl, rfl⟩
theorem st_T_134_Yo : siteU "TakerBook" 134 ⟨"TakerBook$Thief", "isOf", "(I)Z"⟩ ⟨"TakerBook$Young", "isOf", "(I)Z"⟩ "TakerBook$Young" := ⟨List.mem_of_getElem? (i := 640) (by decide +kernel), List.mem_of_getElem? (i := 509) (by decide +kernel), List.mem_of_getElem? (i := 507) (by decide +kernel), ⟨prog_11_method_2_code, 2, (Option.some Jvm.ClassFile.FieldType.boolean), List.mem_of_getElem? (i := 530) (by decide +kernel)⟩, List.mem_of_getElem? (i := 526) (by decide +kernel), List.mem_of_getElem? (i := 527) (by decide +kernel), rfl⟩
theorem G26 : Gam[26]? = some (.inr (.inr (11, []))) := rfl
theorem rc_26 : recv 26 "TakerBook$Young" := ⟨11, _, (R_Yo, F_Yo, 0), G26, rfl, rfl⟩
theorem st_T_366_Th : siteU "TakerBook" 366 ⟨"TakerBook$Thief", "talks", "(IIII)Z"⟩ ⟨"TakerBook$Thief", "talks", "(IIII)Z"⟩ "TakerBook$Thief" := ⟨List.mem_of_getElem? (i := 856) (by decide +kernel), List.mem_of_getElem? (i := 587) (by decide +kernel), List.mem_of_getElem? (i := 585) (by decide +kernel), ⟨prog_11_method_4_code, 5, (Option.some Jvm.ClassFile.FieldType.boolean), List.mem_of_getElem? (i := 606) (by decide +kernel)⟩, List.mem_of_getElem? (i := 586) (by decide +kernel), List.mem_of_getElem? (i := 585) (by decide +kernel), rfl⟩
theorem st_T_366_Re : siteU "TakerBook" 366 ⟨"TakerBook$Thief", "talks", "(IIII)Z"⟩ ⟨"TakerBook$Returned", "talks", "(IIII)Z"⟩ "TakerBook$Returned" := ⟨List.mem_of_getElem? (i := 856) (by decide +kernel), List.mem_of_getElem? (i := 587) (by decide +kernel), List.mem_of_getElem? (i := 585) (by decide +kernel), ⟨prog_11_method_4_code, 5, (Option.some Jvm.ClassFile.FieldType.boolean), List.mem_of_getElem? (i := 606) (by decide +kernel)⟩, List.mem_of_getElem? (i := 599) (by decide +kernel), List.mem_of_getElem? (i := 600) (by decide +kernel), rfl⟩
theorem st_T_366_Cl : siteU "TakerBook" 366 ⟨"TakerBook$Thief", "talks", "(IIII)Z"⟩ ⟨"TakerBook$Clerk", "talks", "(IIII)Z"⟩ "TakerBook$Clerk" := ⟨List.mem_of_getElem? (i := 856) (by decide +kernel), List.mem_of_getElem? (i := 587) (by decide +kernel), List.mem_of_getElem? (i := 585) (by decide +kernel), ⟨prog_11_method_4_code, 5, (Option.some Jvm.ClassFile.FieldType.boolean), List.mem_of_getElem? (i := 606) (by decide +kernel)⟩, List.mem_of_getElem? (i := 588) (by decide +kernel), List.mem_of_getElem? (i := 589) (by decide +kernel), rfl⟩
theorem st_T_366_Ga : siteU "TakerBook" 366 ⟨"TakerBook$Thief", "talks", "(IIII)Z"⟩ ⟨"TakerBook$Gang", "talks", "(IIII)Z"⟩ "TakerBook$Gang" := ⟨List.mem_of_getElem? (i := 856) (by decide +kernel), List.mem_of_getElem? (i := 587) (by decide +kernel), List.mem_of_getElem? (i := 585) (by decide +kernel), ⟨prog_11_method_4_code, 5, (Option.some Jvm.ClassFile.FieldType.boolean), List.mem_of_getElem? (i := 606) (by decide +kernel)⟩, List.mem_of_getElem? (i := 592) (by decide +kernel), List.mem_of_getElem? (i := 593) (by decide +kernel), rfl⟩
theorem st_T_366_La : siteU "TakerBook" 366 ⟨"TakerBook$Thief", "talks", "(IIII)Z"⟩ ⟨"TakerBook$Lace", "talks", "(IIII)Z"⟩ "TakerBook$Lace" := ⟨List.mem_of_getElem? (i := 856) (by decide +kernel), List.mem_of_getElem? (i := 587) (by decide +kernel), List.mem_of_getElem? (i := 585) (by decide +kernel), ⟨prog_11_method_4_code, 5, (Option.some Jvm.ClassFile.FieldType.boolean), List.mem_of_getElem? (i := 606) (by decide +kernel)⟩, List.mem_of_getElem? (i := 596) (by decide +kernel), List.mem_of_getElem? (i := 597) (by decide +kernel), rfl⟩
theorem st_T_366_Yo : siteU "TakerBook" 366 ⟨"TakerBook$Thief", "talks", "(IIII)Z"⟩ ⟨"TakerBook$Young", "talks", "(IIII)Z"⟩ "TakerBook$Young" := ⟨List.mem_of_getElem? (i := 856) (by decide +kernel), List.mem_of_getElem? (i := 587) (by decide +kernel), List.mem_of_getElem? (i := 585) (by decide +kernel), ⟨prog_11_method_4_code, 5, (Option.some Jvm.ClassFile.FieldType.boolean), List.mem_of_getElem? (i := 606) (by decide +kernel)⟩, List.mem_of_getElem? (i := 602) (by decide +kernel), List.mem_of_getElem? (i := 603) (by decide +kernel), rfl⟩
theorem st_B_88_Th : siteU "TakerBook$Band" 88 ⟨"TakerBook$Thief", "isOf", "(I)Z"⟩ ⟨"TakerBook$Thief", "isOf", "(I)Z"⟩ "TakerBook$Thief" := ⟨List.mem_of_getElem? (i := 506) (by decide +kernel), List.mem_of_getElem? (i := 509) (by decide +kernel), List.mem_of_getElem? (i := 507) (by decide +kernel), ⟨prog_11_method_2_code, 2, (Option.some Jvm.ClassFile.FieldType.boolean), List.mem_of_getElem? (i := 530) (by decide +kernel)⟩, List.mem_of_getElem? (i := 508) (by decide +kernel), List.mem_of_getElem? (i := 507) (by decide +kernel), rfl⟩
theorem st_B_88_Re : siteU "TakerBook$Band" 88 ⟨"TakerBook$Thief", "isOf", "(I)Z"⟩ ⟨"TakerBook$Returned", "isOf", "(I)Z"⟩ "TakerBook$Returned" := ⟨List.mem_of_getElem? (i := 506) (by decide +kernel), List.mem_of_getElem? (i := 509) (by decide +kernel), List.mem_of_getElem? (i := 507) (by decide +kernel), ⟨prog_11_method_2_code, 2, (Option.some Jvm.ClassFile.FieldType.boolean), List.mem_of_getElem? (i := 530) (by decide +kernel)⟩, List.mem_of_getElem? (i := 525) (by decide +kernel), List.mem_of_getElem? (i := 522) (by decide +kernel), rfl⟩
theorem st_B_88_Cl : siteU "TakerBook$Band" 88 ⟨"TakerBook$Thief", "isOf", "(I)Z"⟩ ⟨"TakerBook$Clerk", "isOf", "(I)Z"⟩ "TakerBook$Clerk" := ⟨List.mem_of_getElem? (i := 506) (by decide +kernel), List.mem_of_getElem? (i := 509) (by decide +kernel), List.mem_of_getElem? (i := 507) (by decide +kernel), ⟨prog_11_method_2_code, 2, (Option.some Jvm.ClassFile.FieldType.boolean), List.mem_of_getElem? (i := 530) (by decide +kernel)⟩, List.mem_of_getElem? (i := 510) (by decide +kernel), List.mem_of_getElem? (i := 511) (by decide +kernel), rfl⟩
theorem st_B_88_Ga : siteU "TakerBook$Band" 88 ⟨"TakerBook$Thief", "isOf", "(I)Z"⟩ ⟨"TakerBook$Gang", "isOf", "(I)Z"⟩ "TakerBook$Gang" := ⟨List.mem_of_getElem? (i := 506) (by decide +kernel), List.mem_of_getElem? (i := 509) (by decide +kernel), List.mem_of_getElem? (i := 507) (by decide +kernel), ⟨prog_11_method_2_code, 2, (Option.some Jvm.ClassFile.FieldType.boolean), List.mem_of_getElem? (i := 530) (by decide +kernel)⟩, List.mem_of_getElem? (i := 514) (by decide +kernel), List.mem_of_getElem? (i := 515) (by decide +kernel), rfl⟩
theorem st_B_88_La : siteU "TakerBook$Band" 88 ⟨"TakerBook$Thief", "isOf", "(I)Z"⟩ ⟨"TakerBook$Lace", "isOf", "(I)Z"⟩ "TakerBook$Lace" := ⟨List.mem_of_getElem? (i := 506) (by decide +kernel), List.mem_of_getElem? (i := 509) (by decide +kernel), List.mem_of_getElem? (i := 507) (by decide +kernel), ⟨prog_11_method_2_code, 2, (Option.some Jvm.ClassFile.FieldType.boolean), List.mem_of_getElem? (i := 530) (by decide +kernel)⟩, List.mem_of_getElem? (i := 518) (by decide +kernel), List.mem_of_getElem? (i := 519) (by decide +kernel), rfl⟩
theorem st_B_88_Yo : siteU "TakerBook$Band" 88 ⟨"TakerBook$Thief", "isOf", "(I)Z"⟩ ⟨"TakerBook$Young", "isOf", "(I)Z"⟩ "TakerBook$Young" := ⟨List.mem_of_getElem? (i := 506) (by decide +kernel), List.mem_of_getElem? (i := 509) (by decide +kernel), List.mem_of_getElem? (i := 507) (by decide +kernel), ⟨prog_11_method_2_code, 2, (Option.some Jvm.ClassFile.FieldType.boolean), List.mem_of_getElem? (i := 530) (by decide +kernel)⟩, List.mem_of_getElem? (i := 526) (by decide +kernel), List.mem_of_getElem? (i := 527) (by decide +kernel), rfl⟩
theorem st_B_125_Th : siteU "TakerBook$Band" 125 ⟨"TakerBook$Thief", "loot", "(II)I"⟩ ⟨"TakerBook$Thief", "loot", "(II)I"⟩ "TakerBook$Thief" := ⟨List.mem_of_getElem? (i := 561) (by decide +kernel), List.mem_of_getElem? (i := 564) (by decide +kernel), List.mem_of_getElem? (i := 562) (by decide +kernel), ⟨prog_11_method_3_code, 3, (Option.some Jvm.ClassFile.FieldType.int), List.mem_of_getElem? (i := 579) (by decide +kernel)⟩, List.mem_of_getElem? (i := 563) (by decide +kernel), List.mem_of_getElem? (i := 562) (by decide +kernel), rfl⟩
theorem st_B_125_Re : siteU "TakerBook$Band" 125 ⟨"TakerBook$Thief", "loot", "(II)I"⟩ ⟨"TakerBook$Returned", "loot", "(II)I"⟩ "TakerBook$Returned" := ⟨List.mem_of_getElem? (i := 561) (by decide +kernel), List.mem_of_getElem? (i := 564) (by decide +kernel), List.mem_of_getElem? (i := 562) (by decide +kernel), ⟨prog_11_method_3_code, 3, (Option.some Jvm.ClassFile.FieldType.int), List.mem_of_getElem? (i := 579) (by decide +kernel)⟩, List.mem_of_getElem? (i := 574) (by decide +kernel), List.mem_of_getElem? (i := 572) (by decide +kernel), rfl⟩
theorem st_B_125_Cl : siteU "TakerBook$Band" 125 ⟨"TakerBook$Thief", "loot", "(II)I"⟩ ⟨"TakerBook$Clerk", "loot", "(II)I"⟩ "TakerBook$Clerk" := ⟨List.mem_of_getElem? (i := 561) (by decide +kernel), List.mem_of_getElem? (i := 564) (by decide +kernel), List.mem_of_getElem? (i := 562) (by decide +kernel), ⟨prog_11_method_3_code, 3, (Option.some Jvm.ClassFile.FieldType.int), List.mem_of_getElem? (i := 579) (by decide +kernel)⟩, List.mem_of_getElem? (i := 565) (by decide +kernel), List.mem_of_getElem? (i := 566) (by decide +kernel), rfl⟩
theorem st_B_125_Ga : siteU "TakerBook$Band" 125 ⟨"TakerBook$Thief", "loot", "(II)I"⟩ ⟨"TakerBook$Gang", "loot", "(II)I"⟩ "TakerBook$Gang" := ⟨List.mem_of_getElem? (i := 561) (by decide +kernel), List.mem_of_getElem? (i := 564) (by decide +kernel), List.mem_of_getElem? (i := 562) (by decide +kernel), ⟨prog_11_method_3_code, 3, (Option.some Jvm.ClassFile.FieldType.int), List.mem_of_getElem? (i := 579) (by decide +kernel)⟩, List.mem_of_getElem? (i := 568) (by decide +kernel), List.mem_of_getElem? (i := 569) (by decide +kernel), rfl⟩
theorem st_B_125_La : siteU "TakerBook$Band" 125 ⟨"TakerBook$Thief", "loot", "(II)I"⟩ ⟨"TakerBook$Returned", "loot", "(II)I"⟩ "TakerBook$Lace" := ⟨List.mem_of_getElem? (i := 561) (by decide +kernel), List.mem_of_getElem? (i := 564) (by decide +kernel), List.mem_of_getElem? (i := 562) (by decide +kernel), ⟨prog_11_method_3_code, 3, (Option.some Jvm.ClassFile.FieldType.int), List.mem_of_getElem? (i := 579) (by decide +kernel)⟩, List.mem_of_getElem? (i := 571) (by decide +kernel), List.mem_of_getElem? (i := 572) (by decide +kernel), rfl⟩
theorem st_B_125_Yo : siteU "TakerBook$Band" 125 ⟨"TakerBook$Thief", "loot", "(II)I"⟩ ⟨"TakerBook$Young", "loot", "(II)I"⟩ "TakerBook$Young" := ⟨List.mem_of_getElem? (i := 561) (by decide +kernel), List.mem_of_getElem? (i := 564) (by decide +kernel), List.mem_of_getElem? (i := 562) (by decide +kernel), ⟨prog_11_method_3_code, 3, (Option.some Jvm.ClassFile.FieldType.int), List.mem_of_getElem? (i := 579) (by decide +kernel)⟩, List.mem_of_getElem? (i := 575) (by decide +kernel), List.mem_of_getElem? (i := 576) (by decide +kernel), rfl⟩
theorem st_B_128_Th : siteU "TakerBook$Band" 128 ⟨"TakerBook$Thief", "price", "(II)I"⟩ ⟨"TakerBook$Thief", "price", "(II)I"⟩ "TakerBook$Thief" := ⟨List.mem_of_getElem? (i := 614) (by decide +kernel), List.mem_of_getElem? (i := 617) (by decide +kernel), List.mem_of_getElem? (i := 615) (by decide +kernel), ⟨prog_11_method_5_code, 3, (Option.some Jvm.ClassFile.FieldType.int), List.mem_of_getElem? (i := 634) (by decide +kernel)⟩, List.mem_of_getElem? (i := 616) (by decide +kernel), List.mem_of_getElem? (i := 615) (by decide +kernel), rfl⟩
theorem st_B_128_Re : siteU "TakerBook$Band" 128 ⟨"TakerBook$Thief", "price", "(II)I"⟩ ⟨"TakerBook$Thief", "price", "(II)I"⟩ "TakerBook$Returned" := ⟨List.mem_of_getElem? (i := 614) (by decide +kernel), List.mem_of_getElem? (i := 617) (by decide +kernel), List.mem_of_getElem? (i := 615) (by decide +kernel), ⟨prog_11_method_5_code, 3, (Option.some Jvm.ClassFile.FieldType.int), List.mem_of_getElem? (i := 634) (by decide +kernel)⟩, List.mem_of_getElem? (i := 624) (by decide +kernel), List.mem_of_getElem? (i := 615) (by decide +kernel), rfl⟩
theorem st_B_128_Cl : siteU "TakerBook$Band" 128 ⟨"TakerBook$Thief", "price", "(II)I"⟩ ⟨"TakerBook$Clerk", "price", "(II)I"⟩ "TakerBook$Clerk" := ⟨List.mem_of_getElem? (i := 614) (by decide +kernel), List.mem_of_getElem? (i := 617) (by decide +kernel), List.mem_of_getElem? (i := 615) (by decide +kernel), ⟨prog_11_method_5_code, 3, (Option.some Jvm.ClassFile.FieldType.int), List.mem_of_getElem? (i := 634) (by decide +kernel)⟩, List.mem_of_getElem? (i := 618) (by decide +kernel), List.mem_of_getElem? (i := 619) (by decide +kernel), rfl⟩
theorem st_B_128_Ga : siteU "TakerBook$Band" 128 ⟨"TakerBook$Thief", "price", "(II)I"⟩ ⟨"TakerBook$Thief", "price", "(II)I"⟩ "TakerBook$Gang" := ⟨List.mem_of_getElem? (i := 614) (by decide +kernel), List.mem_of_getElem? (i := 617) (by decide +kernel), List.mem_of_getElem? (i := 615) (by decide +kernel), ⟨prog_11_method_5_code, 3, (Option.some Jvm.ClassFile.FieldType.int), List.mem_of_getElem? (i := 634) (by decide +kernel)⟩, List.mem_of_getElem? (i := 622) (by decide +kernel), List.mem_of_getElem? (i := 615) (by decide +kernel), rfl⟩
theorem st_B_128_La : siteU "TakerBook$Band" 128 ⟨"TakerBook$Thief", "price", "(II)I"⟩ ⟨"TakerBook$Thief", "price", "(II)I"⟩ "TakerBook$Lace" := ⟨List.mem_of_getElem? (i := 614) (by decide +kernel), List.mem_of_getElem? (i := 617) (by decide +kernel), List.mem_of_getElem? (i := 615) (by decide +kernel), ⟨prog_11_method_5_code, 3, (Option.some Jvm.ClassFile.FieldType.int), List.mem_of_getElem? (i := 634) (by decide +kernel)⟩, List.mem_of_getElem? (i := 623) (by decide +kernel), List.mem_of_getElem? (i := 615) (by decide +kernel), rfl⟩
theorem st_B_128_Yo : siteU "TakerBook$Band" 128 ⟨"TakerBook$Thief", "price", "(II)I"⟩ ⟨"TakerBook$Young", "price", "(II)I"⟩ "TakerBook$Young" := ⟨List.mem_of_getElem? (i := 614) (by decide +kernel), List.mem_of_getElem? (i := 617) (by decide +kernel), List.mem_of_getElem? (i := 615) (by decide +kernel), ⟨prog_11_method_5_code, 3, (Option.some Jvm.ClassFile.FieldType.int), List.mem_of_getElem? (i := 634) (by decide +kernel)⟩, List.mem_of_getElem? (i := 625) (by decide +kernel), List.mem_of_getElem? (i := 626) (by decide +kernel), rfl⟩
theorem st_B_131_Th : siteU "TakerBook$Band" 131 ⟨"TakerBook$Thief", "talks", "(IIII)Z"⟩ ⟨"TakerBook$Thief", "talks", "(IIII)Z"⟩ "TakerBook$Thief" := ⟨List.mem_of_getElem? (i := 584) (by decide +kernel), List.mem_of_getElem? (i := 587) (by decide +kernel), List.mem_of_getElem? (i := 585) (by decide +kernel), ⟨prog_11_method_4_code, 5, (Option.some Jvm.ClassFile.FieldType.boolean), List.mem_of_getElem? (i := 606) (by decide +kernel)⟩, List.mem_of_getElem? (i := 586) (by decide +kernel), List.mem_of_getElem? (i := 585) (by decide +kernel), rfl⟩
theorem st_B_131_Re : siteU "TakerBook$Band" 131 ⟨"TakerBook$Thief", "talks", "(IIII)Z"⟩ ⟨"TakerBook$Returned", "talks", "(IIII)Z"⟩ "TakerBook$Returned" := ⟨List.mem_of_getElem? (i := 584) (by decide +kernel), List.mem_of_getElem? (i := 587) (by decide +kernel), List.mem_of_getElem? (i := 585) (by decide +kernel), ⟨prog_11_method_4_code, 5, (Option.some Jvm.ClassFile.FieldType.boolean), List.mem_of_getElem? (i := 606) (by decide +kernel)⟩, List.mem_of_getElem? (i := 599) (by decide +kernel), List.mem_of_getElem? (i := 600) (by decide +kernel), rfl⟩
theorem st_B_131_Cl : siteU "TakerBook$Band" 131 ⟨"TakerBook$Thief", "talks", "(IIII)Z"⟩ ⟨"TakerBook$Clerk", "talks", "(IIII)Z"⟩ "TakerBook$Clerk" := ⟨List.mem_of_getElem? (i := 584) (by decide +kernel), List.mem_of_getElem? (i := 587) (by decide +kernel), List.mem_of_getElem? (i := 585) (by decide +kernel), ⟨prog_11_method_4_code, 5, (Option.some Jvm.ClassFile.FieldType.boolean), List.mem_of_getElem? (i := 606) (by decide +kernel)⟩, List.mem_of_getElem? (i := 588) (by decide +kernel), List.mem_of_getElem? (i := 589) (by decide +kernel), rfl⟩
theorem st_B_131_Ga : siteU "TakerBook$Band" 131 ⟨"TakerBook$Thief", "talks", "(IIII)Z"⟩ ⟨"TakerBook$Gang", "talks", "(IIII)Z"⟩ "TakerBook$Gang" := ⟨List.mem_of_getElem? (i := 584) (by decide +kernel), List.mem_of_getElem? (i := 587) (by decide +kernel), List.mem_of_getElem? (i := 585) (by decide +kernel), ⟨prog_11_method_4_code, 5, (Option.some Jvm.ClassFile.FieldType.boolean), List.mem_of_getElem? (i := 606) (by decide +kernel)⟩, List.mem_of_getElem? (i := 592) (by decide +kernel), List.mem_of_getElem? (i := 593) (by decide +kernel), rfl⟩
theorem st_B_131_La : siteU "TakerBook$Band" 131 ⟨"TakerBook$Thief", "talks", "(IIII)Z"⟩ ⟨"TakerBook$Lace", "talks", "(IIII)Z"⟩ "TakerBook$Lace" := ⟨List.mem_of_getElem? (i := 584) (by decide +kernel), List.mem_of_getElem? (i := 587) (by decide +kernel), List.mem_of_getElem? (i := 585) (by decide +kernel), ⟨prog_11_method_4_code, 5, (Option.some Jvm.ClassFile.FieldType.boolean), List.mem_of_getElem? (i := 606) (by decide +kernel)⟩, List.mem_of_getElem? (i := 596) (by decide +kernel), List.mem_of_getElem? (i := 597) (by decide +kernel), rfl⟩
theorem st_B_131_Yo : siteU "TakerBook$Band" 131 ⟨"TakerBook$Thief", "talks", "(IIII)Z"⟩ ⟨"TakerBook$Young", "talks", "(IIII)Z"⟩ "TakerBook$Young" := ⟨List.mem_of_getElem? (i := 584) (by decide +kernel), List.mem_of_getElem? (i := 587) (by decide +kernel), List.mem_of_getElem? (i := 585) (by decide +kernel), ⟨prog_11_method_4_code, 5, (Option.some Jvm.ClassFile.FieldType.boolean), List.mem_of_getElem? (i := 606) (by decide +kernel)⟩, List.mem_of_getElem? (i := 602) (by decide +kernel), List.mem_of_getElem? (i := 603) (by decide +kernel), rfl⟩
abbrev b_Th_isOf : ByteArray := prog_11_method_2_code
abbrev y_Th_isOf : MethodName := ⟨"TakerBook$Thief", "isOf", "(I)Z"⟩
theorem d_Th_isOf_0 : decode b_Th_isOf 0 = .ok (.iload_n 1, 1) := by decide +kernel
theorem d_Th_isOf_1 : decode b_Th_isOf 1 = .ok (.ifCond .ne 7, 3) := by decide +kernel
theorem d_Th_isOf_4 : decode b_Th_isOf 4 = .ok (.iconst 1, 1) := by decide +kernel
theorem d_Th_isOf_5 : decode b_Th_isOf 5 = .ok (.goto 4, 3) := by decide +kernel
theorem d_Th_isOf_8 : decode b_Th_isOf 8 = .ok (.iconst 0, 1) := by decide +kernel
theorem d_Th_isOf_9 : decode b_Th_isOf 9 = .ok (.ireturn, 1) := by decide +kernel
theorem mo_Th_isOf : mok y_Th_isOf b_Th_isOf 2 (some .boolean) 1 := ⟨List.mem_of_getElem? (i := 530) (by decide +kernel), ⟨by decide +kernel, by decide +kernel, by decide +kernel⟩, List.mem_of_getElem? (i := 77) (by decide +kernel), by decide⟩
set_option maxHeartbeats 4000000 in
theorem c_Th_isOf (l : Launch) (u : Un) (hA : Ap u) (σ : St) (k0 : Nat) (C : String) (hrc : recv k0 C) (w : Int32) : MTi l u y_Th_isOf b_Th_isOf 2 .boolean 0 [.ref (u.2.1 k0), .int w] σ (fun ans σ' => bI (ofB 0 w = true) = ans ∧ σ = σ') := by
  refine MT_of hA rfl (by decide) (Nat.le_of_ble_eq_true rfl) (fun X hl F hr => ?_)
  subst hl
  refine v_to (ls' := [(0, .ref (u.2.1 k0)), (1, .int w)]) rfl ?_
  refine v_iload_n F d_Th_isOf_0 rfl 1 rfl ?_
  refine v_if_ne F 8 d_Th_isOf_1 rfl (fun h1 => ?_) (fun h1 => ?_)
  · skip
    refine v_iconst (v := 0) F d_Th_isOf_8 ki_0 ?_
    refine v_iret F hr rfl d_Th_isOf_9 ?_
    exact ⟨(bI_f (by first | (simp_all [ofB]; done) | grind [ofB])), rfl⟩
  · skip
    refine v_iconst (v := 1) F d_Th_isOf_4 ki_1 ?_
    refine v_goto F 9 d_Th_isOf_5 rfl ?_
    refine v_iret F hr rfl d_Th_isOf_9 ?_
    exact ⟨(bI_t (by first | (simp_all [ofB]; done) | grind [ofB])), rfl⟩
abbrev b_Re_isOf : ByteArray := prog_10_method_2_code
abbrev y_Re_isOf : MethodName := ⟨"TakerBook$Returned", "isOf", "(I)Z"⟩
theorem d_Re_isOf_0 : decode b_Re_isOf 0 = .ok (.iload_n 1, 1) := by decide +kernel
theorem d_Re_isOf_1 : decode b_Re_isOf 1 = .ok (.iconst 1, 1) := by decide +kernel
theorem d_Re_isOf_2 : decode b_Re_isOf 2 = .ok (.if_icmp .eq 11, 3) := by decide +kernel
theorem d_Re_isOf_5 : decode b_Re_isOf 5 = .ok (.aload_n 0, 1) := by decide +kernel
theorem d_Re_isOf_6 : decode b_Re_isOf 6 = .ok (.iload_n 1, 1) := by decide +kernel
theorem d_Re_isOf_7 : decode b_Re_isOf 7 = .ok (.invokespecial 9, 3) := by decide +kernel
theorem d_Re_isOf_10 : decode b_Re_isOf 10 = .ok (.ifCond .eq 7, 3) := by decide +kernel
theorem d_Re_isOf_13 : decode b_Re_isOf 13 = .ok (.iconst 1, 1) := by decide +kernel
theorem d_Re_isOf_14 : decode b_Re_isOf 14 = .ok (.goto 4, 3) := by decide +kernel
theorem d_Re_isOf_17 : decode b_Re_isOf 17 = .ok (.iconst 0, 1) := by decide +kernel
theorem d_Re_isOf_18 : decode b_Re_isOf 18 = .ok (.ireturn, 1) := by decide +kernel
theorem mo_Re_isOf : mok y_Re_isOf b_Re_isOf 2 (some .boolean) 1 := ⟨List.mem_of_getElem? (i := 523) (by decide +kernel), ⟨by decide +kernel, by decide +kernel, by decide +kernel⟩, List.mem_of_getElem? (i := 78) (by decide +kernel), by decide⟩
set_option maxHeartbeats 4000000 in
theorem c_Re_isOf (l : Launch) (u : Un) (hA : Ap u) (σ : St) (k0 : Nat) (C : String) (hrc : recv k0 C) (w : Int32) : MTi l u y_Re_isOf b_Re_isOf 2 .boolean 1 [.ref (u.2.1 k0), .int w] σ (fun ans σ' => bI (ofB 1 w = true) = ans ∧ σ = σ') := by
  refine MT_of hA rfl (by decide) (Nat.le_of_ble_eq_true rfl) (fun X hl F hr => ?_)
  subst hl
  refine v_to (ls' := [(0, .ref (u.2.1 k0)), (1, .int w)]) rfl ?_
  refine v_iload_n F d_Re_isOf_0 rfl 1 rfl ?_
  refine v_iconst (v := 1) F d_Re_isOf_1 ki_1 ?_
  refine v_icmp_eq F 13 d_Re_isOf_2 rfl (fun h2 => ?_) (fun h2 => ?_)
  · skip
    refine v_iconst (v := 1) F d_Re_isOf_13 ki_1 ?_
    refine v_goto F 18 d_Re_isOf_14 rfl ?_
    refine v_iret F hr rfl d_Re_isOf_18 ?_
    exact ⟨(bI_t (by first | (simp_all [ofB]; done) | grind [ofB])), rfl⟩
  · skip
    refine v_aload_n F d_Re_isOf_5 rfl 0 rfl ?_
    refine v_iload_n F d_Re_isOf_6 rfl 1 rfl ?_
    refine v_runi (r_SU F (C := C) (c_Th_isOf X.2.1 u hA σ k0 C hrc w) mo_Th_isOf st_Re_9 hrc (by decide) rfl (Nat.le_of_ble_eq_true rfl) d_Re_isOf_7) (fun r1 σ2 q3 => ?_)
    obtain ⟨rfl, rfl⟩ := q3
    refine v_bt F 17 d_Re_isOf_10 rfl (fun h10 => ?_) (fun h10 => ?_)
    · skip
      refine v_iconst (v := 0) F d_Re_isOf_17 ki_0 ?_
      refine v_iret F hr rfl d_Re_isOf_18 ?_
      exact ⟨(bI_f (by first | (simp_all [ofB]; done) | grind [ofB])), rfl⟩
    · skip
      refine v_iconst (v := 1) F d_Re_isOf_13 ki_1 ?_
      refine v_goto F 18 d_Re_isOf_14 rfl ?_
      refine v_iret F hr rfl d_Re_isOf_18 ?_
      exact ⟨(bI_t (by first | (simp_all [ofB]; done) | grind [ofB])), rfl⟩
abbrev b_Cl_isOf : ByteArray := prog_3_method_2_code
abbrev y_Cl_isOf : MethodName := ⟨"TakerBook$Clerk", "isOf", "(I)Z"⟩
theorem d_Cl_isOf_0 : decode b_Cl_isOf 0 = .ok (.iload_n 1, 1) := by decide +kernel
theorem d_Cl_isOf_1 : decode b_Cl_isOf 1 = .ok (.iconst 2, 1) := by decide +kernel
theorem d_Cl_isOf_2 : decode b_Cl_isOf 2 = .ok (.if_icmp .eq 11, 3) := by decide +kernel
theorem d_Cl_isOf_5 : decode b_Cl_isOf 5 = .ok (.aload_n 0, 1) := by decide +kernel
theorem d_Cl_isOf_6 : decode b_Cl_isOf 6 = .ok (.iload_n 1, 1) := by decide +kernel
theorem d_Cl_isOf_7 : decode b_Cl_isOf 7 = .ok (.invokespecial 9, 3) := by decide +kernel
theorem d_Cl_isOf_10 : decode b_Cl_isOf 10 = .ok (.ifCond .eq 7, 3) := by decide +kernel
theorem d_Cl_isOf_13 : decode b_Cl_isOf 13 = .ok (.iconst 1, 1) := by decide +kernel
theorem d_Cl_isOf_14 : decode b_Cl_isOf 14 = .ok (.goto 4, 3) := by decide +kernel
theorem d_Cl_isOf_17 : decode b_Cl_isOf 17 = .ok (.iconst 0, 1) := by decide +kernel
theorem d_Cl_isOf_18 : decode b_Cl_isOf 18 = .ok (.ireturn, 1) := by decide +kernel
theorem mo_Cl_isOf : mok y_Cl_isOf b_Cl_isOf 2 (some .boolean) 1 := ⟨List.mem_of_getElem? (i := 512) (by decide +kernel), ⟨by decide +kernel, by decide +kernel, by decide +kernel⟩, List.mem_of_getElem? (i := 79) (by decide +kernel), by decide⟩
set_option maxHeartbeats 4000000 in
theorem c_Cl_isOf (l : Launch) (u : Un) (hA : Ap u) (σ : St) (k0 : Nat) (C : String) (hrc : recv k0 C) (w : Int32) : MTi l u y_Cl_isOf b_Cl_isOf 2 .boolean 1 [.ref (u.2.1 k0), .int w] σ (fun ans σ' => bI (ofB 2 w = true) = ans ∧ σ = σ') := by
  refine MT_of hA rfl (by decide) (Nat.le_of_ble_eq_true rfl) (fun X hl F hr => ?_)
  subst hl
  refine v_to (ls' := [(0, .ref (u.2.1 k0)), (1, .int w)]) rfl ?_
  refine v_iload_n F d_Cl_isOf_0 rfl 1 rfl ?_
  refine v_iconst (v := 2) F d_Cl_isOf_1 ki_2 ?_
  refine v_icmp_eq F 13 d_Cl_isOf_2 rfl (fun h2 => ?_) (fun h2 => ?_)
  · skip
    refine v_iconst (v := 1) F d_Cl_isOf_13 ki_1 ?_
    refine v_goto F 18 d_Cl_isOf_14 rfl ?_
    refine v_iret F hr rfl d_Cl_isOf_18 ?_
    exact ⟨(bI_t (by first | (simp_all [ofB]; done) | grind [ofB])), rfl⟩
  · skip
    refine v_aload_n F d_Cl_isOf_5 rfl 0 rfl ?_
    refine v_iload_n F d_Cl_isOf_6 rfl 1 rfl ?_
    refine v_runi (r_SU F (C := C) (c_Th_isOf X.2.1 u hA σ k0 C hrc w) mo_Th_isOf st_Cl_9 hrc (by decide) rfl (Nat.le_of_ble_eq_true rfl) d_Cl_isOf_7) (fun r1 σ2 q3 => ?_)
    obtain ⟨rfl, rfl⟩ := q3
    refine v_bt F 17 d_Cl_isOf_10 rfl (fun h10 => ?_) (fun h10 => ?_)
    · skip
      refine v_iconst (v := 0) F d_Cl_isOf_17 ki_0 ?_
      refine v_iret F hr rfl d_Cl_isOf_18 ?_
      exact ⟨(bI_f (by first | (simp_all [ofB]; done) | grind [ofB])), rfl⟩
    · skip
      refine v_iconst (v := 1) F d_Cl_isOf_13 ki_1 ?_
      refine v_goto F 18 d_Cl_isOf_14 rfl ?_
      refine v_iret F hr rfl d_Cl_isOf_18 ?_
      exact ⟨(bI_t (by first | (simp_all [ofB]; done) | grind [ofB])), rfl⟩
abbrev b_Ga_isOf : ByteArray := prog_5_method_2_code
abbrev y_Ga_isOf : MethodName := ⟨"TakerBook$Gang", "isOf", "(I)Z"⟩
theorem d_Ga_isOf_0 : decode b_Ga_isOf 0 = .ok (.iload_n 1, 1) := by decide +kernel
theorem d_Ga_isOf_1 : decode b_Ga_isOf 1 = .ok (.iconst 3, 1) := by decide +kernel
theorem d_Ga_isOf_2 : decode b_Ga_isOf 2 = .ok (.if_icmp .eq 11, 3) := by decide +kernel
theorem d_Ga_isOf_5 : decode b_Ga_isOf 5 = .ok (.aload_n 0, 1) := by decide +kernel
theorem d_Ga_isOf_6 : decode b_Ga_isOf 6 = .ok (.iload_n 1, 1) := by decide +kernel
theorem d_Ga_isOf_7 : decode b_Ga_isOf 7 = .ok (.invokespecial 9, 3) := by decide +kernel
theorem d_Ga_isOf_10 : decode b_Ga_isOf 10 = .ok (.ifCond .eq 7, 3) := by decide +kernel
theorem d_Ga_isOf_13 : decode b_Ga_isOf 13 = .ok (.iconst 1, 1) := by decide +kernel
theorem d_Ga_isOf_14 : decode b_Ga_isOf 14 = .ok (.goto 4, 3) := by decide +kernel
theorem d_Ga_isOf_17 : decode b_Ga_isOf 17 = .ok (.iconst 0, 1) := by decide +kernel
theorem d_Ga_isOf_18 : decode b_Ga_isOf 18 = .ok (.ireturn, 1) := by decide +kernel
theorem mo_Ga_isOf : mok y_Ga_isOf b_Ga_isOf 2 (some .boolean) 1 := ⟨List.mem_of_getElem? (i := 516) (by decide +kernel), ⟨by decide +kernel, by decide +kernel, by decide +kernel⟩, List.mem_of_getElem? (i := 80) (by decide +kernel), by decide⟩
set_option maxHeartbeats 4000000 in
theorem c_Ga_isOf (l : Launch) (u : Un) (hA : Ap u) (σ : St) (k0 : Nat) (C : String) (hrc : recv k0 C) (w : Int32) : MTi l u y_Ga_isOf b_Ga_isOf 2 .boolean 1 [.ref (u.2.1 k0), .int w] σ (fun ans σ' => bI (ofB 3 w = true) = ans ∧ σ = σ') := by
  refine MT_of hA rfl (by decide) (Nat.le_of_ble_eq_true rfl) (fun X hl F hr => ?_)
  subst hl
  refine v_to (ls' := [(0, .ref (u.2.1 k0)), (1, .int w)]) rfl ?_
  refine v_iload_n F d_Ga_isOf_0 rfl 1 rfl ?_
  refine v_iconst (v := 3) F d_Ga_isOf_1 ki_3 ?_
  refine v_icmp_eq F 13 d_Ga_isOf_2 rfl (fun h2 => ?_) (fun h2 => ?_)
  · skip
    refine v_iconst (v := 1) F d_Ga_isOf_13 ki_1 ?_
    refine v_goto F 18 d_Ga_isOf_14 rfl ?_
    refine v_iret F hr rfl d_Ga_isOf_18 ?_
    exact ⟨(bI_t (by first | (simp_all [ofB]; done) | grind [ofB])), rfl⟩
  · skip
    refine v_aload_n F d_Ga_isOf_5 rfl 0 rfl ?_
    refine v_iload_n F d_Ga_isOf_6 rfl 1 rfl ?_
    refine v_runi (r_SU F (C := C) (c_Th_isOf X.2.1 u hA σ k0 C hrc w) mo_Th_isOf st_Ga_9 hrc (by decide) rfl (Nat.le_of_ble_eq_true rfl) d_Ga_isOf_7) (fun r1 σ2 q3 => ?_)
    obtain ⟨rfl, rfl⟩ := q3
    refine v_bt F 17 d_Ga_isOf_10 rfl (fun h10 => ?_) (fun h10 => ?_)
    · skip
      refine v_iconst (v := 0) F d_Ga_isOf_17 ki_0 ?_
      refine v_iret F hr rfl d_Ga_isOf_18 ?_
      exact ⟨(bI_f (by first | (simp_all [ofB]; done) | grind [ofB])), rfl⟩
    · skip
      refine v_iconst (v := 1) F d_Ga_isOf_13 ki_1 ?_
      refine v_goto F 18 d_Ga_isOf_14 rfl ?_
      refine v_iret F hr rfl d_Ga_isOf_18 ?_
      exact ⟨(bI_t (by first | (simp_all [ofB]; done) | grind [ofB])), rfl⟩
abbrev b_La_isOf : ByteArray := prog_6_method_2_code
abbrev y_La_isOf : MethodName := ⟨"TakerBook$Lace", "isOf", "(I)Z"⟩
theorem d_La_isOf_0 : decode b_La_isOf 0 = .ok (.iload_n 1, 1) := by decide +kernel
theorem d_La_isOf_1 : decode b_La_isOf 1 = .ok (.iconst 4, 1) := by decide +kernel
theorem d_La_isOf_2 : decode b_La_isOf 2 = .ok (.if_icmp .eq 11, 3) := by decide +kernel
theorem d_La_isOf_5 : decode b_La_isOf 5 = .ok (.aload_n 0, 1) := by decide +kernel
theorem d_La_isOf_6 : decode b_La_isOf 6 = .ok (.iload_n 1, 1) := by decide +kernel
theorem d_La_isOf_7 : decode b_La_isOf 7 = .ok (.invokespecial 9, 3) := by decide +kernel
theorem d_La_isOf_10 : decode b_La_isOf 10 = .ok (.ifCond .eq 7, 3) := by decide +kernel
theorem d_La_isOf_13 : decode b_La_isOf 13 = .ok (.iconst 1, 1) := by decide +kernel
theorem d_La_isOf_14 : decode b_La_isOf 14 = .ok (.goto 4, 3) := by decide +kernel
theorem d_La_isOf_17 : decode b_La_isOf 17 = .ok (.iconst 0, 1) := by decide +kernel
theorem d_La_isOf_18 : decode b_La_isOf 18 = .ok (.ireturn, 1) := by decide +kernel
theorem mo_La_isOf : mok y_La_isOf b_La_isOf 2 (some .boolean) 1 := ⟨List.mem_of_getElem? (i := 520) (by decide +kernel), ⟨by decide +kernel, by decide +kernel, by decide +kernel⟩, List.mem_of_getElem? (i := 81) (by decide +kernel), by decide⟩
set_option maxHeartbeats 4000000 in
theorem c_La_isOf (l : Launch) (u : Un) (hA : Ap u) (σ : St) (k0 : Nat) (C : String) (hrc : recv k0 C) (w : Int32) : MTi l u y_La_isOf b_La_isOf 2 .boolean 2 [.ref (u.2.1 k0), .int w] σ (fun ans σ' => bI (ofB 4 w = true) = ans ∧ σ = σ') := by
  refine MT_of hA rfl (by decide) (Nat.le_of_ble_eq_true rfl) (fun X hl F hr => ?_)
  subst hl
  refine v_to (ls' := [(0, .ref (u.2.1 k0)), (1, .int w)]) rfl ?_
  refine v_iload_n F d_La_isOf_0 rfl 1 rfl ?_
  refine v_iconst (v := 4) F d_La_isOf_1 ki_4 ?_
  refine v_icmp_eq F 13 d_La_isOf_2 rfl (fun h2 => ?_) (fun h2 => ?_)
  · skip
    refine v_iconst (v := 1) F d_La_isOf_13 ki_1 ?_
    refine v_goto F 18 d_La_isOf_14 rfl ?_
    refine v_iret F hr rfl d_La_isOf_18 ?_
    exact ⟨(bI_t (by first | (simp_all [ofB]; done) | grind [ofB])), rfl⟩
  · skip
    refine v_aload_n F d_La_isOf_5 rfl 0 rfl ?_
    refine v_iload_n F d_La_isOf_6 rfl 1 rfl ?_
    refine v_runi (r_SU F (C := C) (c_Re_isOf X.2.1 u hA σ k0 C hrc w) mo_Re_isOf st_La_9 hrc (by decide) rfl (Nat.le_of_ble_eq_true rfl) d_La_isOf_7) (fun r1 σ2 q3 => ?_)
    obtain ⟨rfl, rfl⟩ := q3
    refine v_bt F 17 d_La_isOf_10 rfl (fun h10 => ?_) (fun h10 => ?_)
    · skip
      refine v_iconst (v := 0) F d_La_isOf_17 ki_0 ?_
      refine v_iret F hr rfl d_La_isOf_18 ?_
      exact ⟨(bI_f (by first | (simp_all [ofB]; done) | grind [ofB])), rfl⟩
    · skip
      refine v_iconst (v := 1) F d_La_isOf_13 ki_1 ?_
      refine v_goto F 18 d_La_isOf_14 rfl ?_
      refine v_iret F hr rfl d_La_isOf_18 ?_
      exact ⟨(bI_t (by first | (simp_all [ofB]; done) | grind [ofB])), rfl⟩
abbrev b_Yo_isOf : ByteArray := prog_12_method_2_code
abbrev y_Yo_isOf : MethodName := ⟨"TakerBook$Young", "isOf", "(I)Z"⟩
theorem d_Yo_isOf_0 : decode b_Yo_isOf 0 = .ok (.iload_n 1, 1) := by decide +kernel
theorem d_Yo_isOf_1 : decode b_Yo_isOf 1 = .ok (.iconst 5, 1) := by decide +kernel
theorem d_Yo_isOf_2 : decode b_Yo_isOf 2 = .ok (.if_icmp .eq 11, 3) := by decide +kernel
theorem d_Yo_isOf_5 : decode b_Yo_isOf 5 = .ok (.aload_n 0, 1) := by decide +kernel
theorem d_Yo_isOf_6 : decode b_Yo_isOf 6 = .ok (.iload_n 1, 1) := by decide +kernel
theorem d_Yo_isOf_7 : decode b_Yo_isOf 7 = .ok (.invokespecial 9, 3) := by decide +kernel
theorem d_Yo_isOf_10 : decode b_Yo_isOf 10 = .ok (.ifCond .eq 7, 3) := by decide +kernel
theorem d_Yo_isOf_13 : decode b_Yo_isOf 13 = .ok (.iconst 1, 1) := by decide +kernel
theorem d_Yo_isOf_14 : decode b_Yo_isOf 14 = .ok (.goto 4, 3) := by decide +kernel
theorem d_Yo_isOf_17 : decode b_Yo_isOf 17 = .ok (.iconst 0, 1) := by decide +kernel
theorem d_Yo_isOf_18 : decode b_Yo_isOf 18 = .ok (.ireturn, 1) := by decide +kernel
theorem mo_Yo_isOf : mok y_Yo_isOf b_Yo_isOf 2 (some .boolean) 1 := ⟨List.mem_of_getElem? (i := 528) (by decide +kernel), ⟨by decide +kernel, by decide +kernel, by decide +kernel⟩, List.mem_of_getElem? (i := 82) (by decide +kernel), by decide⟩
set_option maxHeartbeats 4000000 in
theorem c_Yo_isOf (l : Launch) (u : Un) (hA : Ap u) (σ : St) (k0 : Nat) (C : String) (hrc : recv k0 C) (w : Int32) : MTi l u y_Yo_isOf b_Yo_isOf 2 .boolean 2 [.ref (u.2.1 k0), .int w] σ (fun ans σ' => bI (ofB 5 w = true) = ans ∧ σ = σ') := by
  refine MT_of hA rfl (by decide) (Nat.le_of_ble_eq_true rfl) (fun X hl F hr => ?_)
  subst hl
  refine v_to (ls' := [(0, .ref (u.2.1 k0)), (1, .int w)]) rfl ?_
  refine v_iload_n F d_Yo_isOf_0 rfl 1 rfl ?_
  refine v_iconst (v := 5) F d_Yo_isOf_1 ki_5 ?_
  refine v_icmp_eq F 13 d_Yo_isOf_2 rfl (fun h2 => ?_) (fun h2 => ?_)
  · skip
    refine v_iconst (v := 1) F d_Yo_isOf_13 ki_1 ?_
    refine v_goto F 18 d_Yo_isOf_14 rfl ?_
    refine v_iret F hr rfl d_Yo_isOf_18 ?_
    exact ⟨(bI_t (by first | (simp_all [ofB]; done) | grind [ofB])), rfl⟩
  · skip
    refine v_aload_n F d_Yo_isOf_5 rfl 0 rfl ?_
    refine v_iload_n F d_Yo_isOf_6 rfl 1 rfl ?_
    refine v_runi (r_SU F (C := C) (c_Ga_isOf X.2.1 u hA σ k0 C hrc w) mo_Ga_isOf st_Yo_9 hrc (by decide) rfl (Nat.le_of_ble_eq_true rfl) d_Yo_isOf_7) (fun r1 σ2 q3 => ?_)
    obtain ⟨rfl, rfl⟩ := q3
    refine v_bt F 17 d_Yo_isOf_10 rfl (fun h10 => ?_) (fun h10 => ?_)
    · skip
      refine v_iconst (v := 0) F d_Yo_isOf_17 ki_0 ?_
      refine v_iret F hr rfl d_Yo_isOf_18 ?_
      exact ⟨(bI_f (by first | (simp_all [ofB]; done) | grind [ofB])), rfl⟩
    · skip
      refine v_iconst (v := 1) F d_Yo_isOf_13 ki_1 ?_
      refine v_goto F 18 d_Yo_isOf_14 rfl ?_
      refine v_iret F hr rfl d_Yo_isOf_18 ?_
      exact ⟨(bI_t (by first | (simp_all [ofB]; done) | grind [ofB])), rfl⟩
abbrev b_Th_loot : ByteArray := prog_11_method_3_code
abbrev y_Th_loot : MethodName := ⟨"TakerBook$Thief", "loot", "(II)I"⟩
theorem d_Th_loot_0 : decode b_Th_loot 0 = .ok (.iload_n 1, 1) := by decide +kernel
theorem d_Th_loot_1 : decode b_Th_loot 1 = .ok (.ireturn, 1) := by decide +kernel
theorem mo_Th_loot : mok y_Th_loot b_Th_loot 3 (some .int) 2 := ⟨List.mem_of_getElem? (i := 579) (by decide +kernel), ⟨by decide +kernel, by decide +kernel, by decide +kernel⟩, List.mem_of_getElem? (i := 77) (by decide +kernel), by decide⟩
set_option maxHeartbeats 4000000 in
theorem c_Th_loot (l : Launch) (u : Un) (hA : Ap u) (σ : St) (k0 : Nat) (C : String) (hrc : recv k0 C) (a b : Int32) : MTi l u y_Th_loot b_Th_loot 3 .int 0 [.ref (u.2.1 k0), .int a, .int b] σ (fun ans σ' => lootS 0 a b = ans ∧ σ = σ') := by
  refine MT_of hA rfl (by decide) (Nat.le_of_ble_eq_true rfl) (fun X hl F hr => ?_)
  subst hl
  refine v_to (ls' := [(0, .ref (u.2.1 k0)), (1, .int a), (2, .int b)]) rfl ?_
  refine v_iload_n F d_Th_loot_0 rfl 1 rfl ?_
  refine v_iret F hr rfl d_Th_loot_1 ?_
  exact ⟨rfl, rfl⟩
abbrev b_Re_loot : ByteArray := prog_10_method_3_code
abbrev y_Re_loot : MethodName := ⟨"TakerBook$Returned", "loot", "(II)I"⟩
theorem d_Re_loot_0 : decode b_Re_loot 0 = .ok (.iload_n 1, 1) := by decide +kernel
theorem d_Re_loot_1 : decode b_Re_loot 1 = .ok (.iconst 1, 1) := by decide +kernel
theorem d_Re_loot_2 : decode b_Re_loot 2 = .ok (.iadd, 1) := by decide +kernel
theorem d_Re_loot_3 : decode b_Re_loot 3 = .ok (.ireturn, 1) := by decide +kernel
theorem mo_Re_loot : mok y_Re_loot b_Re_loot 3 (some .int) 2 := ⟨List.mem_of_getElem? (i := 573) (by decide +kernel), ⟨by decide +kernel, by decide +kernel, by decide +kernel⟩, List.mem_of_getElem? (i := 78) (by decide +kernel), by decide⟩
set_option maxHeartbeats 4000000 in
theorem c_Re_loot (l : Launch) (u : Un) (hA : Ap u) (σ : St) (k0 : Nat) (C : String) (hrc : recv k0 C) (a b : Int32) : MTi l u y_Re_loot b_Re_loot 3 .int 0 [.ref (u.2.1 k0), .int a, .int b] σ (fun ans σ' => lootS 1 a b = ans ∧ σ = σ') := by
  refine MT_of hA rfl (by decide) (Nat.le_of_ble_eq_true rfl) (fun X hl F hr => ?_)
  subst hl
  refine v_to (ls' := [(0, .ref (u.2.1 k0)), (1, .int a), (2, .int b)]) rfl ?_
  refine v_iload_n F d_Re_loot_0 rfl 1 rfl ?_
  refine v_iconst (v := 1) F d_Re_loot_1 ki_1 ?_
  refine v_iadd F d_Re_loot_2 ?_
  refine v_iret F hr rfl d_Re_loot_3 ?_
  exact ⟨rfl, rfl⟩
abbrev b_Cl_loot : ByteArray := prog_3_method_3_code
abbrev y_Cl_loot : MethodName := ⟨"TakerBook$Clerk", "loot", "(II)I"⟩
theorem d_Cl_loot_0 : decode b_Cl_loot 0 = .ok (.iload_n 1, 1) := by decide +kernel
theorem d_Cl_loot_1 : decode b_Cl_loot 1 = .ok (.iconst 2, 1) := by decide +kernel
theorem d_Cl_loot_2 : decode b_Cl_loot 2 = .ok (.idiv, 1) := by decide +kernel
theorem d_Cl_loot_3 : decode b_Cl_loot 3 = .ok (.ireturn, 1) := by decide +kernel
theorem mo_Cl_loot : mok y_Cl_loot b_Cl_loot 3 (some .int) 2 := ⟨List.mem_of_getElem? (i := 567) (by decide +kernel), ⟨by decide +kernel, by decide +kernel, by decide +kernel⟩, List.mem_of_getElem? (i := 79) (by decide +kernel), by decide⟩
set_option maxHeartbeats 4000000 in
theorem c_Cl_loot (l : Launch) (u : Un) (hA : Ap u) (σ : St) (k0 : Nat) (C : String) (hrc : recv k0 C) (a b : Int32) : MTi l u y_Cl_loot b_Cl_loot 3 .int 0 [.ref (u.2.1 k0), .int a, .int b] σ (fun ans σ' => lootS 2 a b = ans ∧ σ = σ') := by
  refine MT_of hA rfl (by decide) (Nat.le_of_ble_eq_true rfl) (fun X hl F hr => ?_)
  subst hl
  refine v_to (ls' := [(0, .ref (u.2.1 k0)), (1, .int a), (2, .int b)]) rfl ?_
  refine v_iload_n F d_Cl_loot_0 rfl 1 rfl ?_
  refine v_iconst (v := 2) F d_Cl_loot_1 ki_2 ?_
  refine v_idiv F d_Cl_loot_2 (by decide) ?_
  refine v_iret F hr rfl d_Cl_loot_3 ?_
  exact ⟨rfl, rfl⟩
abbrev b_Ga_loot : ByteArray := prog_5_method_3_code
abbrev y_Ga_loot : MethodName := ⟨"TakerBook$Gang", "loot", "(II)I"⟩
theorem d_Ga_loot_0 : decode b_Ga_loot 0 = .ok (.iload_n 1, 1) := by decide +kernel
theorem d_Ga_loot_1 : decode b_Ga_loot 1 = .ok (.iload_n 2, 1) := by decide +kernel
theorem d_Ga_loot_2 : decode b_Ga_loot 2 = .ok (.iadd, 1) := by decide +kernel
theorem d_Ga_loot_3 : decode b_Ga_loot 3 = .ok (.ireturn, 1) := by decide +kernel
theorem mo_Ga_loot : mok y_Ga_loot b_Ga_loot 3 (some .int) 2 := ⟨List.mem_of_getElem? (i := 570) (by decide +kernel), ⟨by decide +kernel, by decide +kernel, by decide +kernel⟩, List.mem_of_getElem? (i := 80) (by decide +kernel), by decide⟩
set_option maxHeartbeats 4000000 in
theorem c_Ga_loot (l : Launch) (u : Un) (hA : Ap u) (σ : St) (k0 : Nat) (C : String) (hrc : recv k0 C) (a b : Int32) : MTi l u y_Ga_loot b_Ga_loot 3 .int 0 [.ref (u.2.1 k0), .int a, .int b] σ (fun ans σ' => lootS 3 a b = ans ∧ σ = σ') := by
  refine MT_of hA rfl (by decide) (Nat.le_of_ble_eq_true rfl) (fun X hl F hr => ?_)
  subst hl
  refine v_to (ls' := [(0, .ref (u.2.1 k0)), (1, .int a), (2, .int b)]) rfl ?_
  refine v_iload_n F d_Ga_loot_0 rfl 1 rfl ?_
  refine v_iload_n F d_Ga_loot_1 rfl 2 rfl ?_
  refine v_iadd F d_Ga_loot_2 ?_
  refine v_iret F hr rfl d_Ga_loot_3 ?_
  exact ⟨rfl, rfl⟩
abbrev b_Yo_loot : ByteArray := prog_12_method_3_code
abbrev y_Yo_loot : MethodName := ⟨"TakerBook$Young", "loot", "(II)I"⟩
theorem d_Yo_loot_0 : decode b_Yo_loot 0 = .ok (.aload_n 0, 1) := by decide +kernel
theorem d_Yo_loot_1 : decode b_Yo_loot 1 = .ok (.iload_n 1, 1) := by decide +kernel
theorem d_Yo_loot_2 : decode b_Yo_loot 2 = .ok (.iload_n 2, 1) := by decide +kernel
theorem d_Yo_loot_3 : decode b_Yo_loot 3 = .ok (.invokespecial 13, 3) := by decide +kernel
theorem d_Yo_loot_6 : decode b_Yo_loot 6 = .ok (.iconst 2, 1) := by decide +kernel
theorem d_Yo_loot_7 : decode b_Yo_loot 7 = .ok (.idiv, 1) := by decide +kernel
theorem d_Yo_loot_8 : decode b_Yo_loot 8 = .ok (.ireturn, 1) := by decide +kernel
theorem mo_Yo_loot : mok y_Yo_loot b_Yo_loot 3 (some .int) 2 := ⟨List.mem_of_getElem? (i := 577) (by decide +kernel), ⟨by decide +kernel, by decide +kernel, by decide +kernel⟩, List.mem_of_getElem? (i := 82) (by decide +kernel), by decide⟩
set_option maxHeartbeats 4000000 in
theorem c_Yo_loot (l : Launch) (u : Un) (hA : Ap u) (σ : St) (k0 : Nat) (C : String) (hrc : recv k0 C) (a b : Int32) : MTi l u y_Yo_loot b_Yo_loot 3 .int 1 [.ref (u.2.1 k0), .int a, .int b] σ (fun ans σ' => lootS 5 a b = ans ∧ σ = σ') := by
  refine MT_of hA rfl (by decide) (Nat.le_of_ble_eq_true rfl) (fun X hl F hr => ?_)
  subst hl
  refine v_to (ls' := [(0, .ref (u.2.1 k0)), (1, .int a), (2, .int b)]) rfl ?_
  refine v_aload_n F d_Yo_loot_0 rfl 0 rfl ?_
  refine v_iload_n F d_Yo_loot_1 rfl 1 rfl ?_
  refine v_iload_n F d_Yo_loot_2 rfl 2 rfl ?_
  refine v_runi (r_SU F (C := C) (c_Ga_loot X.2.1 u hA σ k0 C hrc a b) mo_Ga_loot st_Yo_13 hrc (by decide) rfl (Nat.le_of_ble_eq_true rfl) d_Yo_loot_3) (fun r1 σ2 q3 => ?_)
  obtain ⟨rfl, rfl⟩ := q3
  refine v_iconst (v := 2) F d_Yo_loot_6 ki_2 ?_
  refine v_idiv F d_Yo_loot_7 (by decide) ?_
  refine v_iret F hr rfl d_Yo_loot_8 ?_
  exact ⟨rfl, rfl⟩
abbrev b_Th_talks : ByteArray := prog_11_method_4_code
abbrev y_Th_talks : MethodName := ⟨"TakerBook$Thief", "talks", "(IIII)Z"⟩
theorem d_Th_talks_0 : decode b_Th_talks 0 = .ok (.iload_n 1, 1) := by decide +kernel
theorem d_Th_talks_1 : decode b_Th_talks 1 = .ok (.iload_n 2, 1) := by decide +kernel
theorem d_Th_talks_2 : decode b_Th_talks 2 = .ok (.iconst 2, 1) := by decide +kernel
theorem d_Th_talks_3 : decode b_Th_talks 3 = .ok (.iload_n 3, 1) := by decide +kernel
theorem d_Th_talks_4 : decode b_Th_talks 4 = .ok (.imul, 1) := by decide +kernel
theorem d_Th_talks_5 : decode b_Th_talks 5 = .ok (.iadd, 1) := by decide +kernel
theorem d_Th_talks_6 : decode b_Th_talks 6 = .ok (.if_icmp .le 7, 3) := by decide +kernel
theorem d_Th_talks_9 : decode b_Th_talks 9 = .ok (.iconst 1, 1) := by decide +kernel
theorem d_Th_talks_10 : decode b_Th_talks 10 = .ok (.goto 4, 3) := by decide +kernel
theorem d_Th_talks_13 : decode b_Th_talks 13 = .ok (.iconst 0, 1) := by decide +kernel
theorem d_Th_talks_14 : decode b_Th_talks 14 = .ok (.ireturn, 1) := by decide +kernel
theorem mo_Th_talks : mok y_Th_talks b_Th_talks 5 (some .boolean) 4 := ⟨List.mem_of_getElem? (i := 606) (by decide +kernel), ⟨by decide +kernel, by decide +kernel, by decide +kernel⟩, List.mem_of_getElem? (i := 77) (by decide +kernel), by decide⟩
set_option maxHeartbeats 4000000 in
theorem c_Th_talks (l : Launch) (u : Un) (hA : Ap u) (σ : St) (k0 : Nat) (C : String) (hrc : recv k0 C) (b f c o : Int32) : MTi l u y_Th_talks b_Th_talks 5 .boolean 0 [.ref (u.2.1 k0), .int b, .int f, .int c, .int o] σ (fun ans σ' => bI (talkB 0 b f c o = true) = ans ∧ σ = σ') := by
  refine MT_of hA rfl (by decide) (Nat.le_of_ble_eq_true rfl) (fun X hl F hr => ?_)
  subst hl
  refine v_to (ls' := [(0, .ref (u.2.1 k0)), (1, .int b), (2, .int f), (3, .int c), (4, .int o)]) rfl ?_
  refine v_iload_n F d_Th_talks_0 rfl 1 rfl ?_
  refine v_iload_n F d_Th_talks_1 rfl 2 rfl ?_
  refine v_iconst (v := 2) F d_Th_talks_2 ki_2 ?_
  refine v_iload_n F d_Th_talks_3 rfl 3 rfl ?_
  refine v_imul F d_Th_talks_4 ?_
  refine v_iadd F d_Th_talks_5 ?_
  refine v_icmp_le F 13 d_Th_talks_6 rfl (fun h6 => ?_) (fun h6 => ?_)
  · skip
    refine v_iconst (v := 0) F d_Th_talks_13 ki_0 ?_
    refine v_iret F hr rfl d_Th_talks_14 ?_
    exact ⟨(bI_f (by first | (simp_all [talkB]; done) | grind [talkB])), rfl⟩
  · skip
    refine v_iconst (v := 1) F d_Th_talks_9 ki_1 ?_
    refine v_goto F 14 d_Th_talks_10 rfl ?_
    refine v_iret F hr rfl d_Th_talks_14 ?_
    exact ⟨(bI_t (by first | (simp_all [talkB]; done) | grind [talkB])), rfl⟩
abbrev b_Re_talks : ByteArray := prog_10_method_4_code
abbrev y_Re_talks : MethodName := ⟨"TakerBook$Returned", "talks", "(IIII)Z"⟩
theorem d_Re_talks_0 : decode b_Re_talks 0 = .ok (.iconst 0, 1) := by decide +kernel
theorem d_Re_talks_1 : decode b_Re_talks 1 = .ok (.ireturn, 1) := by decide +kernel
theorem mo_Re_talks : mok y_Re_talks b_Re_talks 5 (some .boolean) 4 := ⟨List.mem_of_getElem? (i := 601) (by decide +kernel), ⟨by decide +kernel, by decide +kernel, by decide +kernel⟩, List.mem_of_getElem? (i := 78) (by decide +kernel), by decide⟩
set_option maxHeartbeats 4000000 in
theorem c_Re_talks (l : Launch) (u : Un) (hA : Ap u) (σ : St) (k0 : Nat) (C : String) (hrc : recv k0 C) (b f c o : Int32) : MTi l u y_Re_talks b_Re_talks 5 .boolean 0 [.ref (u.2.1 k0), .int b, .int f, .int c, .int o] σ (fun ans σ' => bI (talkB 1 b f c o = true) = ans ∧ σ = σ') := by
  refine MT_of hA rfl (by decide) (Nat.le_of_ble_eq_true rfl) (fun X hl F hr => ?_)
  subst hl
  refine v_to (ls' := [(0, .ref (u.2.1 k0)), (1, .int b), (2, .int f), (3, .int c), (4, .int o)]) rfl ?_
  refine v_iconst (v := 0) F d_Re_talks_0 ki_0 ?_
  refine v_iret F hr rfl d_Re_talks_1 ?_
  exact ⟨(bI_f (by first | (simp_all [talkB]; done) | grind [talkB])), rfl⟩
abbrev b_Cl_talks : ByteArray := prog_3_method_4_code
abbrev y_Cl_talks : MethodName := ⟨"TakerBook$Clerk", "talks", "(IIII)Z"⟩
theorem d_Cl_talks_0 : decode b_Cl_talks 0 = .ok (.iload_n 3, 1) := by decide +kernel
theorem d_Cl_talks_1 : decode b_Cl_talks 1 = .ok (.ifCond .ne 19, 3) := by decide +kernel
theorem d_Cl_talks_4 : decode b_Cl_talks 4 = .ok (.aload_n 0, 1) := by decide +kernel
theorem d_Cl_talks_5 : decode b_Cl_talks 5 = .ok (.iload_n 1, 1) := by decide +kernel
theorem d_Cl_talks_6 : decode b_Cl_talks 6 = .ok (.iload_n 2, 1) := by decide +kernel
theorem d_Cl_talks_7 : decode b_Cl_talks 7 = .ok (.iload_n 3, 1) := by decide +kernel
theorem d_Cl_talks_8 : decode b_Cl_talks 8 = .ok (.iload 4, 2) := by decide +kernel
theorem d_Cl_talks_10 : decode b_Cl_talks 10 = .ok (.invokespecial 13, 3) := by decide +kernel
theorem d_Cl_talks_13 : decode b_Cl_talks 13 = .ok (.ifCond .eq 7, 3) := by decide +kernel
theorem d_Cl_talks_16 : decode b_Cl_talks 16 = .ok (.iconst 1, 1) := by decide +kernel
theorem d_Cl_talks_17 : decode b_Cl_talks 17 = .ok (.goto 4, 3) := by decide +kernel
theorem d_Cl_talks_20 : decode b_Cl_talks 20 = .ok (.iconst 0, 1) := by decide +kernel
theorem d_Cl_talks_21 : decode b_Cl_talks 21 = .ok (.ireturn, 1) := by decide +kernel
theorem mo_Cl_talks : mok y_Cl_talks b_Cl_talks 5 (some .boolean) 4 := ⟨List.mem_of_getElem? (i := 590) (by decide +kernel), ⟨by decide +kernel, by decide +kernel, by decide +kernel⟩, List.mem_of_getElem? (i := 79) (by decide +kernel), by decide⟩
set_option maxHeartbeats 4000000 in
theorem c_Cl_talks (l : Launch) (u : Un) (hA : Ap u) (σ : St) (k0 : Nat) (C : String) (hrc : recv k0 C) (b f c o : Int32) : MTi l u y_Cl_talks b_Cl_talks 5 .boolean 1 [.ref (u.2.1 k0), .int b, .int f, .int c, .int o] σ (fun ans σ' => bI (talkB 2 b f c o = true) = ans ∧ σ = σ') := by
  refine MT_of hA rfl (by decide) (Nat.le_of_ble_eq_true rfl) (fun X hl F hr => ?_)
  subst hl
  refine v_to (ls' := [(0, .ref (u.2.1 k0)), (1, .int b), (2, .int f), (3, .int c), (4, .int o)]) rfl ?_
  refine v_iload_n F d_Cl_talks_0 rfl 3 rfl ?_
  refine v_if_ne F 20 d_Cl_talks_1 rfl (fun h1 => ?_) (fun h1 => ?_)
  · skip
    refine v_iconst (v := 0) F d_Cl_talks_20 ki_0 ?_
    refine v_iret F hr rfl d_Cl_talks_21 ?_
    exact ⟨(bI_f (by first | (simp_all [talkB]; done) | grind [talkB])), rfl⟩
  · skip
    refine v_aload_n F d_Cl_talks_4 rfl 0 rfl ?_
    refine v_iload_n F d_Cl_talks_5 rfl 1 rfl ?_
    refine v_iload_n F d_Cl_talks_6 rfl 2 rfl ?_
    refine v_iload_n F d_Cl_talks_7 rfl 3 rfl ?_
    refine v_iload F d_Cl_talks_8 4 rfl ?_
    refine v_runi (r_SU F (C := C) (c_Th_talks X.2.1 u hA σ k0 C hrc b f c o) mo_Th_talks st_Cl_13 hrc (by decide) rfl (Nat.le_of_ble_eq_true rfl) d_Cl_talks_10) (fun r1 σ2 q3 => ?_)
    obtain ⟨rfl, rfl⟩ := q3
    refine v_bt F 20 d_Cl_talks_13 rfl (fun h13 => ?_) (fun h13 => ?_)
    · skip
      refine v_iconst (v := 0) F d_Cl_talks_20 ki_0 ?_
      refine v_iret F hr rfl d_Cl_talks_21 ?_
      exact ⟨(bI_f (by first | (simp_all [talkB]; done) | grind [talkB])), rfl⟩
    · skip
      refine v_iconst (v := 1) F d_Cl_talks_16 ki_1 ?_
      refine v_goto F 21 d_Cl_talks_17 rfl ?_
      refine v_iret F hr rfl d_Cl_talks_21 ?_
      exact ⟨(bI_t (by first | (simp_all [talkB]; done) | grind [talkB])), rfl⟩
abbrev b_Ga_talks : ByteArray := prog_5_method_4_code
abbrev y_Ga_talks : MethodName := ⟨"TakerBook$Gang", "talks", "(IIII)Z"⟩
theorem d_Ga_talks_0 : decode b_Ga_talks 0 = .ok (.iload 4, 2) := by decide +kernel
theorem d_Ga_talks_2 : decode b_Ga_talks 2 = .ok (.iconst 1, 1) := by decide +kernel
theorem d_Ga_talks_3 : decode b_Ga_talks 3 = .ok (.if_icmp .gt 19, 3) := by decide +kernel
theorem d_Ga_talks_6 : decode b_Ga_talks 6 = .ok (.aload_n 0, 1) := by decide +kernel
theorem d_Ga_talks_7 : decode b_Ga_talks 7 = .ok (.iload_n 1, 1) := by decide +kernel
theorem d_Ga_talks_8 : decode b_Ga_talks 8 = .ok (.iload_n 2, 1) := by decide +kernel
theorem d_Ga_talks_9 : decode b_Ga_talks 9 = .ok (.iload_n 3, 1) := by decide +kernel
theorem d_Ga_talks_10 : decode b_Ga_talks 10 = .ok (.iload 4, 2) := by decide +kernel
theorem d_Ga_talks_12 : decode b_Ga_talks 12 = .ok (.invokespecial 13, 3) := by decide +kernel
theorem d_Ga_talks_15 : decode b_Ga_talks 15 = .ok (.ifCond .eq 7, 3) := by decide +kernel
theorem d_Ga_talks_18 : decode b_Ga_talks 18 = .ok (.iconst 1, 1) := by decide +kernel
theorem d_Ga_talks_19 : decode b_Ga_talks 19 = .ok (.goto 4, 3) := by decide +kernel
theorem d_Ga_talks_22 : decode b_Ga_talks 22 = .ok (.iconst 0, 1) := by decide +kernel
theorem d_Ga_talks_23 : decode b_Ga_talks 23 = .ok (.ireturn, 1) := by decide +kernel
theorem mo_Ga_talks : mok y_Ga_talks b_Ga_talks 5 (some .boolean) 4 := ⟨List.mem_of_getElem? (i := 594) (by decide +kernel), ⟨by decide +kernel, by decide +kernel, by decide +kernel⟩, List.mem_of_getElem? (i := 80) (by decide +kernel), by decide⟩
set_option maxHeartbeats 4000000 in
theorem c_Ga_talks (l : Launch) (u : Un) (hA : Ap u) (σ : St) (k0 : Nat) (C : String) (hrc : recv k0 C) (b f c o : Int32) : MTi l u y_Ga_talks b_Ga_talks 5 .boolean 1 [.ref (u.2.1 k0), .int b, .int f, .int c, .int o] σ (fun ans σ' => bI (talkB 3 b f c o = true) = ans ∧ σ = σ') := by
  refine MT_of hA rfl (by decide) (Nat.le_of_ble_eq_true rfl) (fun X hl F hr => ?_)
  subst hl
  refine v_to (ls' := [(0, .ref (u.2.1 k0)), (1, .int b), (2, .int f), (3, .int c), (4, .int o)]) rfl ?_
  refine v_iload F d_Ga_talks_0 4 rfl ?_
  refine v_iconst (v := 1) F d_Ga_talks_2 ki_1 ?_
  refine v_icmp_gt F 22 d_Ga_talks_3 rfl (fun h3 => ?_) (fun h3 => ?_)
  · skip
    refine v_iconst (v := 0) F d_Ga_talks_22 ki_0 ?_
    refine v_iret F hr rfl d_Ga_talks_23 ?_
    exact ⟨(bI_f (by first | (simp_all [talkB]; done) | grind [talkB])), rfl⟩
  · skip
    refine v_aload_n F d_Ga_talks_6 rfl 0 rfl ?_
    refine v_iload_n F d_Ga_talks_7 rfl 1 rfl ?_
    refine v_iload_n F d_Ga_talks_8 rfl 2 rfl ?_
    refine v_iload_n F d_Ga_talks_9 rfl 3 rfl ?_
    refine v_iload F d_Ga_talks_10 4 rfl ?_
    refine v_runi (r_SU F (C := C) (c_Th_talks X.2.1 u hA σ k0 C hrc b f c o) mo_Th_talks st_Ga_13 hrc (by decide) rfl (Nat.le_of_ble_eq_true rfl) d_Ga_talks_12) (fun r1 σ2 q3 => ?_)
    obtain ⟨rfl, rfl⟩ := q3
    refine v_bt F 22 d_Ga_talks_15 rfl (fun h15 => ?_) (fun h15 => ?_)
    · skip
      refine v_iconst (v := 0) F d_Ga_talks_22 ki_0 ?_
      refine v_iret F hr rfl d_Ga_talks_23 ?_
      exact ⟨(bI_f (by first | (simp_all [talkB]; done) | grind [talkB])), rfl⟩
    · skip
      refine v_iconst (v := 1) F d_Ga_talks_18 ki_1 ?_
      refine v_goto F 23 d_Ga_talks_19 rfl ?_
      refine v_iret F hr rfl d_Ga_talks_23 ?_
      exact ⟨(bI_t (by first | (simp_all [talkB]; done) | grind [talkB])), rfl⟩
abbrev b_La_talks : ByteArray := prog_6_method_3_code
abbrev y_La_talks : MethodName := ⟨"TakerBook$Lace", "talks", "(IIII)Z"⟩
theorem d_La_talks_0 : decode b_La_talks 0 = .ok (.iload_n 3, 1) := by decide +kernel
theorem d_La_talks_1 : decode b_La_talks 1 = .ok (.iconst 2, 1) := by decide +kernel
theorem d_La_talks_2 : decode b_La_talks 2 = .ok (.if_icmp .ne 7, 3) := by decide +kernel
theorem d_La_talks_5 : decode b_La_talks 5 = .ok (.iconst 1, 1) := by decide +kernel
theorem d_La_talks_6 : decode b_La_talks 6 = .ok (.goto 4, 3) := by decide +kernel
theorem d_La_talks_9 : decode b_La_talks 9 = .ok (.iconst 0, 1) := by decide +kernel
theorem d_La_talks_10 : decode b_La_talks 10 = .ok (.ireturn, 1) := by decide +kernel
theorem mo_La_talks : mok y_La_talks b_La_talks 5 (some .boolean) 4 := ⟨List.mem_of_getElem? (i := 598) (by decide +kernel), ⟨by decide +kernel, by decide +kernel, by decide +kernel⟩, List.mem_of_getElem? (i := 81) (by decide +kernel), by decide⟩
set_option maxHeartbeats 4000000 in
theorem c_La_talks (l : Launch) (u : Un) (hA : Ap u) (σ : St) (k0 : Nat) (C : String) (hrc : recv k0 C) (b f c o : Int32) : MTi l u y_La_talks b_La_talks 5 .boolean 0 [.ref (u.2.1 k0), .int b, .int f, .int c, .int o] σ (fun ans σ' => bI (talkB 4 b f c o = true) = ans ∧ σ = σ') := by
  refine MT_of hA rfl (by decide) (Nat.le_of_ble_eq_true rfl) (fun X hl F hr => ?_)
  subst hl
  refine v_to (ls' := [(0, .ref (u.2.1 k0)), (1, .int b), (2, .int f), (3, .int c), (4, .int o)]) rfl ?_
  refine v_iload_n F d_La_talks_0 rfl 3 rfl ?_
  refine v_iconst (v := 2) F d_La_talks_1 ki_2 ?_
  refine v_icmp_ne F 9 d_La_talks_2 rfl (fun h2 => ?_) (fun h2 => ?_)
  · skip
    refine v_iconst (v := 0) F d_La_talks_9 ki_0 ?_
    refine v_iret F hr rfl d_La_talks_10 ?_
    exact ⟨(bI_f (by first | (simp_all [talkB]; done) | grind [talkB])), rfl⟩
  · skip
    refine v_iconst (v := 1) F d_La_talks_5 ki_1 ?_
    refine v_goto F 10 d_La_talks_6 rfl ?_
    refine v_iret F hr rfl d_La_talks_10 ?_
    exact ⟨(bI_t (by first | (simp_all [talkB]; done) | grind [talkB])), rfl⟩
abbrev b_Yo_talks : ByteArray := prog_12_method_4_code
abbrev y_Yo_talks : MethodName := ⟨"TakerBook$Young", "talks", "(IIII)Z"⟩
theorem d_Yo_talks_0 : decode b_Yo_talks 0 = .ok (.aload_n 0, 1) := by decide +kernel
theorem d_Yo_talks_1 : decode b_Yo_talks 1 = .ok (.iload_n 1, 1) := by decide +kernel
theorem d_Yo_talks_2 : decode b_Yo_talks 2 = .ok (.iconst 2, 1) := by decide +kernel
theorem d_Yo_talks_3 : decode b_Yo_talks 3 = .ok (.iadd, 1) := by decide +kernel
theorem d_Yo_talks_4 : decode b_Yo_talks 4 = .ok (.iload_n 2, 1) := by decide +kernel
theorem d_Yo_talks_5 : decode b_Yo_talks 5 = .ok (.iload_n 3, 1) := by decide +kernel
theorem d_Yo_talks_6 : decode b_Yo_talks 6 = .ok (.iload 4, 2) := by decide +kernel
theorem d_Yo_talks_8 : decode b_Yo_talks 8 = .ok (.invokespecial 19, 3) := by decide +kernel
theorem d_Yo_talks_11 : decode b_Yo_talks 11 = .ok (.ireturn, 1) := by decide +kernel
theorem mo_Yo_talks : mok y_Yo_talks b_Yo_talks 5 (some .boolean) 4 := ⟨List.mem_of_getElem? (i := 604) (by decide +kernel), ⟨by decide +kernel, by decide +kernel, by decide +kernel⟩, List.mem_of_getElem? (i := 82) (by decide +kernel), by decide⟩
set_option maxHeartbeats 4000000 in
theorem c_Yo_talks (l : Launch) (u : Un) (hA : Ap u) (σ : St) (k0 : Nat) (C : String) (hrc : recv k0 C) (b f c o : Int32) : MTi l u y_Yo_talks b_Yo_talks 5 .boolean 2 [.ref (u.2.1 k0), .int b, .int f, .int c, .int o] σ (fun ans σ' => bI (talkB 5 b f c o = true) = ans ∧ σ = σ') := by
  refine MT_of hA rfl (by decide) (Nat.le_of_ble_eq_true rfl) (fun X hl F hr => ?_)
  subst hl
  refine v_to (ls' := [(0, .ref (u.2.1 k0)), (1, .int b), (2, .int f), (3, .int c), (4, .int o)]) rfl ?_
  refine v_aload_n F d_Yo_talks_0 rfl 0 rfl ?_
  refine v_iload_n F d_Yo_talks_1 rfl 1 rfl ?_
  refine v_iconst (v := 2) F d_Yo_talks_2 ki_2 ?_
  refine v_iadd F d_Yo_talks_3 ?_
  refine v_iload_n F d_Yo_talks_4 rfl 2 rfl ?_
  refine v_iload_n F d_Yo_talks_5 rfl 3 rfl ?_
  refine v_iload F d_Yo_talks_6 4 rfl ?_
  refine v_runi (r_SU F (C := C) (c_Ga_talks X.2.1 u hA σ k0 C hrc (b + 2) f c o) mo_Ga_talks st_Yo_19 hrc (by decide) rfl (Nat.le_of_ble_eq_true rfl) d_Yo_talks_8) (fun r1 σ2 q3 => ?_)
  obtain ⟨rfl, rfl⟩ := q3
  refine v_iret F hr bI_nar d_Yo_talks_11 ?_
  exact ⟨by first | rfl | (simp_all [talkB]; done) | grind [talkB], rfl⟩
abbrev b_Th_price : ByteArray := prog_11_method_5_code
abbrev y_Th_price : MethodName := ⟨"TakerBook$Thief", "price", "(II)I"⟩
theorem d_Th_price_0 : decode b_Th_price 0 = .ok (.iload_n 1, 1) := by decide +kernel
theorem d_Th_price_1 : decode b_Th_price 1 = .ok (.iload_n 2, 1) := by decide +kernel
theorem d_Th_price_2 : decode b_Th_price 2 = .ok (.iadd, 1) := by decide +kernel
theorem d_Th_price_3 : decode b_Th_price 3 = .ok (.ireturn, 1) := by decide +kernel
theorem mo_Th_price : mok y_Th_price b_Th_price 3 (some .int) 2 := ⟨List.mem_of_getElem? (i := 634) (by decide +kernel), ⟨by decide +kernel, by decide +kernel, by decide +kernel⟩, List.mem_of_getElem? (i := 77) (by decide +kernel), by decide⟩
set_option maxHeartbeats 4000000 in
theorem c_Th_price (l : Launch) (u : Un) (hA : Ap u) (σ : St) (k0 : Nat) (C : String) (hrc : recv k0 C) (a b : Int32) : MTi l u y_Th_price b_Th_price 3 .int 0 [.ref (u.2.1 k0), .int a, .int b] σ (fun ans σ' => priceS 0 a b = ans ∧ σ = σ') := by
  refine MT_of hA rfl (by decide) (Nat.le_of_ble_eq_true rfl) (fun X hl F hr => ?_)
  subst hl
  refine v_to (ls' := [(0, .ref (u.2.1 k0)), (1, .int a), (2, .int b)]) rfl ?_
  refine v_iload_n F d_Th_price_0 rfl 1 rfl ?_
  refine v_iload_n F d_Th_price_1 rfl 2 rfl ?_
  refine v_iadd F d_Th_price_2 ?_
  refine v_iret F hr rfl d_Th_price_3 ?_
  exact ⟨rfl, rfl⟩
abbrev b_Cl_price : ByteArray := prog_3_method_5_code
abbrev y_Cl_price : MethodName := ⟨"TakerBook$Clerk", "price", "(II)I"⟩
theorem d_Cl_price_0 : decode b_Cl_price 0 = .ok (.aload_n 0, 1) := by decide +kernel
theorem d_Cl_price_1 : decode b_Cl_price 1 = .ok (.iload_n 1, 1) := by decide +kernel
theorem d_Cl_price_2 : decode b_Cl_price 2 = .ok (.iload_n 2, 1) := by decide +kernel
theorem d_Cl_price_3 : decode b_Cl_price 3 = .ok (.invokespecial 17, 3) := by decide +kernel
theorem d_Cl_price_6 : decode b_Cl_price 6 = .ok (.iconst 2, 1) := by decide +kernel
theorem d_Cl_price_7 : decode b_Cl_price 7 = .ok (.idiv, 1) := by decide +kernel
theorem d_Cl_price_8 : decode b_Cl_price 8 = .ok (.ireturn, 1) := by decide +kernel
theorem mo_Cl_price : mok y_Cl_price b_Cl_price 3 (some .int) 2 := ⟨List.mem_of_getElem? (i := 620) (by decide +kernel), ⟨by decide +kernel, by decide +kernel, by decide +kernel⟩, List.mem_of_getElem? (i := 79) (by decide +kernel), by decide⟩
set_option maxHeartbeats 4000000 in
theorem c_Cl_price (l : Launch) (u : Un) (hA : Ap u) (σ : St) (k0 : Nat) (C : String) (hrc : recv k0 C) (a b : Int32) : MTi l u y_Cl_price b_Cl_price 3 .int 1 [.ref (u.2.1 k0), .int a, .int b] σ (fun ans σ' => priceS 2 a b = ans ∧ σ = σ') := by
  refine MT_of hA rfl (by decide) (Nat.le_of_ble_eq_true rfl) (fun X hl F hr => ?_)
  subst hl
  refine v_to (ls' := [(0, .ref (u.2.1 k0)), (1, .int a), (2, .int b)]) rfl ?_
  refine v_aload_n F d_Cl_price_0 rfl 0 rfl ?_
  refine v_iload_n F d_Cl_price_1 rfl 1 rfl ?_
  refine v_iload_n F d_Cl_price_2 rfl 2 rfl ?_
  refine v_runi (r_SU F (C := C) (c_Th_price X.2.1 u hA σ k0 C hrc a b) mo_Th_price st_Cl_17 hrc (by decide) rfl (Nat.le_of_ble_eq_true rfl) d_Cl_price_3) (fun r1 σ2 q3 => ?_)
  obtain ⟨rfl, rfl⟩ := q3
  refine v_iconst (v := 2) F d_Cl_price_6 ki_2 ?_
  refine v_idiv F d_Cl_price_7 (by decide) ?_
  refine v_iret F hr rfl d_Cl_price_8 ?_
  exact ⟨rfl, rfl⟩
abbrev b_Yo_price : ByteArray := prog_12_method_5_code
abbrev y_Yo_price : MethodName := ⟨"TakerBook$Young", "price", "(II)I"⟩
theorem d_Yo_price_0 : decode b_Yo_price 0 = .ok (.iconst 0, 1) := by decide +kernel
theorem d_Yo_price_1 : decode b_Yo_price 1 = .ok (.aload_n 0, 1) := by decide +kernel
theorem d_Yo_price_2 : decode b_Yo_price 2 = .ok (.iload_n 1, 1) := by decide +kernel
theorem d_Yo_price_3 : decode b_Yo_price 3 = .ok (.iload_n 2, 1) := by decide +kernel
theorem d_Yo_price_4 : decode b_Yo_price 4 = .ok (.invokespecial 23, 3) := by decide +kernel
theorem d_Yo_price_7 : decode b_Yo_price 7 = .ok (.iconst 1, 1) := by decide +kernel
theorem d_Yo_price_8 : decode b_Yo_price 8 = .ok (.isub, 1) := by decide +kernel
theorem d_Yo_price_9 : decode b_Yo_price 9 = .ok (.invokestatic 26, 3) := by decide +kernel
theorem d_Yo_price_12 : decode b_Yo_price 12 = .ok (.ireturn, 1) := by decide +kernel
theorem mo_Yo_price : mok y_Yo_price b_Yo_price 3 (some .int) 2 := ⟨List.mem_of_getElem? (i := 627) (by decide +kernel), ⟨by decide +kernel, by decide +kernel, by decide +kernel⟩, List.mem_of_getElem? (i := 82) (by decide +kernel), by decide⟩
set_option maxHeartbeats 4000000 in
theorem c_Yo_price (l : Launch) (u : Un) (hA : Ap u) (σ : St) (k0 : Nat) (C : String) (hrc : recv k0 C) (a b : Int32): MTi l u y_Yo_price b_Yo_price 3 .int 2 [.ref (u.2.1 k0), .int a, .int b] σ (fun ans σ' => priceS 5 a b = ans ∧ σ = σ') := by
  refine MT_of hA rfl (by decide) (Nat.le_of_ble_eq_true rfl) (fun X hl F hr => ?_)
  subst hl
  refine v_to (ls' := [(0, .ref (u.2.1 k0)), (1, .int a), (2, .int b)]) rfl ?_
  refine v_iconst (v := 0) F d_Yo_price_0 ki_0 ?_
  refine v_aload_n F d_Yo_price_1 rfl 0 rfl ?_
  refine v_iload_n F d_Yo_price_2 rfl 1 rfl ?_
  refine v_iload_n F d_Yo_price_3 rfl 2 rfl ?_
  refine v_runi (r_SU2 F (x := ⟨"TakerBook$Gang", "price", "(II)I"⟩) (C := C) (c_Th_price X.2.1 u hA σ k0 C hrc a b) mo_Th_price (List.mem_of_getElem? (i := 628) (by decide +kernel)) (List.mem_of_getElem? (i := 629) (by decide +kernel)) (List.mem_of_getElem? (i := 178) (by decide +kernel)) (List.mem_of_getElem? (i := 164) (by decide +kernel)) (List.mem_of_getElem? (i := 615) (by decide +kernel)) rfl (by decide) hrc (by decide) rfl (Nat.le_of_ble_eq_true rfl) d_Yo_price_4) (fun r σ' h => ?_)
  obtain ⟨rfl, rfl⟩ := h
  refine v_iconst (v := 1) F d_Yo_price_7 ki_1 ?_
  refine v_isub F d_Yo_price_8 ?_
  refine v_mmax F (List.mem_of_getElem? (i := 631) (by decide +kernel)) (Nat.le_of_ble_eq_true rfl) (by decide) d_Yo_price_9 ?_
  refine v_iret F hr rfl d_Yo_price_12 ?_
  exact ⟨rfl, rfl⟩
theorem vs_T_134 {X : FX} {u : Un} (hA : Ap u) {cc : ByteArray} {d nL : Nat} {Q : State → Prop} {pc : Nat} {ls : List (Nat × Value)} {st : List Value} {σ : St} (F : Fr X u "TakerBook" cc nL) {k : Nat} (hk : k < 6) {w : Int32} (hd : 4 ≤ d) (hw : (st.map fun v => v.category).sum ≤ 8) (hdg : decode cc pc = .ok (.invokevirtual 134, 3)) (kk : V X u d nL Q (pc + 3) ls (.int (bI (ofB k w = true)) :: st) σ) : V X u d nL Q pc ls (.int w :: .ref (u.2.1 (21 + k)) :: st) σ := by
  rcases k with _ | _ | _ | _ | _ | _ | k
  · exact v_runi (r_U F (x := ⟨"TakerBook$Thief", "isOf", "(I)Z"⟩) (C := "TakerBook$Thief") (c_Th_isOf X.2.1 u hA σ 21 "TakerBook$Thief" rc_21 w) mo_Th_isOf st_T_134_Th ⟨by decide, by decide⟩ rc_21 (by omega) rfl hw hdg) (fun r σ' h => by obtain ⟨e, rfl⟩ := h; rw [← e]; exact kk)
  · exact v_runi (r_U F (x := ⟨"TakerBook$Thief", "isOf", "(I)Z"⟩) (C := "TakerBook$Returned") (c_Re_isOf X.2.1 u hA σ 22 "TakerBook$Returned" rc_22 w) mo_Re_isOf st_T_134_Re ⟨by decide, by decide⟩ rc_22 (by omega) rfl hw hdg) (fun r σ' h => by obtain ⟨e, rfl⟩ := h; rw [← e]; exact kk)
  · exact v_runi (r_U F (x := ⟨"TakerBook$Thief", "isOf", "(I)Z"⟩) (C := "TakerBook$Clerk") (c_Cl_isOf X.2.1 u hA σ 23 "TakerBook$Clerk" rc_23 w) mo_Cl_isOf st_T_134_Cl ⟨by decide, by decide⟩ rc_23 (by omega) rfl hw hdg) (fun r σ' h => by obtain ⟨e, rfl⟩ := h; rw [← e]; exact kk)
  · exact v_runi (r_U F (x := ⟨"TakerBook$Thief", "isOf", "(I)Z"⟩) (C := "TakerBook$Gang") (c_Ga_isOf X.2.1 u hA σ 24 "TakerBook$Gang" rc_24 w) mo_Ga_isOf st_T_134_Ga ⟨by decide, by decide⟩ rc_24 (by omega) rfl hw hdg) (fun r σ' h => by obtain ⟨e, rfl⟩ := h; rw [← e]; exact kk)
  · exact v_runi (r_U F (x := ⟨"TakerBook$Thief", "isOf", "(I)Z"⟩) (C := "TakerBook$Lace") (c_La_isOf X.2.1 u hA σ 25 "TakerBook$Lace" rc_25 w) mo_La_isOf st_T_134_La ⟨by decide, by decide⟩ rc_25 (by omega) rfl hw hdg) (fun r σ' h => by obtain ⟨e, rfl⟩ := h; rw [← e]; exact kk)
  · exact v_runi (r_U F (x := ⟨"TakerBook$Thief", "isOf", "(I)Z"⟩) (C := "TakerBook$Young") (c_Yo_isOf X.2.1 u hA σ 26 "TakerBook$Young" rc_26 w) mo_Yo_isOf st_T_134_Yo ⟨by decide, by decide⟩ rc_26 (by omega) rfl hw hdg) (fun r σ' h => by obtain ⟨e, rfl⟩ := h; rw [← e]; exact kk)
  · exfalso
    omega
theorem vs_T_366 {X : FX} {u : Un} (hA : Ap u) {cc : ByteArray} {d nL : Nat} {Q : State → Prop} {pc : Nat} {ls : List (Nat × Value)} {st : List Value} {σ : St} (F : Fr X u "TakerBook" cc nL) {k : Nat} (hk : k < 6) {b f c o : Int32} (hd : 4 ≤ d) (hw : (st.map fun v => v.category).sum ≤ 8) (hdg : decode cc pc = .ok (.invokevirtual 366, 3)) (kk : V X u d nL Q (pc + 3) ls (.int (bI (talkB k b f c o = true)) :: st) σ) : V X u d nL Q pc ls (.int o :: .int c :: .int f :: .int b :: .ref (u.2.1 (21 + k)) :: st) σ := by
  rcases k with _ | _ | _ | _ | _ | _ | k
  · exact v_runi (r_U F (x := ⟨"TakerBook$Thief", "talks", "(IIII)Z"⟩) (C := "TakerBook$Thief") (c_Th_talks X.2.1 u hA σ 21 "TakerBook$Thief" rc_21 b f c o) mo_Th_talks st_T_366_Th ⟨by decide, by decide⟩ rc_21 (by omega) rfl hw hdg) (fun r σ' h => by obtain ⟨e, rfl⟩ := h; rw [← e]; exact kk)
  · exact v_runi (r_U F (x := ⟨"TakerBook$Thief", "talks", "(IIII)Z"⟩) (C := "TakerBook$Returned") (c_Re_talks X.2.1 u hA σ 22 "TakerBook$Returned" rc_22 b f c o) mo_Re_talks st_T_366_Re ⟨by decide, by decide⟩ rc_22 (by omega) rfl hw hdg) (fun r σ' h => by obtain ⟨e, rfl⟩ := h; rw [← e]; exact kk)
  · exact v_runi (r_U F (x := ⟨"TakerBook$Thief", "talks", "(IIII)Z"⟩) (C := "TakerBook$Clerk") (c_Cl_talks X.2.1 u hA σ 23 "TakerBook$Clerk" rc_23 b f c o) mo_Cl_talks st_T_366_Cl ⟨by decide, by decide⟩ rc_23 (by omega) rfl hw hdg) (fun r σ' h => by obtain ⟨e, rfl⟩ := h; rw [← e]; exact kk)
  · exact v_runi (r_U F (x := ⟨"TakerBook$Thief", "talks", "(IIII)Z"⟩) (C := "TakerBook$Gang") (c_Ga_talks X.2.1 u hA σ 24 "TakerBook$Gang" rc_24 b f c o) mo_Ga_talks st_T_366_Ga ⟨by decide, by decide⟩ rc_24 (by omega) rfl hw hdg) (fun r σ' h => by obtain ⟨e, rfl⟩ := h; rw [← e]; exact kk)
  · exact v_runi (r_U F (x := ⟨"TakerBook$Thief", "talks", "(IIII)Z"⟩) (C := "TakerBook$Lace") (c_La_talks X.2.1 u hA σ 25 "TakerBook$Lace" rc_25 b f c o) mo_La_talks st_T_366_La ⟨by decide, by decide⟩ rc_25 (by omega) rfl hw hdg) (fun r σ' h => by obtain ⟨e, rfl⟩ := h; rw [← e]; exact kk)
  · exact v_runi (r_U F (x := ⟨"TakerBook$Thief", "talks", "(IIII)Z"⟩) (C := "TakerBook$Young") (c_Yo_talks X.2.1 u hA σ 26 "TakerBook$Young" rc_26 b f c o) mo_Yo_talks st_T_366_Yo ⟨by decide, by decide⟩ rc_26 (by omega) rfl hw hdg) (fun r σ' h => by obtain ⟨e, rfl⟩ := h; rw [← e]; exact kk)
  · exfalso
    omega
theorem vs_B_88 {X : FX} {u : Un} (hA : Ap u) {cc : ByteArray} {d nL : Nat} {Q : State → Prop} {pc : Nat} {ls : List (Nat × Value)} {st : List Value} {σ : St} (F : Fr X u "TakerBook$Band" cc nL) {k : Nat} (hk : k < 6) {w : Int32} (hd : 4 ≤ d) (hw : (st.map fun v => v.category).sum ≤ 8) (hdg : decode cc pc = .ok (.invokevirtual 88, 3)) (kk : V X u d nL Q (pc + 3) ls (.int (bI (ofB k w = true)) :: st) σ) : V X u d nL Q pc ls (.int w :: .ref (u.2.1 (21 + k)) :: st) σ := by
  rcases k with _ | _ | _ | _ | _ | _ | k
  · exact v_runi (r_U F (x := ⟨"TakerBook$Thief", "isOf", "(I)Z"⟩) (C := "TakerBook$Thief") (c_Th_isOf X.2.1 u hA σ 21 "TakerBook$Thief" rc_21 w) mo_Th_isOf st_B_88_Th ⟨by decide, by decide⟩ rc_21 (by omega) rfl hw hdg) (fun r σ' h => by obtain ⟨e, rfl⟩ := h; rw [← e]; exact kk)
  · exact v_runi (r_U F (x := ⟨"TakerBook$Thief", "isOf", "(I)Z"⟩) (C := "TakerBook$Returned") (c_Re_isOf X.2.1 u hA σ 22 "TakerBook$Returned" rc_22 w) mo_Re_isOf st_B_88_Re ⟨by decide, by decide⟩ rc_22 (by omega) rfl hw hdg) (fun r σ' h => by obtain ⟨e, rfl⟩ := h; rw [← e]; exact kk)
  · exact v_runi (r_U F (x := ⟨"TakerBook$Thief", "isOf", "(I)Z"⟩) (C := "TakerBook$Clerk") (c_Cl_isOf X.2.1 u hA σ 23 "TakerBook$Clerk" rc_23 w) mo_Cl_isOf st_B_88_Cl ⟨by decide, by decide⟩ rc_23 (by omega) rfl hw hdg) (fun r σ' h => by obtain ⟨e, rfl⟩ := h; rw [← e]; exact kk)
  · exact v_runi (r_U F (x := ⟨"TakerBook$Thief", "isOf", "(I)Z"⟩) (C := "TakerBook$Gang") (c_Ga_isOf X.2.1 u hA σ 24 "TakerBook$Gang" rc_24 w) mo_Ga_isOf st_B_88_Ga ⟨by decide, by decide⟩ rc_24 (by omega) rfl hw hdg) (fun r σ' h => by obtain ⟨e, rfl⟩ := h; rw [← e]; exact kk)
  · exact v_runi (r_U F (x := ⟨"TakerBook$Thief", "isOf", "(I)Z"⟩) (C := "TakerBook$Lace") (c_La_isOf X.2.1 u hA σ 25 "TakerBook$Lace" rc_25 w) mo_La_isOf st_B_88_La ⟨by decide, by decide⟩ rc_25 (by omega) rfl hw hdg) (fun r σ' h => by obtain ⟨e, rfl⟩ := h; rw [← e]; exact kk)
  · exact v_runi (r_U F (x := ⟨"TakerBook$Thief", "isOf", "(I)Z"⟩) (C := "TakerBook$Young") (c_Yo_isOf X.2.1 u hA σ 26 "TakerBook$Young" rc_26 w) mo_Yo_isOf st_B_88_Yo ⟨by decide, by decide⟩ rc_26 (by omega) rfl hw hdg) (fun r σ' h => by obtain ⟨e, rfl⟩ := h; rw [← e]; exact kk)
  · exfalso
    omega
theorem vs_B_125 {X : FX} {u : Un} (hA : Ap u) {cc : ByteArray} {d nL : Nat} {Q : State → Prop} {pc : Nat} {ls : List (Nat × Value)} {st : List Value} {σ : St} (F : Fr X u "TakerBook$Band" cc nL) {k : Nat} (hk : k < 6) {a b : Int32} (hd : 4 ≤ d) (hw : (st.map fun v => v.category).sum ≤ 8) (hdg : decode cc pc = .ok (.invokevirtual 125, 3)) (kk : V X u d nL Q (pc + 3) ls (.int (lootS k a b) :: st) σ) : V X u d nL Q pc ls (.int b :: .int a :: .ref (u.2.1 (21 + k)) :: st) σ := by
  rcases k with _ | _ | _ | _ | _ | _ | k
  · exact v_runi (r_U F (x := ⟨"TakerBook$Thief", "loot", "(II)I"⟩) (C := "TakerBook$Thief") (c_Th_loot X.2.1 u hA σ 21 "TakerBook$Thief" rc_21 a b) mo_Th_loot st_B_125_Th ⟨by decide, by decide⟩ rc_21 (by omega) rfl hw hdg) (fun r σ' h => by obtain ⟨e, rfl⟩ := h; rw [← e]; exact kk)
  · exact v_runi (r_U F (x := ⟨"TakerBook$Thief", "loot", "(II)I"⟩) (C := "TakerBook$Returned") (c_Re_loot X.2.1 u hA σ 22 "TakerBook$Returned" rc_22 a b) mo_Re_loot st_B_125_Re ⟨by decide, by decide⟩ rc_22 (by omega) rfl hw hdg) (fun r σ' h => by obtain ⟨e, rfl⟩ := h; rw [← e]; exact kk)
  · exact v_runi (r_U F (x := ⟨"TakerBook$Thief", "loot", "(II)I"⟩) (C := "TakerBook$Clerk") (c_Cl_loot X.2.1 u hA σ 23 "TakerBook$Clerk" rc_23 a b) mo_Cl_loot st_B_125_Cl ⟨by decide, by decide⟩ rc_23 (by omega) rfl hw hdg) (fun r σ' h => by obtain ⟨e, rfl⟩ := h; rw [← e]; exact kk)
  · exact v_runi (r_U F (x := ⟨"TakerBook$Thief", "loot", "(II)I"⟩) (C := "TakerBook$Gang") (c_Ga_loot X.2.1 u hA σ 24 "TakerBook$Gang" rc_24 a b) mo_Ga_loot st_B_125_Ga ⟨by decide, by decide⟩ rc_24 (by omega) rfl hw hdg) (fun r σ' h => by obtain ⟨e, rfl⟩ := h; rw [← e]; exact kk)
  · exact v_runi (r_U F (x := ⟨"TakerBook$Thief", "loot", "(II)I"⟩) (C := "TakerBook$Lace") (c_Re_loot X.2.1 u hA σ 25 "TakerBook$Lace" rc_25 a b) mo_Re_loot st_B_125_La ⟨by decide, by decide⟩ rc_25 (by omega) rfl hw hdg) (fun r σ' h => by obtain ⟨e, rfl⟩ := h; rw [← e]; exact kk)
  · exact v_runi (r_U F (x := ⟨"TakerBook$Thief", "loot", "(II)I"⟩) (C := "TakerBook$Young") (c_Yo_loot X.2.1 u hA σ 26 "TakerBook$Young" rc_26 a b) mo_Yo_loot st_B_125_Yo ⟨by decide, by decide⟩ rc_26 (by omega) rfl hw hdg) (fun r σ' h => by obtain ⟨e, rfl⟩ := h; rw [← e]; exact kk)
  · exfalso
    omega
theorem vs_B_128 {X : FX} {u : Un} (hA : Ap u) {cc : ByteArray} {d nL : Nat} {Q : State → Prop} {pc : Nat} {ls : List (Nat × Value)} {st : List Value} {σ : St} (F : Fr X u "TakerBook$Band" cc nL) {k : Nat} (hk : k < 6) {a b : Int32} (hd : 4 ≤ d) (hw : (st.map fun v => v.category).sum ≤ 8) (hdg : decode cc pc = .ok (.invokevirtual 128, 3)) (kk : V X u d nL Q (pc + 3) ls (.int (priceS k a b) :: st) σ) : V X u d nL Q pc ls (.int b :: .int a :: .ref (u.2.1 (21 + k)) :: st) σ := by
  rcases k with _ | _ | _ | _ | _ | _ | k
  · exact v_runi (r_U F (x := ⟨"TakerBook$Thief", "price", "(II)I"⟩) (C := "TakerBook$Thief") (c_Th_price X.2.1 u hA σ 21 "TakerBook$Thief" rc_21 a b) mo_Th_price st_B_128_Th ⟨by decide, by decide⟩ rc_21 (by omega) rfl hw hdg) (fun r σ' h => by obtain ⟨e, rfl⟩ := h; rw [← e]; exact kk)
  · exact v_runi (r_U F (x := ⟨"TakerBook$Thief", "price", "(II)I"⟩) (C := "TakerBook$Returned") (c_Th_price X.2.1 u hA σ 22 "TakerBook$Returned" rc_22 a b) mo_Th_price st_B_128_Re ⟨by decide, by decide⟩ rc_22 (by omega) rfl hw hdg) (fun r σ' h => by obtain ⟨e, rfl⟩ := h; rw [← e]; exact kk)
  · exact v_runi (r_U F (x := ⟨"TakerBook$Thief", "price", "(II)I"⟩) (C := "TakerBook$Clerk") (c_Cl_price X.2.1 u hA σ 23 "TakerBook$Clerk" rc_23 a b) mo_Cl_price st_B_128_Cl ⟨by decide, by decide⟩ rc_23 (by omega) rfl hw hdg) (fun r σ' h => by obtain ⟨e, rfl⟩ := h; rw [← e]; exact kk)
  · exact v_runi (r_U F (x := ⟨"TakerBook$Thief", "price", "(II)I"⟩) (C := "TakerBook$Gang") (c_Th_price X.2.1 u hA σ 24 "TakerBook$Gang" rc_24 a b) mo_Th_price st_B_128_Ga ⟨by decide, by decide⟩ rc_24 (by omega) rfl hw hdg) (fun r σ' h => by obtain ⟨e, rfl⟩ := h; rw [← e]; exact kk)
  · exact v_runi (r_U F (x := ⟨"TakerBook$Thief", "price", "(II)I"⟩) (C := "TakerBook$Lace") (c_Th_price X.2.1 u hA σ 25 "TakerBook$Lace" rc_25 a b) mo_Th_price st_B_128_La ⟨by decide, by decide⟩ rc_25 (by omega) rfl hw hdg) (fun r σ' h => by obtain ⟨e, rfl⟩ := h; rw [← e]; exact kk)
  · exact v_runi (r_U F (x := ⟨"TakerBook$Thief", "price", "(II)I"⟩) (C := "TakerBook$Young") (c_Yo_price X.2.1 u hA σ 26 "TakerBook$Young" rc_26 a b) mo_Yo_price st_B_128_Yo ⟨by decide, by decide⟩ rc_26 (by omega) rfl hw hdg) (fun r σ' h => by obtain ⟨e, rfl⟩ := h; rw [← e]; exact kk)
  · exfalso
    omega
theorem vs_B_131 {X : FX} {u : Un} (hA : Ap u) {cc : ByteArray} {d nL : Nat} {Q : State → Prop} {pc : Nat} {ls : List (Nat × Value)} {st : List Value} {σ : St} (F : Fr X u "TakerBook$Band" cc nL) {k : Nat} (hk : k < 6) {b f c o : Int32} (hd : 4 ≤ d) (hw : (st.map fun v => v.category).sum ≤ 8) (hdg : decode cc pc = .ok (.invokevirtual 131, 3)) (kk : V X u d nL Q (pc + 3) ls (.int (bI (talkB k b f c o = true)) :: st) σ) : V X u d nL Q pc ls (.int o :: .int c :: .int f :: .int b :: .ref (u.2.1 (21 + k)) :: st) σ := by
  rcases k with _ | _ | _ | _ | _ | _ | k
  · exact v_runi (r_U F (x := ⟨"TakerBook$Thief", "talks", "(IIII)Z"⟩) (C := "TakerBook$Thief") (c_Th_talks X.2.1 u hA σ 21 "TakerBook$Thief" rc_21 b f c o) mo_Th_talks st_B_131_Th ⟨by decide, by decide⟩ rc_21 (by omega) rfl hw hdg) (fun r σ' h => by obtain ⟨e, rfl⟩ := h; rw [← e]; exact kk)
  · exact v_runi (r_U F (x := ⟨"TakerBook$Thief", "talks", "(IIII)Z"⟩) (C := "TakerBook$Returned") (c_Re_talks X.2.1 u hA σ 22 "TakerBook$Returned" rc_22 b f c o) mo_Re_talks st_B_131_Re ⟨by decide, by decide⟩ rc_22 (by omega) rfl hw hdg) (fun r σ' h => by obtain ⟨e, rfl⟩ := h; rw [← e]; exact kk)
  · exact v_runi (r_U F (x := ⟨"TakerBook$Thief", "talks", "(IIII)Z"⟩) (C := "TakerBook$Clerk") (c_Cl_talks X.2.1 u hA σ 23 "TakerBook$Clerk" rc_23 b f c o) mo_Cl_talks st_B_131_Cl ⟨by decide, by decide⟩ rc_23 (by omega) rfl hw hdg) (fun r σ' h => by obtain ⟨e, rfl⟩ := h; rw [← e]; exact kk)
  · exact v_runi (r_U F (x := ⟨"TakerBook$Thief", "talks", "(IIII)Z"⟩) (C := "TakerBook$Gang") (c_Ga_talks X.2.1 u hA σ 24 "TakerBook$Gang" rc_24 b f c o) mo_Ga_talks st_B_131_Ga ⟨by decide, by decide⟩ rc_24 (by omega) rfl hw hdg) (fun r σ' h => by obtain ⟨e, rfl⟩ := h; rw [← e]; exact kk)
  · exact v_runi (r_U F (x := ⟨"TakerBook$Thief", "talks", "(IIII)Z"⟩) (C := "TakerBook$Lace") (c_La_talks X.2.1 u hA σ 25 "TakerBook$Lace" rc_25 b f c o) mo_La_talks st_B_131_La ⟨by decide, by decide⟩ rc_25 (by omega) rfl hw hdg) (fun r σ' h => by obtain ⟨e, rfl⟩ := h; rw [← e]; exact kk)
  · exact v_runi (r_U F (x := ⟨"TakerBook$Thief", "talks", "(IIII)Z"⟩) (C := "TakerBook$Young") (c_Yo_talks X.2.1 u hA σ 26 "TakerBook$Young" rc_26 b f c o) mo_Yo_talks st_B_131_Yo ⟨by decide, by decide⟩ rc_26 (by omega) rfl hw hdg) (fun r σ' h => by obtain ⟨e, rfl⟩ := h; rw [← e]; exact kk)
  · exfalso
    omega
end
section
-- sets as numbers below 64; the band
theorem nI_or {a b : Nat} : nI a ||| nI b = nI (a ||| b) := by
  apply Int32.toBitVec_inj.mp
  show BitVec.ofNat 32 a ||| BitVec.ofNat 32 b = BitVec.ofNat 32 (a ||| b)
  rw [BitVec.ofNat_or]
theorem tb6 : ∀ z, z < 64 → ∀ i, i < 6 → (((nI z >>> (nI i &&& 31)) &&& 1 = 1) ↔ z.testBit i = true) := by decide +kernel
theorem mask6 : ∀ z, z < 64 → ∀ i, i < 6 → nI z &&& (((1 : Int32) <<< (nI i &&& 31)) ^^^ (-1)) = nI (z &&& (63 ^^^ 2 ^ i)) := by decide +kernel
theorem bit6 : ∀ i, i < 7 → (1 : Int32) <<< (nI i &&& 31) = nI (2 ^ i) := by decide +kernel
theorem not6 : ∀ z, z < 64 → nI z ^^^ (-1) = nI (4294967295 ^^^ z) := by decide +kernel
theorem and_not6 : ∀ s, s < 64 → ∀ z, z < 64 → s &&& (4294967295 ^^^ z) = s &&& (63 ^^^ z) := by decide +kernel
theorem sub6 {s z : Nat} (hs : s < 64) (hz : z < 64) : nI s &&& (nI z ^^^ (-1)) = nI (s &&& (63 ^^^ z)) := by rw [not6 z hz, nI_and, and_not6 s hs z hz]
theorem and_lt {a b n : Nat} (h : a < n) : a &&& b < n := Nat.lt_of_le_of_lt Nat.and_le_left h
theorem or_bit {f : Bool} {x i : Nat} (h : x < 2 ^ i) : x ||| 2 ^ i < 2 ^ (i + 1) := Nat.or_lt_two_pow (Nat.lt_of_lt_of_le h (Nat.pow_le_pow_right (by decide) (by omega))) (Nat.pow_lt_pow_right (by decide) (by omega))
def mkN (f : Nat → Bool) : Nat → Nat
  | 0 => 0
  | i + 1 => if f i = true then mkN f i ||| 2 ^ i else mkN f i
theorem mkN_lt (f : Nat → Bool) : ∀ i, mkN f i < 2 ^ i
  | 0 => Nat.one_pos
  | i + 1 => by
    have h := mkN_lt f i
    simp only [mkN]
    split
    · exact or_bit (f := true) h
    · exact Nat.lt_of_lt_of_le h (Nat.pow_le_pow_right (by decide) (by omega))
theorem p2_64 {n : Nat} (h : n ≤ 6) : 2 ^ n ≤ 64 := Nat.le_trans (Nat.pow_le_pow_right (by decide) h) (by decide)
theorem mkN_64 (f : Nat → Bool) {n : Nat} (h : n ≤ 6) : mkN f n < 64 := Nat.lt_of_lt_of_le (mkN_lt f n) (p2_64 h)
def sumI (f : Nat → Int32) : Nat → Int32
  | 0 => 0
  | i + 1 => sumI f i + f i
def othN (a G i : Nat) : Nat := pcN ((a &&& G) &&& (63 ^^^ 2 ^ i))
def tkF (kd : Nat → Nat) (bo cr : Nat → Int32) (fe : Int32) (G a i : Nat) : Bool := a.testBit i && talkB (kd i) (bo i) fe (cr i) (nI (othN a G i))
def ltF (kd : Nat → Nat) (sk : Nat → Int32) (G a i : Nat) : Int32 := lootS (kd i) (sk i) (nI (othN a G i))
def ltA (kd : Nat → Nat) (sk : Nat → Int32) (G a i : Nat) : Int32 := if a.testBit i = true then ltF kd sk G a i else 0
def bkOk (σ : St) (n G : Nat) (kd : Nat → Nat) : Prop := σ.1 19 8 = nI n ∧ n ≤ 6 ∧ σ.1 19 13 = nI G ∧ G < 64 ∧ (∀ i, i < n → σ.1 27 i = nI (kd i)) ∧ ∀ i, i < n → kd i < 6
def tkS (σ : St) (G : Nat) (kd : Nat → Nat) (a : Nat) : Nat → Bool := tkF kd (σ.1 29) (σ.1 31) (σ.1 19 11) G a
def wgS (σ : St) (lo pr : Nat → Int32) : Nat → St
  | 0 => σ
  | i + 1 => uI (uI (wgS σ lo pr i) 32 i (lo i)) 33 i (pr i)
theorem wgS_o (σ : St) (lo pr : Nat → Int32) {k : Nat} (h1 : k ≠ 32) (h2 : k ≠ 33) : ∀ i, (wgS σ lo pr i).1 k = σ.1 k
  | 0 => rfl
  | i + 1 => by simp only [wgS, uI, if_neg h1, if_neg h2, wgS_o σ lo pr h1 h2 i]
theorem bkOk_of {σ σ' : St} {n G : Nat} {kd : Nat → Nat} (h : bkOk σ n G kd) (h1 : σ'.1 19 8 = σ.1 19 8) (h2 : σ'.1 19 13 = σ.1 19 13) (h3 : σ'.1 27 = σ.1 27) : bkOk σ' n G kd := by
  unfold bkOk at *
  rw [h1, h2, h3]
  exact h
theorem wg_ok {σ : St} {n G : Nat} {kd : Nat → Nat} {lo pr : Nat → Int32} (h : bkOk σ n G kd) (i : Nat) : bkOk (wgS σ lo pr i) n G kd := bkOk_of h (by rw [wgS_o σ lo pr (by decide) (by decide)]) (by rw [wgS_o σ lo pr (by decide) (by decide)]) (by rw [wgS_o σ lo pr (by decide) (by decide)])
theorem uI_o (σ : St) (k j : Nat) (v : Int32) {k' : Nat} (h : k' ≠ k) : (uI σ k j v).1 k' = σ.1 k' := by simp only [uI, if_neg h]
theorem uI_s (σ : St) (k j : Nat) (v : Int32) : (uI σ k j v).1 k j = v := by simp [uI, upd]
theorem uI_n (σ : St) (k j : Nat) (v : Int32) {j' : Nat} (h : j' ≠ j) : (uI σ k j v).1 k j' = σ.1 k j' := by simp [uI, upd, h]
end
section
theorem fk_B_61 : fok "TakerBook$Band" 61 1 8 := ⟨(R_B, F_B, 19), rfl, by decide, List.mem_of_getElem? (i := 193) (by decide +kernel), rfl⟩
theorem fk_B_27 : fok "TakerBook$Band" 27 1 0 := ⟨(R_B, F_B, 19), rfl, by decide, List.mem_of_getElem? (i := 179) (by decide +kernel), rfl⟩
theorem G20 : Gam[20]? = some (.inr (.inl ((.object "TakerBook$Thief"), 6, fun j => 21 + j))) := rfl
theorem fk_B_77 : fok "TakerBook$Band" 77 1 13 := ⟨(R_B, F_B, 19), rfl, by decide, List.mem_of_getElem? (i := 204) (by decide +kernel), rfl⟩
theorem st_B_115 : siteS "TakerBook$Band" 115 ⟨"java/lang/Integer", "bitCount", "(I)I"⟩ := ⟨List.mem_of_getElem? (i := 555) (by decide +kernel), List.mem_of_getElem? (i := 556) (by decide +kernel)⟩
theorem fk_B_33 : fok "TakerBook$Band" 33 1 1 := ⟨(R_B, F_B, 19), rfl, by decide, List.mem_of_getElem? (i := 180) (by decide +kernel), rfl⟩
theorem G27 : Gam[27]? = some (.inl (.int, 6)) := rfl
theorem st_B_84 : siteV "TakerBook$Band" 84 ⟨"TakerBook$Band", "nature", "(I)LTakerBook$Thief;"⟩ := ⟨List.mem_of_getElem? (i := 502) (by decide +kernel), List.mem_of_getElem? (i := 503) (by decide +kernel), List.mem_of_getElem? (i := 504) (by decide +kernel)⟩
theorem fk_B_37 : fok "TakerBook$Band" 37 1 2 := ⟨(R_B, F_B, 19), rfl, by decide, List.mem_of_getElem? (i := 182) (by decide +kernel), rfl⟩
theorem G28 : Gam[28]? = some (.inl (.int, 6)) := rfl
theorem st_B_121 : siteV "TakerBook$Band" 121 ⟨"TakerBook$Band", "others", "(II)I"⟩ := ⟨List.mem_of_getElem? (i := 551) (by decide +kernel), List.mem_of_getElem? (i := 552) (by decide +kernel), List.mem_of_getElem? (i := 553) (by decide +kernel)⟩
theorem fk_B_65 : fok "TakerBook$Band" 65 1 9 := ⟨(R_B, F_B, 19), rfl, by decide, List.mem_of_getElem? (i := 197) (by decide +kernel), rfl⟩
theorem fk_B_46 : fok "TakerBook$Band" 46 1 5 := ⟨(R_B, F_B, 19), rfl, by decide, List.mem_of_getElem? (i := 186) (by decide +kernel), rfl⟩
theorem G31 : Gam[31]? = some (.inl (.int, 6)) := rfl
theorem fk_B_40 : fok "TakerBook$Band" 40 1 3 := ⟨(R_B, F_B, 19), rfl, by decide, List.mem_of_getElem? (i := 183) (by decide +kernel), rfl⟩
theorem G29 : Gam[29]? = some (.inl (.int, 6)) := rfl
theorem fk_B_71 : fok "TakerBook$Band" 71 1 11 := ⟨(R_B, F_B, 19), rfl, by decide, List.mem_of_getElem? (i := 201) (by decide +kernel), rfl⟩
theorem st_B_111 : siteN "TakerBook$Band" 111 ⟨"TakerBook", "isIn", "(II)Z"⟩ "TakerBook" := ⟨by decide +kernel, List.mem_of_getElem? (i := 608) (by decide +kernel)⟩
theorem st_B_135 : siteV "TakerBook$Band" 135 ⟨"TakerBook$Band", "lootOf", "(II)I"⟩ := ⟨List.mem_of_getElem? (i := 547) (by decide +kernel), List.mem_of_getElem? (i := 548) (by decide +kernel), List.mem_of_getElem? (i := 549) (by decide +kernel)⟩
theorem st_B_138 : siteV "TakerBook$Band" 138 ⟨"TakerBook$Band", "talkers", "(I)I"⟩ := ⟨List.mem_of_getElem? (i := 645) (by decide +kernel), List.mem_of_getElem? (i := 646) (by decide +kernel), List.mem_of_getElem? (i := 647) (by decide +kernel)⟩
theorem fk_B_74 : fok "TakerBook$Band" 74 1 12 := ⟨(R_B, F_B, 19), rfl, by decide, List.mem_of_getElem? (i := 203) (by decide +kernel), rfl⟩
set_option maxHeartbeats 4000000 in
theorem c_T_isIn2 (l : Launch) (u : Un) (hA : Ap u) (σ : St) (i z : Nat) (hi : i < 6) (hz : z < 64) : MTi l u y_T_isIn b_T_isIn 2 .boolean 0 [.int (nI i), .int (nI z)] σ (fun ans σ' => bI (Nat.testBit z i = true) = ans ∧ σ = σ') := by
  refine MT_of hA rfl (by decide) (Nat.le_of_ble_eq_true rfl) (fun X hl F hr => ?_)
  subst hl
  refine v_to (ls' := [(0, .int (nI i)), (1, .int (nI z))]) rfl ?_
  refine v_iload_n F d_T_isIn_0 rfl 1 rfl ?_
  refine v_iload_n F d_T_isIn_1 rfl 0 rfl ?_
  refine v_ishr F d_T_isIn_2 ?_
  refine v_iconst (v := 1) F d_T_isIn_3 ki_1 ?_
  refine v_iand F d_T_isIn_4 ?_
  refine v_iconst (v := 1) F d_T_isIn_5 ki_1 ?_
  refine v_icmp_ne F 13 d_T_isIn_6 rfl (fun h6 => ?_) (fun h6 => ?_)
  · skip
    refine v_iconst (v := 0) F d_T_isIn_13 ki_0 ?_
    refine v_iret F hr rfl d_T_isIn_14 ?_
    exact ⟨bI_f (fun q => h6 ((tb6 _ hz _ hi).mpr q)), rfl⟩
  · skip
    refine v_iconst (v := 1) F d_T_isIn_9 ki_1 ?_
    refine v_goto F 14 d_T_isIn_10 rfl ?_
    refine v_iret F hr rfl d_T_isIn_14 ?_
    exact ⟨bI_t ((tb6 _ hz _ hi).mp h6), rfl⟩
set_option maxHeartbeats 4000000 in
theorem c_M_has2 (l : Launch) (u : Un) (hA : Ap u) (σ : St) (i z : Nat) (hi : i < 6) (hz : z < 64) : MTi l u y_M_has b_M_has 2 .boolean 0 [.int (nI z), .int (nI i)] σ (fun ans σ' => bI (Nat.testBit z i = true) = ans ∧ σ = σ') := by
  refine MT_of hA rfl (by decide) (Nat.le_of_ble_eq_true rfl) (fun X hl F hr => ?_)
  subst hl
  refine v_to (ls' := [(0, .int (nI z)), (1, .int (nI i))]) rfl ?_
  refine v_iload_n F d_M_has_0 rfl 0 rfl ?_
  refine v_iload_n F d_M_has_1 rfl 1 rfl ?_
  refine v_ishr F d_M_has_2 ?_
  refine v_iconst (v := 1) F d_M_has_3 ki_1 ?_
  refine v_iand F d_M_has_4 ?_
  refine v_iconst (v := 1) F d_M_has_5 ki_1 ?_
  refine v_icmp_ne F 13 d_M_has_6 rfl (fun h6 => ?_) (fun h6 => ?_)
  · skip
    refine v_iconst (v := 0) F d_M_has_13 ki_0 ?_
    refine v_iret F hr rfl d_M_has_14 ?_
    exact ⟨bI_f (fun q => h6 ((tb6 _ hz _ hi).mpr q)), rfl⟩
  · skip
    refine v_iconst (v := 1) F d_M_has_9 ki_1 ?_
    refine v_goto F 14 d_M_has_10 rfl ?_
    refine v_iret F hr rfl d_M_has_14 ?_
    exact ⟨bI_t ((tb6 _ hz _ hi).mp h6), rfl⟩
abbrev b_B_has : ByteArray := prog_2_method_4_code
abbrev y_B_has : MethodName := ⟨"TakerBook$Band", "has", "(I)Z"⟩
theorem d_B_has_0 : decode b_B_has 0 = .ok (.iload_n 1, 1) := by decide +kernel
theorem d_B_has_1 : decode b_B_has 1 = .ok (.ifCond .lt 15, 3) := by decide +kernel
theorem d_B_has_4 : decode b_B_has 4 = .ok (.iload_n 1, 1) := by decide +kernel
theorem d_B_has_5 : decode b_B_has 5 = .ok (.aload_n 0, 1) := by decide +kernel
theorem d_B_has_6 : decode b_B_has 6 = .ok (.getfield 61, 3) := by decide +kernel
theorem d_B_has_9 : decode b_B_has 9 = .ok (.if_icmp .ge 7, 3) := by decide +kernel
theorem d_B_has_12 : decode b_B_has 12 = .ok (.iconst 1, 1) := by decide +kernel
theorem d_B_has_13 : decode b_B_has 13 = .ok (.goto 4, 3) := by decide +kernel
theorem d_B_has_16 : decode b_B_has 16 = .ok (.iconst 0, 1) := by decide +kernel
theorem d_B_has_17 : decode b_B_has 17 = .ok (.ireturn, 1) := by decide +kernel
theorem mo_B_has : mok y_B_has b_B_has 2 (some .boolean) 1 := ⟨List.mem_of_getElem? (i := 542) (by decide +kernel), ⟨by decide +kernel, by decide +kernel, by decide +kernel⟩, List.mem_of_getElem? (i := 76) (by decide +kernel), by decide⟩
set_option maxHeartbeats 4000000 in
theorem c_B_has (l : Launch) (u : Un) (hA : Ap u) (σ : St) (i : Int32) : MTi l u y_B_has b_B_has 2 .boolean 0 [.ref (u.2.1 19), .int i] σ (fun ans σ' => bI (0 ≤ i ∧ i < σ.1 19 8) = ans ∧ σ = σ') := by
  refine MT_of hA rfl (by decide) (Nat.le_of_ble_eq_true rfl) (fun X hl F hr => ?_)
  subst hl
  refine v_to (ls' := [(0, .ref (u.2.1 19)), (1, .int i)]) rfl ?_
  refine v_iload_n F d_B_has_0 rfl 1 rfl ?_
  refine v_if_lt F 16 d_B_has_1 rfl (fun h1 => ?_) (fun h1 => ?_)
  · skip
    refine v_iconst (v := 0) F d_B_has_16 ki_0 ?_
    refine v_iret F hr rfl d_B_has_17 ?_
    exact ⟨(bI_f (by first | (simp_all [inR]; done) | grind)), rfl⟩
  · skip
    refine v_iload_n F d_B_has_4 rfl 1 rfl ?_
    refine v_aload_n F d_B_has_5 rfl 0 rfl ?_
    refine v_geti F fk_B_61 G19 rfl d_B_has_6 ?_
    refine v_icmp_ge F 16 d_B_has_9 rfl (fun h9 => ?_) (fun h9 => ?_)
    · skip
      refine v_iconst (v := 0) F d_B_has_16 ki_0 ?_
      refine v_iret F hr rfl d_B_has_17 ?_
      exact ⟨(bI_f (by first | (simp_all [inR]; done) | grind)), rfl⟩
    · skip
      refine v_iconst (v := 1) F d_B_has_12 ki_1 ?_
      refine v_goto F 17 d_B_has_13 rfl ?_
      refine v_iret F hr rfl d_B_has_17 ?_
      exact ⟨(bI_t (by first | (simp_all [inR]; done) | grind)), rfl⟩
abbrev b_B_nature : ByteArray := prog_2_method_7_code
abbrev y_B_nature : MethodName := ⟨"TakerBook$Band", "nature", "(I)LTakerBook$Thief;"⟩
theorem d_B_nature_0 : decode b_B_nature 0 = .ok (.aload_n 0, 1) := by decide +kernel
theorem d_B_nature_1 : decode b_B_nature 1 = .ok (.getfield 27, 3) := by decide +kernel
theorem d_B_nature_4 : decode b_B_nature 4 = .ok (.iload_n 1, 1) := by decide +kernel
theorem d_B_nature_5 : decode b_B_nature 5 = .ok (.aaload, 1) := by decide +kernel
theorem d_B_nature_6 : decode b_B_nature 6 = .ok (.areturn, 1) := by decide +kernel
theorem mo_B_nature : mok y_B_nature b_B_nature 2 (some (.object "TakerBook$Thief")) 1 := ⟨List.mem_of_getElem? (i := 505) (by decide +kernel), ⟨by decide +kernel, by decide +kernel, by decide +kernel⟩, List.mem_of_getElem? (i := 76) (by decide +kernel), by decide⟩
set_option maxHeartbeats 4000000 in
theorem c_B_nature (l : Launch) (u : Un) (hA : Ap u) (σ : St) (k : Nat) (hk : k < 6) : MTr l u y_B_nature b_B_nature 2 (.object "TakerBook$Thief") 0 [.ref (u.2.1 19), .int (nI k)] σ (21 + k) := by
  refine MT_of hA rfl (by decide) (Nat.le_of_ble_eq_true rfl) (fun X hl F hr => ?_)
  subst hl
  refine v_to (ls' := [(0, .ref (u.2.1 19)), (1, .int (nI k))]) rfl ?_
  refine v_aload_n F d_B_nature_0 rfl 0 rfl ?_
  refine v_getr (r := 20) F fk_B_27 G19 rfl d_B_nature_1 ?_
  refine v_iload_n F d_B_nature_4 rfl 1 rfl ?_
  refine v_aal F k G20 rfl rfl (by omega) d_B_nature_5 ?_
  exact v_aret F hr d_B_nature_6
abbrev b_B_others : ByteArray := prog_2_method_8_code
abbrev y_B_others : MethodName := ⟨"TakerBook$Band", "others", "(II)I"⟩
theorem d_B_others_0 : decode b_B_others 0 = .ok (.iload_n 2, 1) := by decide +kernel
theorem d_B_others_1 : decode b_B_others 1 = .ok (.aload_n 0, 1) := by decide +kernel
theorem d_B_others_2 : decode b_B_others 2 = .ok (.getfield 77, 3) := by decide +kernel
theorem d_B_others_5 : decode b_B_others 5 = .ok (.iand, 1) := by decide +kernel
theorem d_B_others_6 : decode b_B_others 6 = .ok (.iconst 1, 1) := by decide +kernel
theorem d_B_others_7 : decode b_B_others 7 = .ok (.iload_n 1, 1) := by decide +kernel
theorem d_B_others_8 : decode b_B_others 8 = .ok (.ishl, 1) := by decide +kernel
theorem d_B_others_9 : decode b_B_others 9 = .ok (.iconst (-1), 1) := by decide +kernel
theorem d_B_others_10 : decode b_B_others 10 = .ok (.ixor, 1) := by decide +kernel
theorem d_B_others_11 : decode b_B_others 11 = .ok (.iand, 1) := by decide +kernel
theorem d_B_others_12 : decode b_B_others 12 = .ok (.invokestatic 115, 3) := by decide +kernel
theorem d_B_others_15 : decode b_B_others 15 = .ok (.ireturn, 1) := by decide +kernel
theorem mo_B_others : mok y_B_others b_B_others 3 (some .int) 2 := ⟨List.mem_of_getElem? (i := 554) (by decide +kernel), ⟨by decide +kernel, by decide +kernel, by decide +kernel⟩, List.mem_of_getElem? (i := 76) (by decide +kernel), by decide⟩
set_option maxHeartbeats 4000000 in
theorem c_B_others (l : Launch) (u : Un) (hA : Ap u) (σ : St) {n G : Nat} {kd : Nat → Nat} (hb : bkOk σ n G kd) (i a : Nat) (hi : i < 6) (ha : a < 64) : MTi l u y_B_others b_B_others 3 .int 1 [.ref (u.2.1 19), .int (nI i), .int (nI a)] σ (fun ans σ' => nI (othN a G i) = ans ∧ σ = σ') := by
  refine MT_of hA rfl (by decide) (Nat.le_of_ble_eq_true rfl) (fun X hl F hr => ?_)
  subst hl
  refine v_to (ls' := [(0, .ref (u.2.1 19)), (1, .int (nI i)), (2, .int (nI a))]) rfl ?_
  obtain ⟨hn, hn6, hG, hG64, hkd, hk6⟩ := id hb
  refine v_iload_n F d_B_others_0 rfl 2 rfl ?_
  refine v_aload_n F d_B_others_1 rfl 0 rfl ?_
  refine v_geti F fk_B_77 G19 rfl d_B_others_2 ?_
  refine v_te (y := nI G) hG ?_
  refine v_iand F d_B_others_5 ?_
  refine v_te (y := nI (a &&& G)) nI_and ?_
  refine v_iconst (v := 1) F d_B_others_6 ki_1 ?_
  refine v_iload_n F d_B_others_7 rfl 1 rfl ?_
  refine v_ishl F d_B_others_8 ?_
  refine v_iconst (v := (-1)) F d_B_others_9 ki_m1 ?_
  refine v_ixor F d_B_others_10 ?_
  refine v_iand F d_B_others_11 ?_
  refine v_te (y := nI ((a &&& G) &&& (63 ^^^ 2 ^ i))) (mask6 _ (and_lt ha) _ hi) ?_
  refine v_runi (r_S F (c_I_bitCount X.2.1 u hA σ ((a &&& G) &&& (63 ^^^ 2 ^ i)) (and_lt (and_lt ha))) mo_I_bitCount st_B_115 (by decide) rfl (Nat.le_of_ble_eq_true rfl) d_B_others_12) (fun r1 σ2 q3 => ?_)
  obtain ⟨rfl, rfl⟩ := q3
  refine v_iret F hr rfl d_B_others_15 ?_
  exact ⟨rfl, rfl⟩
abbrev b_B_lootOf : ByteArray := prog_2_method_9_code
abbrev y_B_lootOf : MethodName := ⟨"TakerBook$Band", "lootOf", "(II)I"⟩
theorem d_B_lootOf_0 : decode b_B_lootOf 0 = .ok (.aload_n 0, 1) := by decide +kernel
theorem d_B_lootOf_1 : decode b_B_lootOf 1 = .ok (.aload_n 0, 1) := by decide +kernel
theorem d_B_lootOf_2 : decode b_B_lootOf 2 = .ok (.getfield 33, 3) := by decide +kernel
theorem d_B_lootOf_5 : decode b_B_lootOf 5 = .ok (.iload_n 1, 1) := by decide +kernel
theorem d_B_lootOf_6 : decode b_B_lootOf 6 = .ok (.iaload, 1) := by decide +kernel
theorem d_B_lootOf_7 : decode b_B_lootOf 7 = .ok (.invokevirtual 84, 3) := by decide +kernel
theorem d_B_lootOf_10 : decode b_B_lootOf 10 = .ok (.aload_n 0, 1) := by decide +kernel
theorem d_B_lootOf_11 : decode b_B_lootOf 11 = .ok (.getfield 37, 3) := by decide +kernel
theorem d_B_lootOf_14 : decode b_B_lootOf 14 = .ok (.iload_n 1, 1) := by decide +kernel
theorem d_B_lootOf_15 : decode b_B_lootOf 15 = .ok (.iaload, 1) := by decide +kernel
theorem d_B_lootOf_16 : decode b_B_lootOf 16 = .ok (.aload_n 0, 1) := by decide +kernel
theorem d_B_lootOf_17 : decode b_B_lootOf 17 = .ok (.iload_n 1, 1) := by decide +kernel
theorem d_B_lootOf_18 : decode b_B_lootOf 18 = .ok (.iload_n 2, 1) := by decide +kernel
theorem d_B_lootOf_19 : decode b_B_lootOf 19 = .ok (.invokevirtual 121, 3) := by decide +kernel
theorem d_B_lootOf_22 : decode b_B_lootOf 22 = .ok (.invokevirtual 125, 3) := by decide +kernel
theorem d_B_lootOf_25 : decode b_B_lootOf 25 = .ok (.ireturn, 1) := by decide +kernel
theorem mo_B_lootOf : mok y_B_lootOf b_B_lootOf 3 (some .int) 2 := ⟨List.mem_of_getElem? (i := 550) (by decide +kernel), ⟨by decide +kernel, by decide +kernel, by decide +kernel⟩, List.mem_of_getElem? (i := 76) (by decide +kernel), by decide⟩
set_option maxHeartbeats 4000000 in
theorem c_B_lootOf (l : Launch) (u : Un) (hA : Ap u) (σ : St) {n G : Nat} {kd : Nat → Nat} (hb : bkOk σ n G kd) (i a : Nat) (hi : i < n) (ha : a < 64) : MTi l u y_B_lootOf b_B_lootOf 3 .int 5 [.ref (u.2.1 19), .int (nI i), .int (nI a)] σ (fun ans σ' => ltF kd (σ.1 28) G a i = ans ∧ σ = σ') := by
  refine MT_of hA rfl (by decide) (Nat.le_of_ble_eq_true rfl) (fun X hl F hr => ?_)
  subst hl
  refine v_to (ls' := [(0, .ref (u.2.1 19)), (1, .int (nI i)), (2, .int (nI a))]) rfl ?_
  obtain ⟨hn, hn6, hG, hG64, hkd, hk6⟩ := id hb
  refine v_aload_n F d_B_lootOf_0 rfl 0 rfl ?_
  refine v_aload_n F d_B_lootOf_1 rfl 0 rfl ?_
  refine v_getr (r := 27) F fk_B_33 G19 rfl d_B_lootOf_2 ?_
  refine v_iload_n F d_B_lootOf_5 rfl 1 rfl ?_
  refine v_ial F i G27 rfl (by omega) d_B_lootOf_6 ?_
  refine v_te (y := nI (kd i)) (hkd _ (by omega)) ?_
  refine v_runr (r_V F (c_B_nature X.2.1 u hA σ (kd i) (hk6 _ (by omega))) mo_B_nature st_B_84 rc_19 (by decide) rfl (Nat.le_of_ble_eq_true rfl) d_B_lootOf_7) ?_
  refine v_aload_n F d_B_lootOf_10 rfl 0 rfl ?_
  refine v_getr (r := 28) F fk_B_37 G19 rfl d_B_lootOf_11 ?_
  refine v_iload_n F d_B_lootOf_14 rfl 1 rfl ?_
  refine v_ial F i G28 rfl (by omega) d_B_lootOf_15 ?_
  refine v_aload_n F d_B_lootOf_16 rfl 0 rfl ?_
  refine v_iload_n F d_B_lootOf_17 rfl 1 rfl ?_
  refine v_iload_n F d_B_lootOf_18 rfl 2 rfl ?_
  refine v_runi (r_V F (c_B_others X.2.1 u hA σ hb i a (by omega) (by omega)) mo_B_others st_B_121 rc_19 (by decide) rfl (Nat.le_of_ble_eq_true rfl) d_B_lootOf_19) (fun r1 σ2 q3 => ?_)
  obtain ⟨rfl, rfl⟩ := q3
  refine vs_B_125 hA F (k := kd i) (hk6 _ (by omega)) (by decide) (Nat.le_of_ble_eq_true rfl) d_B_lootOf_22 ?_
  refine v_iret F hr rfl d_B_lootOf_25 ?_
  exact ⟨rfl, rfl⟩
abbrev b_B_priceOf : ByteArray := prog_2_method_10_code
abbrev y_B_priceOf : MethodName := ⟨"TakerBook$Band", "priceOf", "(I)I"⟩
theorem d_B_priceOf_0 : decode b_B_priceOf 0 = .ok (.aload_n 0, 1) := by decide +kernel
theorem d_B_priceOf_1 : decode b_B_priceOf 1 = .ok (.aload_n 0, 1) := by decide +kernel
theorem d_B_priceOf_2 : decode b_B_priceOf 2 = .ok (.getfield 33, 3) := by decide +kernel
theorem d_B_priceOf_5 : decode b_B_priceOf 5 = .ok (.iload_n 1, 1) := by decide +kernel
theorem d_B_priceOf_6 : decode b_B_priceOf 6 = .ok (.iaload, 1) := by decide +kernel
theorem d_B_priceOf_7 : decode b_B_priceOf 7 = .ok (.invokevirtual 84, 3) := by decide +kernel
theorem d_B_priceOf_10 : decode b_B_priceOf 10 = .ok (.aload_n 0, 1) := by decide +kernel
theorem d_B_priceOf_11 : decode b_B_priceOf 11 = .ok (.getfield 65, 3) := by decide +kernel
theorem d_B_priceOf_14 : decode b_B_priceOf 14 = .ok (.aload_n 0, 1) := by decide +kernel
theorem d_B_priceOf_15 : decode b_B_priceOf 15 = .ok (.getfield 46, 3) := by decide +kernel
theorem d_B_priceOf_18 : decode b_B_priceOf 18 = .ok (.iload_n 1, 1) := by decide +kernel
theorem d_B_priceOf_19 : decode b_B_priceOf 19 = .ok (.iaload, 1) := by decide +kernel
theorem d_B_priceOf_20 : decode b_B_priceOf 20 = .ok (.invokevirtual 128, 3) := by decide +kernel
theorem d_B_priceOf_23 : decode b_B_priceOf 23 = .ok (.ireturn, 1) := by decide +kernel
theorem mo_B_priceOf : mok y_B_priceOf b_B_priceOf 2 (some .int) 1 := ⟨List.mem_of_getElem? (i := 613) (by decide +kernel), ⟨by decide +kernel, by decide +kernel, by decide +kernel⟩, List.mem_of_getElem? (i := 76) (by decide +kernel), by decide⟩
set_option maxHeartbeats 4000000 in
theorem c_B_priceOf (l : Launch) (u : Un) (hA : Ap u) (σ : St) {n G : Nat} {kd : Nat → Nat} (hb : bkOk σ n G kd) (i : Nat) (hi : i < n) : MTi l u y_B_priceOf b_B_priceOf 2 .int 4 [.ref (u.2.1 19), .int (nI i)] σ (fun ans σ' => priceS (kd i) (σ.1 19 9) (σ.1 31 i) = ans ∧ σ = σ') := by
  refine MT_of hA rfl (by decide) (Nat.le_of_ble_eq_true rfl) (fun X hl F hr => ?_)
  subst hl
  refine v_to (ls' := [(0, .ref (u.2.1 19)), (1, .int (nI i))]) rfl ?_
  obtain ⟨hn, hn6, hG, hG64, hkd, hk6⟩ := id hb
  refine v_aload_n F d_B_priceOf_0 rfl 0 rfl ?_
  refine v_aload_n F d_B_priceOf_1 rfl 0 rfl ?_
  refine v_getr (r := 27) F fk_B_33 G19 rfl d_B_priceOf_2 ?_
  refine v_iload_n F d_B_priceOf_5 rfl 1 rfl ?_
  refine v_ial F i G27 rfl (by omega) d_B_priceOf_6 ?_
  refine v_te (y := nI (kd i)) (hkd _ (by omega)) ?_
  refine v_runr (r_V F (c_B_nature X.2.1 u hA σ (kd i) (hk6 _ (by omega))) mo_B_nature st_B_84 rc_19 (by decide) rfl (Nat.le_of_ble_eq_true rfl) d_B_priceOf_7) ?_
  refine v_aload_n F d_B_priceOf_10 rfl 0 rfl ?_
  refine v_geti F fk_B_65 G19 rfl d_B_priceOf_11 ?_
  refine v_aload_n F d_B_priceOf_14 rfl 0 rfl ?_
  refine v_getr (r := 31) F fk_B_46 G19 rfl d_B_priceOf_15 ?_
  refine v_iload_n F d_B_priceOf_18 rfl 1 rfl ?_
  refine v_ial F i G31 rfl (by omega) d_B_priceOf_19 ?_
  refine vs_B_128 hA F (k := kd i) (hk6 _ (by omega)) (by decide) (Nat.le_of_ble_eq_true rfl) d_B_priceOf_20 ?_
  refine v_iret F hr rfl d_B_priceOf_23 ?_
  exact ⟨rfl, rfl⟩
abbrev b_B_talksWith : ByteArray := prog_2_method_11_code
abbrev y_B_talksWith : MethodName := ⟨"TakerBook$Band", "talksWith", "(III)Z"⟩
theorem d_B_talksWith_0 : decode b_B_talksWith 0 = .ok (.aload_n 0, 1) := by decide +kernel
theorem d_B_talksWith_1 : decode b_B_talksWith 1 = .ok (.aload_n 0, 1) := by decide +kernel
theorem d_B_talksWith_2 : decode b_B_talksWith 2 = .ok (.getfield 33, 3) := by decide +kernel
theorem d_B_talksWith_5 : decode b_B_talksWith 5 = .ok (.iload_n 1, 1) := by decide +kernel
theorem d_B_talksWith_6 : decode b_B_talksWith 6 = .ok (.iaload, 1) := by decide +kernel
theorem d_B_talksWith_7 : decode b_B_talksWith 7 = .ok (.invokevirtual 84, 3) := by decide +kernel
theorem d_B_talksWith_10 : decode b_B_talksWith 10 = .ok (.aload_n 0, 1) := by decide +kernel
theorem d_B_talksWith_11 : decode b_B_talksWith 11 = .ok (.getfield 40, 3) := by decide +kernel
theorem d_B_talksWith_14 : decode b_B_talksWith 14 = .ok (.iload_n 1, 1) := by decide +kernel
theorem d_B_talksWith_15 : decode b_B_talksWith 15 = .ok (.iaload, 1) := by decide +kernel
theorem d_B_talksWith_16 : decode b_B_talksWith 16 = .ok (.aload_n 0, 1) := by decide +kernel
theorem d_B_talksWith_17 : decode b_B_talksWith 17 = .ok (.getfield 71, 3) := by decide +kernel
theorem d_B_talksWith_20 : decode b_B_talksWith 20 = .ok (.iload_n 2, 1) := by decide +kernel
theorem d_B_talksWith_21 : decode b_B_talksWith 21 = .ok (.aload_n 0, 1) := by decide +kernel
theorem d_B_talksWith_22 : decode b_B_talksWith 22 = .ok (.iload_n 1, 1) := by decide +kernel
theorem d_B_talksWith_23 : decode b_B_talksWith 23 = .ok (.iload_n 3, 1) := by decide +kernel
theorem d_B_talksWith_24 : decode b_B_talksWith 24 = .ok (.invokevirtual 121, 3) := by decide +kernel
theorem d_B_talksWith_27 : decode b_B_talksWith 27 = .ok (.invokevirtual 131, 3) := by decide +kernel
theorem d_B_talksWith_30 : decode b_B_talksWith 30 = .ok (.ireturn, 1) := by decide +kernel
theorem mo_B_talksWith : mok y_B_talksWith b_B_talksWith 4 (some .boolean) 3 := ⟨List.mem_of_getElem? (i := 583) (by decide +kernel), ⟨by decide +kernel, by decide +kernel, by decide +kernel⟩, List.mem_of_getElem? (i := 76) (by decide +kernel), by decide⟩
set_option maxHeartbeats 4000000 in
theorem c_B_talksWith (l : Launch) (u : Un) (hA : Ap u) (σ : St) {n G : Nat} {kd : Nat → Nat} (hb : bkOk σ n G kd) (i a : Nat) (c : Int32) (hi : i < n) (ha : a < 64) : MTi l u y_B_talksWith b_B_talksWith 4 .boolean 5 [.ref (u.2.1 19), .int (nI i), .int c, .int (nI a)] σ (fun ans σ' => bI (talkB (kd i) (σ.1 29 i) (σ.1 19 11) c (nI (othN a G i)) = true) = ans ∧ σ = σ') := by
  refine MT_of hA rfl (by decide) (Nat.le_of_ble_eq_true rfl) (fun X hl F hr => ?_)
  subst hl
  refine v_to (ls' := [(0, .ref (u.2.1 19)), (1, .int (nI i)), (2, .int c), (3, .int (nI a))]) rfl ?_
  obtain ⟨hn, hn6, hG, hG64, hkd, hk6⟩ := id hb
  refine v_aload_n F d_B_talksWith_0 rfl 0 rfl ?_
  refine v_aload_n F d_B_talksWith_1 rfl 0 rfl ?_
  refine v_getr (r := 27) F fk_B_33 G19 rfl d_B_talksWith_2 ?_
  refine v_iload_n F d_B_talksWith_5 rfl 1 rfl ?_
  refine v_ial F i G27 rfl (by omega) d_B_talksWith_6 ?_
  refine v_te (y := nI (kd i)) (hkd _ (by omega)) ?_
  refine v_runr (r_V F (c_B_nature X.2.1 u hA σ (kd i) (hk6 _ (by omega))) mo_B_nature st_B_84 rc_19 (by decide) rfl (Nat.le_of_ble_eq_true rfl) d_B_talksWith_7) ?_
  refine v_aload_n F d_B_talksWith_10 rfl 0 rfl ?_
  refine v_getr (r := 29) F fk_B_40 G19 rfl d_B_talksWith_11 ?_
  refine v_iload_n F d_B_talksWith_14 rfl 1 rfl ?_
  refine v_ial F i G29 rfl (by omega) d_B_talksWith_15 ?_
  refine v_aload_n F d_B_talksWith_16 rfl 0 rfl ?_
  refine v_geti F fk_B_71 G19 rfl d_B_talksWith_17 ?_
  refine v_iload_n F d_B_talksWith_20 rfl 2 rfl ?_
  refine v_aload_n F d_B_talksWith_21 rfl 0 rfl ?_
  refine v_iload_n F d_B_talksWith_22 rfl 1 rfl ?_
  refine v_iload_n F d_B_talksWith_23 rfl 3 rfl ?_
  refine v_runi (r_V F (c_B_others X.2.1 u hA σ hb i a (by omega) (by omega)) mo_B_others st_B_121 rc_19 (by decide) rfl (Nat.le_of_ble_eq_true rfl) d_B_talksWith_24) (fun r1 σ2 q3 => ?_)
  obtain ⟨rfl, rfl⟩ := q3
  refine vs_B_131 hA F (k := kd i) (hk6 _ (by omega)) (by decide) (Nat.le_of_ble_eq_true rfl) d_B_talksWith_27 ?_
  refine v_iret F hr bI_nar d_B_talksWith_30 ?_
  exact ⟨rfl, rfl⟩
abbrev b_B_lootOfAll : ByteArray := prog_2_method_12_code
abbrev y_B_lootOfAll : MethodName := ⟨"TakerBook$Band", "lootOfAll", "(I)I"⟩
theorem d_B_lootOfAll_0 : decode b_B_lootOfAll 0 = .ok (.iconst 0, 1) := by decide +kernel
theorem d_B_lootOfAll_1 : decode b_B_lootOfAll 1 = .ok (.istore_n 2, 1) := by decide +kernel
theorem d_B_lootOfAll_2 : decode b_B_lootOfAll 2 = .ok (.iconst 0, 1) := by decide +kernel
theorem d_B_lootOfAll_3 : decode b_B_lootOfAll 3 = .ok (.istore_n 3, 1) := by decide +kernel
theorem d_B_lootOfAll_4 : decode b_B_lootOfAll 4 = .ok (.iload_n 3, 1) := by decide +kernel
theorem d_B_lootOfAll_5 : decode b_B_lootOfAll 5 = .ok (.aload_n 0, 1) := by decide +kernel
theorem d_B_lootOfAll_6 : decode b_B_lootOfAll 6 = .ok (.getfield 61, 3) := by decide +kernel
theorem d_B_lootOfAll_9 : decode b_B_lootOfAll 9 = .ok (.if_icmp .ge 30, 3) := by decide +kernel
theorem d_B_lootOfAll_12 : decode b_B_lootOfAll 12 = .ok (.iload_n 2, 1) := by decide +kernel
theorem d_B_lootOfAll_13 : decode b_B_lootOfAll 13 = .ok (.iload_n 3, 1) := by decide +kernel
theorem d_B_lootOfAll_14 : decode b_B_lootOfAll 14 = .ok (.iload_n 1, 1) := by decide +kernel
theorem d_B_lootOfAll_15 : decode b_B_lootOfAll 15 = .ok (.invokestatic 111, 3) := by decide +kernel
theorem d_B_lootOfAll_18 : decode b_B_lootOfAll 18 = .ok (.ifCond .eq 12, 3) := by decide +kernel
theorem d_B_lootOfAll_21 : decode b_B_lootOfAll 21 = .ok (.aload_n 0, 1) := by decide +kernel
theorem d_B_lootOfAll_22 : decode b_B_lootOfAll 22 = .ok (.iload_n 3, 1) := by decide +kernel
theorem d_B_lootOfAll_23 : decode b_B_lootOfAll 23 = .ok (.iload_n 1, 1) := by decide +kernel
theorem d_B_lootOfAll_24 : decode b_B_lootOfAll 24 = .ok (.invokevirtual 135, 3) := by decide +kernel
theorem d_B_lootOfAll_27 : decode b_B_lootOfAll 27 = .ok (.goto 4, 3) := by decide +kernel
theorem d_B_lootOfAll_30 : decode b_B_lootOfAll 30 = .ok (.iconst 0, 1) := by decide +kernel
theorem d_B_lootOfAll_31 : decode b_B_lootOfAll 31 = .ok (.iadd, 1) := by decide +kernel
theorem d_B_lootOfAll_32 : decode b_B_lootOfAll 32 = .ok (.istore_n 2, 1) := by decide +kernel
theorem d_B_lootOfAll_33 : decode b_B_lootOfAll 33 = .ok (.iinc 3 1, 3) := by decide +kernel
theorem d_B_lootOfAll_36 : decode b_B_lootOfAll 36 = .ok (.goto (-32), 3) := by decide +kernel
theorem d_B_lootOfAll_39 : decode b_B_lootOfAll 39 = .ok (.iload_n 2, 1) := by decide +kernel
theorem d_B_lootOfAll_40 : decode b_B_lootOfAll 40 = .ok (.ireturn, 1) := by decide +kernel
theorem mo_B_lootOfAll : mok y_B_lootOfAll b_B_lootOfAll 4 (some .int) 1 := ⟨List.mem_of_getElem? (i := 673) (by decide +kernel), ⟨by decide +kernel, by decide +kernel, by decide +kernel⟩, List.mem_of_getElem? (i := 76) (by decide +kernel), by decide⟩
set_option maxHeartbeats 4000000 in
theorem L_B_lootOfAll_4 {X : FX} {u : Un} (hA : Ap u) {Q : State → Prop} (F : Fr X u "TakerBook$Band" b_B_lootOfAll 4) {σ : St} {n G : Nat} {kd : Nat → Nat} (hb : bkOk σ n G kd) {a : Nat} (ha : a < 64) (k : V X u 6 4 Q 39 [(0, .ref (u.2.1 19)), (1, .int (nI a)), (2, .int (sumI (ltA kd (σ.1 28) G a) n)), (3, .int (nI n))] [] (σ)) : ∀ (nn i : Nat), i ≤ n → n - i < nn → V X u 6 4 Q 4 [(0, .ref (u.2.1 19)), (1, .int (nI a)), (2, .int (sumI (ltA kd (σ.1 28) G a) i)), (3, .int (nI i))] [] (σ) := by
  intro nn
  induction nn with
  | zero =>
    intro i h1 h2
    exact absurd h2 (Nat.not_lt_zero _)
  | succ nn ih =>
    intro i hii hnn
    obtain ⟨hn, hn6, hG, hG64, hkd, hk6⟩ := id hb
    refine v_iload_n F d_B_lootOfAll_4 rfl 3 rfl ?_
    refine v_aload_n F d_B_lootOfAll_5 rfl 0 rfl ?_
    refine v_geti F fk_B_61 G19 rfl d_B_lootOfAll_6 ?_
    refine v_te (y := nI n) hn ?_
    refine v_icmp_ge F 39 d_B_lootOfAll_9 rfl (fun h9 => ?_) (fun h9 => ?_)
    · skip
      have h9 : n ≤ i := (nI_leI (a := n) (b := i) (by omega) (by omega)).mp h9
      have he : i = n := by omega
      subst he
      exact k
    · skip
      have h9 : ¬ n ≤ i := fun q => h9 ((nI_leI (a := n) (b := i) (by omega) (by omega)).mpr q)
      refine v_iload_n F d_B_lootOfAll_12 rfl 2 rfl ?_
      refine v_iload_n F d_B_lootOfAll_13 rfl 3 rfl ?_
      refine v_iload_n F d_B_lootOfAll_14 rfl 1 rfl ?_
      refine v_runi (r_N F (c_T_isIn2 X.2.1 u hA σ i a (by omega) (by omega)) mo_T_isIn st_B_111 (by decide) rfl (Nat.le_of_ble_eq_true rfl) d_B_lootOfAll_15) (fun r1 σ2 q3 => ?_)
      obtain ⟨rfl, rfl⟩ := q3
      refine v_bt F 30 d_B_lootOfAll_18 rfl (fun h18 => ?_) (fun h18 => ?_)
      · skip
        refine v_iconst (v := 0) F d_B_lootOfAll_30 ki_0 ?_
        refine v_iadd F d_B_lootOfAll_31 ?_
        refine v_ni (fun x4 ex4 => ?_)
        refine v_istore_n (ls' := [(2, .int x4), (0, .ref (u.2.1 19)), (1, .int (nI a)), (3, .int (nI i))]) F d_B_lootOfAll_32 rfl (by decide) rfl ?_
        refine v_iinc (v := nI (i + 1)) (ls' := [(3, .int (nI (i + 1))), (2, .int x4), (0, .ref (u.2.1 19)), (1, .int (nI a))]) F d_B_lootOfAll_33 (j := 3) rfl (nI_inc _) (by decide) rfl ?_
        refine v_goto F 4 d_B_lootOfAll_36 rfl ?_
        refine v_sub [2, 3, 1, 0] (ls' := [(0, .ref (u.2.1 19)), (1, .int (nI a)), (2, .int x4), (3, .int (nI (i + 1)))]) rfl ?_
        have g5 : x4 = (sumI (ltA kd (σ.1 28) G a) (i + 1)) := (by first | rfl | (simp [sumI, ltA, *]; done) | (simp_all [sumI, ltA]; done) | grind [sumI, ltA])
        refine v_to (ls' := [(0, .ref (u.2.1 19)), (1, .int (nI a)), (2, .int (sumI (ltA kd (σ.1 28) G a) (i + 1))), (3, .int (nI (i + 1)))]) (by first | rfl | rw [g5] | simp_all) ?_
        exact ih (i + 1) (by omega) (by omega)
      · skip
        refine v_aload_n F d_B_lootOfAll_21 rfl 0 rfl ?_
        refine v_iload_n F d_B_lootOfAll_22 rfl 3 rfl ?_
        refine v_iload_n F d_B_lootOfAll_23 rfl 1 rfl ?_
        refine v_runi (r_V F (c_B_lootOf X.2.1 u hA σ hb i a (by omega) (by omega)) mo_B_lootOf st_B_135 rc_19 (by decide) rfl (Nat.le_of_ble_eq_true rfl) d_B_lootOfAll_24) (fun r6 σ7 q8 => ?_)
        obtain ⟨rfl, rfl⟩ := q8
        refine v_goto F 31 d_B_lootOfAll_27 rfl ?_
        refine v_iadd F d_B_lootOfAll_31 ?_
        refine v_ni (fun x9 ex9 => ?_)
        refine v_istore_n (ls' := [(2, .int x9), (0, .ref (u.2.1 19)), (1, .int (nI a)), (3, .int (nI i))]) F d_B_lootOfAll_32 rfl (by decide) rfl ?_
        refine v_iinc (v := nI (i + 1)) (ls' := [(3, .int (nI (i + 1))), (2, .int x9), (0, .ref (u.2.1 19)), (1, .int (nI a))]) F d_B_lootOfAll_33 (j := 3) rfl (nI_inc _) (by decide) rfl ?_
        refine v_goto F 4 d_B_lootOfAll_36 rfl ?_
        refine v_sub [2, 3, 1, 0] (ls' := [(0, .ref (u.2.1 19)), (1, .int (nI a)), (2, .int x9), (3, .int (nI (i + 1)))]) rfl ?_
        have g10 : x9 = (sumI (ltA kd (σ.1 28) G a) (i + 1)) := (by first | rfl | (simp [sumI, ltA, *]; done) | (simp_all [sumI, ltA]; done) | grind [sumI, ltA])
        refine v_to (ls' := [(0, .ref (u.2.1 19)), (1, .int (nI a)), (2, .int (sumI (ltA kd (σ.1 28) G a) (i + 1))), (3, .int (nI (i + 1)))]) (by first | rfl | rw [g10] | simp_all) ?_
        exact ih (i + 1) (by omega) (by omega)
set_option maxHeartbeats 4000000 in
theorem c_B_lootOfAll (l : Launch) (u : Un) (hA : Ap u) (σ : St) {n G : Nat} {kd : Nat → Nat} (hb : bkOk σ n G kd) (a : Nat) (ha : a < 64) : MTi l u y_B_lootOfAll b_B_lootOfAll 4 .int 6 [.ref (u.2.1 19), .int (nI a)] σ (fun ans σ' => sumI (ltA kd (σ.1 28) G a) n = ans ∧ σ = σ') := by
  refine MT_of hA rfl (by decide) (Nat.le_of_ble_eq_true rfl) (fun X hl F hr => ?_)
  subst hl
  refine v_to (ls' := [(0, .ref (u.2.1 19)), (1, .int (nI a))]) rfl ?_
  obtain ⟨hn, hn6, hG, hG64, hkd, hk6⟩ := id hb
  refine v_iconst (v := 0) F d_B_lootOfAll_0 ki_0 ?_
  refine v_istore_n (ls' := [(2, .int 0), (0, .ref (u.2.1 19)), (1, .int (nI a))]) F d_B_lootOfAll_1 rfl (by decide) rfl ?_
  refine v_iconst (v := 0) F d_B_lootOfAll_2 ki_0 ?_
  refine v_istore_n (ls' := [(3, .int 0), (2, .int 0), (0, .ref (u.2.1 19)), (1, .int (nI a))]) F d_B_lootOfAll_3 rfl (by decide) rfl ?_
  refine v_sub [2, 3, 1, 0] (ls' := [(0, .ref (u.2.1 19)), (1, .int (nI a)), (2, .int 0), (3, .int 0)]) rfl ?_
  have g1 : 0 = (sumI (ltA kd (σ.1 28) G a) 0) := (by first | rfl | (simp [sumI, ltA, *]; done) | (simp_all [sumI, ltA]; done) | grind [sumI, ltA])
  have g2 : 0 = (nI 0) := (by first | rfl | (simp [sumI, ltA, *]; done) | (simp_all [sumI, ltA]; done) | grind [sumI, ltA])
  refine v_to (ls' := [(0, .ref (u.2.1 19)), (1, .int (nI a)), (2, .int (sumI (ltA kd (σ.1 28) G a) 0)), (3, .int (nI 0))]) (by first | rfl | rw [g1, g2] | simp_all) ?_
  refine L_B_lootOfAll_4 hA F hb ha ?_ _ 0 (Nat.zero_le _) (Nat.lt_succ_self _)
  refine v_iload_n F d_B_lootOfAll_39 rfl 2 rfl ?_
  refine v_iret F hr rfl d_B_lootOfAll_40 ?_
  exact ⟨rfl, rfl⟩
abbrev b_B_talkers : ByteArray := prog_2_method_13_code
abbrev y_B_talkers : MethodName := ⟨"TakerBook$Band", "talkers", "(I)I"⟩
theorem d_B_talkers_0 : decode b_B_talkers 0 = .ok (.iconst 0, 1) := by decide +kernel
theorem d_B_talkers_1 : decode b_B_talkers 1 = .ok (.istore_n 2, 1) := by decide +kernel
theorem d_B_talkers_2 : decode b_B_talkers 2 = .ok (.iconst 0, 1) := by decide +kernel
theorem d_B_talkers_3 : decode b_B_talkers 3 = .ok (.istore_n 3, 1) := by decide +kernel
theorem d_B_talkers_4 : decode b_B_talkers 4 = .ok (.iload_n 3, 1) := by decide +kernel
theorem d_B_talkers_5 : decode b_B_talkers 5 = .ok (.aload_n 0, 1) := by decide +kernel
theorem d_B_talkers_6 : decode b_B_talkers 6 = .ok (.getfield 61, 3) := by decide +kernel
theorem d_B_talkers_9 : decode b_B_talkers 9 = .ok (.if_icmp .ge 61, 3) := by decide +kernel
theorem d_B_talkers_12 : decode b_B_talkers 12 = .ok (.iload_n 3, 1) := by decide +kernel
theorem d_B_talkers_13 : decode b_B_talkers 13 = .ok (.iload_n 1, 1) := by decide +kernel
theorem d_B_talkers_14 : decode b_B_talkers 14 = .ok (.invokestatic 111, 3) := by decide +kernel
theorem d_B_talkers_17 : decode b_B_talkers 17 = .ok (.ifCond .eq 47, 3) := by decide +kernel
theorem d_B_talkers_20 : decode b_B_talkers 20 = .ok (.aload_n 0, 1) := by decide +kernel
theorem d_B_talkers_21 : decode b_B_talkers 21 = .ok (.aload_n 0, 1) := by decide +kernel
theorem d_B_talkers_22 : decode b_B_talkers 22 = .ok (.getfield 33, 3) := by decide +kernel
theorem d_B_talkers_25 : decode b_B_talkers 25 = .ok (.iload_n 3, 1) := by decide +kernel
theorem d_B_talkers_26 : decode b_B_talkers 26 = .ok (.iaload, 1) := by decide +kernel
theorem d_B_talkers_27 : decode b_B_talkers 27 = .ok (.invokevirtual 84, 3) := by decide +kernel
theorem d_B_talkers_30 : decode b_B_talkers 30 = .ok (.aload_n 0, 1) := by decide +kernel
theorem d_B_talkers_31 : decode b_B_talkers 31 = .ok (.getfield 40, 3) := by decide +kernel
theorem d_B_talkers_34 : decode b_B_talkers 34 = .ok (.iload_n 3, 1) := by decide +kernel
theorem d_B_talkers_35 : decode b_B_talkers 35 = .ok (.iaload, 1) := by decide +kernel
theorem d_B_talkers_36 : decode b_B_talkers 36 = .ok (.aload_n 0, 1) := by decide +kernel
theorem d_B_talkers_37 : decode b_B_talkers 37 = .ok (.getfield 71, 3) := by decide +kernel
theorem d_B_talkers_40 : decode b_B_talkers 40 = .ok (.aload_n 0, 1) := by decide +kernel
theorem d_B_talkers_41 : decode b_B_talkers 41 = .ok (.getfield 46, 3) := by decide +kernel
theorem d_B_talkers_44 : decode b_B_talkers 44 = .ok (.iload_n 3, 1) := by decide +kernel
theorem d_B_talkers_45 : decode b_B_talkers 45 = .ok (.iaload, 1) := by decide +kernel
theorem d_B_talkers_46 : decode b_B_talkers 46 = .ok (.aload_n 0, 1) := by decide +kernel
theorem d_B_talkers_47 : decode b_B_talkers 47 = .ok (.iload_n 3, 1) := by decide +kernel
theorem d_B_talkers_48 : decode b_B_talkers 48 = .ok (.iload_n 1, 1) := by decide +kernel
theorem d_B_talkers_49 : decode b_B_talkers 49 = .ok (.invokevirtual 121, 3) := by decide +kernel
theorem d_B_talkers_52 : decode b_B_talkers 52 = .ok (.invokevirtual 131, 3) := by decide +kernel
theorem d_B_talkers_55 : decode b_B_talkers 55 = .ok (.ifCond .eq 9, 3) := by decide +kernel
theorem d_B_talkers_58 : decode b_B_talkers 58 = .ok (.iload_n 2, 1) := by decide +kernel
theorem d_B_talkers_59 : decode b_B_talkers 59 = .ok (.iconst 1, 1) := by decide +kernel
theorem d_B_talkers_60 : decode b_B_talkers 60 = .ok (.iload_n 3, 1) := by decide +kernel
theorem d_B_talkers_61 : decode b_B_talkers 61 = .ok (.ishl, 1) := by decide +kernel
theorem d_B_talkers_62 : decode b_B_talkers 62 = .ok (.ior, 1) := by decide +kernel
theorem d_B_talkers_63 : decode b_B_talkers 63 = .ok (.istore_n 2, 1) := by decide +kernel
theorem d_B_talkers_64 : decode b_B_talkers 64 = .ok (.iinc 3 1, 3) := by decide +kernel
theorem d_B_talkers_67 : decode b_B_talkers 67 = .ok (.goto (-63), 3) := by decide +kernel
theorem d_B_talkers_70 : decode b_B_talkers 70 = .ok (.iload_n 2, 1) := by decide +kernel
theorem d_B_talkers_71 : decode b_B_talkers 71 = .ok (.ireturn, 1) := by decide +kernel
theorem mo_B_talkers : mok y_B_talkers b_B_talkers 4 (some .int) 1 := ⟨List.mem_of_getElem? (i := 648) (by decide +kernel), ⟨by decide +kernel, by decide +kernel, by decide +kernel⟩, List.mem_of_getElem? (i := 76) (by decide +kernel), by decide⟩
set_option maxHeartbeats 4000000 in
theorem L_B_talkers_4 {X : FX} {u : Un} (hA : Ap u) {Q : State → Prop} (F : Fr X u "TakerBook$Band" b_B_talkers 4) {σ : St} {n G : Nat} {kd : Nat → Nat} (hb : bkOk σ n G kd) {a : Nat} (ha : a < 64) (k : V X u 5 4 Q 70 [(0, .ref (u.2.1 19)), (1, .int (nI a)), (2, .int (nI (mkN (tkS σ G kd a) n))), (3, .int (nI n))] [] (σ)) : ∀ (nn i : Nat), i ≤ n → n - i < nn → V X u 5 4 Q 4 [(0, .ref (u.2.1 19)), (1, .int (nI a)), (2, .int (nI (mkN (tkS σ G kd a) i))), (3, .int (nI i))] [] (σ) := by
  intro nn
  induction nn with
  | zero =>
    intro i h1 h2
    exact absurd h2 (Nat.not_lt_zero _)
  | succ nn ih =>
    intro i hii hnn
    obtain ⟨hn, hn6, hG, hG64, hkd, hk6⟩ := id hb
    refine v_iload_n F d_B_talkers_4 rfl 3 rfl ?_
    refine v_aload_n F d_B_talkers_5 rfl 0 rfl ?_
    refine v_geti F fk_B_61 G19 rfl d_B_talkers_6 ?_
    refine v_te (y := nI n) hn ?_
    refine v_icmp_ge F 70 d_B_talkers_9 rfl (fun h9 => ?_) (fun h9 => ?_)
    · skip
      have h9 : n ≤ i := (nI_leI (a := n) (b := i) (by omega) (by omega)).mp h9
      have he : i = n := by omega
      subst he
      exact k
    · skip
      have h9 : ¬ n ≤ i := fun q => h9 ((nI_leI (a := n) (b := i) (by omega) (by omega)).mpr q)
      refine v_iload_n F d_B_talkers_12 rfl 3 rfl ?_
      refine v_iload_n F d_B_talkers_13 rfl 1 rfl ?_
      refine v_runi (r_N F (c_T_isIn2 X.2.1 u hA σ i a (by omega) (by omega)) mo_T_isIn st_B_111 (by decide) rfl (Nat.le_of_ble_eq_true rfl) d_B_talkers_14) (fun r1 σ2 q3 => ?_)
      obtain ⟨rfl, rfl⟩ := q3
      refine v_bt F 64 d_B_talkers_17 rfl (fun h17 => ?_) (fun h17 => ?_)
      · skip
        refine v_iinc (v := nI (i + 1)) (ls' := [(3, .int (nI (i + 1))), (0, .ref (u.2.1 19)), (1, .int (nI a)), (2, .int (nI (mkN (tkS σ G kd a) i)))]) F d_B_talkers_64 (j := 3) rfl (nI_inc _) (by decide) rfl ?_
        refine v_goto F 4 d_B_talkers_67 rfl ?_
        refine v_sub [1, 2, 3, 0] (ls' := [(0, .ref (u.2.1 19)), (1, .int (nI a)), (2, .int (nI (mkN (tkS σ G kd a) i))), (3, .int (nI (i + 1)))]) rfl ?_
        have g4 : (nI (mkN (tkS σ G kd a) i)) = (nI (mkN (tkS σ G kd a) (i + 1))) := (by first | rfl | (simp [mkN, tkS, tkF, *]; done) | (simp_all [mkN, tkS, tkF]; done) | grind [mkN, tkS, tkF])
        refine v_to (ls' := [(0, .ref (u.2.1 19)), (1, .int (nI a)), (2, .int (nI (mkN (tkS σ G kd a) (i + 1)))), (3, .int (nI (i + 1)))]) (by first | rfl | rw [g4] | simp_all) ?_
        exact ih (i + 1) (by omega) (by omega)
      · skip
        refine v_aload_n F d_B_talkers_20 rfl 0 rfl ?_
        refine v_aload_n F d_B_talkers_21 rfl 0 rfl ?_
        refine v_getr (r := 27) F fk_B_33 G19 rfl d_B_talkers_22 ?_
        refine v_iload_n F d_B_talkers_25 rfl 3 rfl ?_
        refine v_ial F i G27 rfl (by omega) d_B_talkers_26 ?_
        refine v_te (y := nI (kd i)) (hkd _ (by omega)) ?_
        refine v_runr (r_V F (c_B_nature X.2.1 u hA σ (kd i) (hk6 _ (by omega))) mo_B_nature st_B_84 rc_19 (by decide) rfl (Nat.le_of_ble_eq_true rfl) d_B_talkers_27) ?_
        refine v_aload_n F d_B_talkers_30 rfl 0 rfl ?_
        refine v_getr (r := 29) F fk_B_40 G19 rfl d_B_talkers_31 ?_
        refine v_iload_n F d_B_talkers_34 rfl 3 rfl ?_
        refine v_ial F i G29 rfl (by omega) d_B_talkers_35 ?_
        refine v_aload_n F d_B_talkers_36 rfl 0 rfl ?_
        refine v_geti F fk_B_71 G19 rfl d_B_talkers_37 ?_
        refine v_aload_n F d_B_talkers_40 rfl 0 rfl ?_
        refine v_getr (r := 31) F fk_B_46 G19 rfl d_B_talkers_41 ?_
        refine v_iload_n F d_B_talkers_44 rfl 3 rfl ?_
        refine v_ial F i G31 rfl (by omega) d_B_talkers_45 ?_
        refine v_aload_n F d_B_talkers_46 rfl 0 rfl ?_
        refine v_iload_n F d_B_talkers_47 rfl 3 rfl ?_
        refine v_iload_n F d_B_talkers_48 rfl 1 rfl ?_
        refine v_runi (r_V F (c_B_others X.2.1 u hA σ hb i a (by omega) (by omega)) mo_B_others st_B_121 rc_19 (by decide) rfl (Nat.le_of_ble_eq_true rfl) d_B_talkers_49) (fun r5 σ6 q7 => ?_)
        obtain ⟨rfl, rfl⟩ := q7
        refine vs_B_131 hA F (k := kd i) (hk6 _ (by omega)) (by decide) (Nat.le_of_ble_eq_true rfl) d_B_talkers_52 ?_
        refine v_bt F 64 d_B_talkers_55 rfl (fun h55 => ?_) (fun h55 => ?_)
        · skip
          refine v_iinc (v := nI (i + 1)) (ls' := [(3, .int (nI (i + 1))), (0, .ref (u.2.1 19)), (1, .int (nI a)), (2, .int (nI (mkN (tkS σ G kd a) i)))]) F d_B_talkers_64 (j := 3) rfl (nI_inc _) (by decide) rfl ?_
          refine v_goto F 4 d_B_talkers_67 rfl ?_
          refine v_sub [1, 2, 3, 0] (ls' := [(0, .ref (u.2.1 19)), (1, .int (nI a)), (2, .int (nI (mkN (tkS σ G kd a) i))), (3, .int (nI (i + 1)))]) rfl ?_
          have g8 : (nI (mkN (tkS σ G kd a) i)) = (nI (mkN (tkS σ G kd a) (i + 1))) := (by first | rfl | (simp [mkN, tkS, tkF, *]; done) | (simp_all [mkN, tkS, tkF]; done) | grind [mkN, tkS, tkF])
          refine v_to (ls' := [(0, .ref (u.2.1 19)), (1, .int (nI a)), (2, .int (nI (mkN (tkS σ G kd a) (i + 1)))), (3, .int (nI (i + 1)))]) (by first | rfl | rw [g8] | simp_all) ?_
          exact ih (i + 1) (by omega) (by omega)
        · skip
          refine v_iload_n F d_B_talkers_58 rfl 2 rfl ?_
          refine v_iconst (v := 1) F d_B_talkers_59 ki_1 ?_
          refine v_iload_n F d_B_talkers_60 rfl 3 rfl ?_
          refine v_ishl F d_B_talkers_61 ?_
          refine v_te (y := nI (2 ^ i)) (bit6 _ (by omega)) ?_
          refine v_ior F d_B_talkers_62 ?_
          refine v_te (y := nI (mkN (tkS σ G kd a) i ||| 2 ^ i)) nI_or ?_
          refine v_ni (fun x9 ex9 => ?_)
          refine v_istore_n (ls' := [(2, .int x9), (0, .ref (u.2.1 19)), (1, .int (nI a)), (3, .int (nI i))]) F d_B_talkers_63 rfl (by decide) rfl ?_
          refine v_iinc (v := nI (i + 1)) (ls' := [(3, .int (nI (i + 1))), (2, .int x9), (0, .ref (u.2.1 19)), (1, .int (nI a))]) F d_B_talkers_64 (j := 3) rfl (nI_inc _) (by decide) rfl ?_
          refine v_goto F 4 d_B_talkers_67 rfl ?_
          refine v_sub [2, 3, 1, 0] (ls' := [(0, .ref (u.2.1 19)), (1, .int (nI a)), (2, .int x9), (3, .int (nI (i + 1)))]) rfl ?_
          have g10 : x9 = (nI (mkN (tkS σ G kd a) (i + 1))) := (by first | rfl | (simp [mkN, tkS, tkF, *]; done) | (simp_all [mkN, tkS, tkF]; done) | grind [mkN, tkS, tkF])
          refine v_to (ls' := [(0, .ref (u.2.1 19)), (1, .int (nI a)), (2, .int (nI (mkN (tkS σ G kd a) (i + 1)))), (3, .int (nI (i + 1)))]) (by first | rfl | rw [g10] | simp_all) ?_
          exact ih (i + 1) (by omega) (by omega)
set_option maxHeartbeats 4000000 in
theorem c_B_talkers (l : Launch) (u : Un) (hA : Ap u) (σ : St) {n G : Nat} {kd : Nat → Nat} (hb : bkOk σ n G kd) (a : Nat) (ha : a < 64) : MTi l u y_B_talkers b_B_talkers 4 .int 5 [.ref (u.2.1 19), .int (nI a)] σ (fun ans σ' => nI (mkN (tkS σ G kd a) n) = ans ∧ σ = σ') := by
  refine MT_of hA rfl (by decide) (Nat.le_of_ble_eq_true rfl) (fun X hl F hr => ?_)
  subst hl
  refine v_to (ls' := [(0, .ref (u.2.1 19)), (1, .int (nI a))]) rfl ?_
  obtain ⟨hn, hn6, hG, hG64, hkd, hk6⟩ := id hb
  refine v_iconst (v := 0) F d_B_talkers_0 ki_0 ?_
  refine v_istore_n (ls' := [(2, .int 0), (0, .ref (u.2.1 19)), (1, .int (nI a))]) F d_B_talkers_1 rfl (by decide) rfl ?_
  refine v_iconst (v := 0) F d_B_talkers_2 ki_0 ?_
  refine v_istore_n (ls' := [(3, .int 0), (2, .int 0), (0, .ref (u.2.1 19)), (1, .int (nI a))]) F d_B_talkers_3 rfl (by decide) rfl ?_
  refine v_sub [2, 3, 1, 0] (ls' := [(0, .ref (u.2.1 19)), (1, .int (nI a)), (2, .int 0), (3, .int 0)]) rfl ?_
  have g1 : 0 = (nI (mkN (tkS σ G kd a) 0)) := (by first | rfl | (simp [mkN, tkS, tkF, *]; done) | (simp_all [mkN, tkS, tkF]; done) | grind [mkN, tkS, tkF])
  have g2 : 0 = (nI 0) := (by first | rfl | (simp [mkN, tkS, tkF, *]; done) | (simp_all [mkN, tkS, tkF]; done) | grind [mkN, tkS, tkF])
  refine v_to (ls' := [(0, .ref (u.2.1 19)), (1, .int (nI a)), (2, .int (nI (mkN (tkS σ G kd a) 0))), (3, .int (nI 0))]) (by first | rfl | rw [g1, g2] | simp_all) ?_
  refine L_B_talkers_4 hA F hb ha ?_ _ 0 (Nat.zero_le _) (Nat.lt_succ_self _)
  refine v_iload_n F d_B_talkers_70 rfl 2 rfl ?_
  refine v_iret F hr rfl d_B_talkers_71 ?_
  exact ⟨rfl, rfl⟩
abbrev b_B_wouldBeTried : ByteArray := prog_2_method_14_code
abbrev y_B_wouldBeTried : MethodName := ⟨"TakerBook$Band", "wouldBeTried", "(I)Z"⟩
theorem d_B_wouldBeTried_0 : decode b_B_wouldBeTried 0 = .ok (.aload_n 0, 1) := by decide +kernel
theorem d_B_wouldBeTried_1 : decode b_B_wouldBeTried 1 = .ok (.iload_n 1, 1) := by decide +kernel
theorem d_B_wouldBeTried_2 : decode b_B_wouldBeTried 2 = .ok (.invokevirtual 138, 3) := by decide +kernel
theorem d_B_wouldBeTried_5 : decode b_B_wouldBeTried 5 = .ok (.invokestatic 115, 3) := by decide +kernel
theorem d_B_wouldBeTried_8 : decode b_B_wouldBeTried 8 = .ok (.aload_n 0, 1) := by decide +kernel
theorem d_B_wouldBeTried_9 : decode b_B_wouldBeTried 9 = .ok (.getfield 74, 3) := by decide +kernel
theorem d_B_wouldBeTried_12 : decode b_B_wouldBeTried 12 = .ok (.if_icmp .lt 7, 3) := by decide +kernel
theorem d_B_wouldBeTried_15 : decode b_B_wouldBeTried 15 = .ok (.iconst 1, 1) := by decide +kernel
theorem d_B_wouldBeTried_16 : decode b_B_wouldBeTried 16 = .ok (.goto 4, 3) := by decide +kernel
theorem d_B_wouldBeTried_19 : decode b_B_wouldBeTried 19 = .ok (.iconst 0, 1) := by decide +kernel
theorem d_B_wouldBeTried_20 : decode b_B_wouldBeTried 20 = .ok (.ireturn, 1) := by decide +kernel
theorem mo_B_wouldBeTried : mok y_B_wouldBeTried b_B_wouldBeTried 2 (some .boolean) 1 := ⟨List.mem_of_getElem? (i := 720) (by decide +kernel), ⟨by decide +kernel, by decide +kernel, by decide +kernel⟩, List.mem_of_getElem? (i := 76) (by decide +kernel), by decide⟩
set_option maxHeartbeats 4000000 in
theorem c_B_wouldBeTried (l : Launch) (u : Un) (hA : Ap u) (σ : St) {n G : Nat} {kd : Nat → Nat} (hb : bkOk σ n G kd) (a : Nat) (ha : a < 64) : MTi l u y_B_wouldBeTried b_B_wouldBeTried 2 .boolean 6 [.ref (u.2.1 19), .int (nI a)] σ (fun ans σ' => bI (σ.1 19 12 ≤ nI (pcN (mkN (tkS σ G kd a) n))) = ans ∧ σ = σ') := by
  refine MT_of hA rfl (by decide) (Nat.le_of_ble_eq_true rfl) (fun X hl F hr => ?_)
  subst hl
  refine v_to (ls' := [(0, .ref (u.2.1 19)), (1, .int (nI a))]) rfl ?_
  obtain ⟨hn, hn6, hG, hG64, hkd, hk6⟩ := id hb
  refine v_aload_n F d_B_wouldBeTried_0 rfl 0 rfl ?_
  refine v_iload_n F d_B_wouldBeTried_1 rfl 1 rfl ?_
  refine v_runi (r_V F (c_B_talkers X.2.1 u hA σ hb a (by omega)) mo_B_talkers st_B_138 rc_19 (by decide) rfl (Nat.le_of_ble_eq_true rfl) d_B_wouldBeTried_2) (fun r1 σ2 q3 => ?_)
  obtain ⟨rfl, rfl⟩ := q3
  refine v_runi (r_S F (c_I_bitCount X.2.1 u hA σ (mkN (tkS σ G kd a) n) (mkN_64 _ hn6)) mo_I_bitCount st_B_115 (by decide) rfl (Nat.le_of_ble_eq_true rfl) d_B_wouldBeTried_5) (fun r4 σ5 q6 => ?_)
  obtain ⟨rfl, rfl⟩ := q6
  refine v_aload_n F d_B_wouldBeTried_8 rfl 0 rfl ?_
  refine v_geti F fk_B_74 G19 rfl d_B_wouldBeTried_9 ?_
  refine v_icmp_lt F 19 d_B_wouldBeTried_12 rfl (fun h12 => ?_) (fun h12 => ?_)
  · skip
    refine v_iconst (v := 0) F d_B_wouldBeTried_19 ki_0 ?_
    refine v_iret F hr rfl d_B_wouldBeTried_20 ?_
    exact ⟨(bI_f (by first | (simp_all [inR]; done) | grind)), rfl⟩
  · skip
    refine v_iconst (v := 1) F d_B_wouldBeTried_15 ki_1 ?_
    refine v_goto F 20 d_B_wouldBeTried_16 rfl ?_
    refine v_iret F hr rfl d_B_wouldBeTried_20 ?_
    exact ⟨(bI_t (by first | (simp_all [inR]; done) | grind)), rfl⟩
end
section
-- the model's band
def cntN (f : Nat → Bool) : Nat → Nat
  | 0 => 0
  | i + 1 => cntN f i + (if f i = true then 1 else 0)
def isG (k : Nat) : Bool := k == 3 || k == 5
def othF (kd : Nat → Nat) (a i k : Nat) : Bool := decide (k ≠ i) && (isG (kd k) && a.testBit k)
def gaN (kd : Nat → Nat) (n : Nat) : Nat := mkN (fun k => isG (kd k)) n
theorem mkN_bit (f : Nat → Bool) (k : Nat) : ∀ n, (mkN f n).testBit k = (decide (k < n) && f k)
  | 0 => by simp [mkN]
  | n + 1 => by
    have ih := mkN_bit f k n
    simp only [mkN]
    by_cases h : f n = true
    · rw [if_pos h, Nat.testBit_or, ih, Nat.testBit_two_pow]
      by_cases hk : n = k
      · subst hk
        simp [h]
      · have e : decide (k < n + 1) = decide (k < n) := decide_eq_decide.mpr (by omega)
        rw [e]
        simp [hk]
    · rw [if_neg h, ih]
      by_cases hk : k = n
      · subst hk
        simp [h]
      · have e : decide (k < n + 1) = decide (k < n) := decide_eq_decide.mpr (by omega)
        rw [e]
theorem pc_cnt : ∀ x, x < 64 → pcN x = cntN (fun k => x.testBit k) 6 := by decide +kernel
theorem cntN_c {f g : Nat → Bool} : ∀ n, (∀ k, k < n → f k = g k) → cntN f n = cntN g n
  | 0, _ => rfl
  | n + 1, h => by
    simp only [cntN]
    rw [cntN_c n (fun k hk => h k (by omega)), h n (by omega)]
theorem cntN_ext (f : Nat → Bool) {n : Nat} : ∀ m, n ≤ m → cntN (fun k => decide (k < n) && f k) m = cntN f n := by
  intro m hm
  induction m with
  | zero =>
    have : n = 0 := by omega
    subst this
    rfl
  | succ m ih =>
    by_cases h : n = m + 1
    · subst h
      exact cntN_c _ (fun k hk => by simp [hk])
    · simp only [cntN]
      rw [ih (by omega)]
      have : ¬ m < n := by omega
      simp [this]
theorem x63 : ∀ i, i < 6 → ∀ k, k < 6 → (63 ^^^ 2 ^ i).testBit k = decide (k ≠ i) := by decide +kernel
theorem oth_eq {kd : Nat → Nat} {n a i : Nat} (hn : n ≤ 6) (ha : a < 64) (hi : i < 6) : cntN (othF kd a i) n = othN a (gaN kd n) i := by
  unfold othN
  rw [pc_cnt _ (and_lt (and_lt ha)), ← cntN_ext (othF kd a i) 6 hn]
  apply cntN_c
  intro k hk
  rw [Nat.testBit_and, Nat.testBit_and, x63 i hi k hk, gaN, mkN_bit]
  unfold othF
  cases decide (k < n) <;> cases decide (k ≠ i) <;> cases isG (kd k) <;> cases a.testBit k <;> rfl
theorem gaN_64 {kd : Nat → Nat} {n : Nat} (h : n ≤ 6) : gaN kd n < 64 := mkN_64 _ h
def mkOk (σ : St) (n : Nat) (kd : Nat → Nat) : Prop := σ.1 63 10 = nI n ∧ n ≤ 6 ∧ (∀ i, i < n → σ.1 71 i = nI (kd i)) ∧ ∀ i, i < n → kd i < 6
theorem mkOk_of {σ σ' : St} {n : Nat} {kd : Nat → Nat} (h : mkOk σ n kd) (h1 : σ'.1 63 10 = σ.1 63 10) (h3 : σ'.1 71 = σ.1 71) : mkOk σ' n kd := by
  unfold mkOk at *
  rw [h1, h3]
  exact h
def ofOk (k : Nat) : Prop := k = 76 ∨ k = 77
theorem ofOk.gam {k : Nat} (h : ofOk k) : Gam[k]? = some (.inl (.int, 11)) := by rcases h with rfl | rfl <;> rfl
theorem ofOk.ne {k : Nat} (h : ofOk k) : 63 ≠ k ∧ 71 ≠ k ∧ 72 ≠ k ∧ 73 ≠ k ∧ 70 ≠ k ∧ k ≠ 63 ∧ k ≠ 71 ∧ k ≠ 72 ∧ k ≠ 73 ∧ k ≠ 70 := by rcases h with rfl | rfl <;> decide
def priceM (k : Nat) (b c : Int32) : Int32 := if k = 2 then (b + c) / 2 else if k = 5 then (if 0 < b + c then b + c - 1 else 0) else b + c
def tkM (σ : St) (kO : Nat) (kd : Nat → Nat) (n a : Nat) : Nat → Bool := tkF kd (σ.1 73) (fun j => σ.1 kO (5 + j)) (σ.1 70 2) (gaN kd n) a
def trM (σ : St) (kO : Nat) (kd : Nat → Nat) (n a : Nat) : Prop := σ.1 70 3 ≤ nI (pcN (mkN (tkM σ kO kd n a) n))
def paM (σ : St) (kO : Nat) (kd : Nat → Nat) (n a : Nat) : St := uI (uI (uI σ kO 3 (σ.1 kO 3 + 1)) kO 4 (if σ.1 70 3 ≤ nI (pcN (mkN (tkM σ kO kd n a) n)) then 1 else 0)) kO 2 (σ.1 kO 2 + if σ.1 70 3 ≤ nI (pcN (mkN (tkM σ kO kd n a) n)) then 0 else sumI (ltA kd (σ.1 72) (gaN kd n) a) n)
def guM (σ : St) (kO : Nat) (kd : Nat → Nat) (a i : Nat) : St := uI (uI σ kO 1 (σ.1 kO 1 + priceM (kd i) (σ.1 70 0) (σ.1 kO (5 + i)))) kO 0 (nI (a &&& (63 ^^^ 2 ^ i)))
end
section
theorem fk_M_36 : fok "TakerBookModel" 36 12 12 := ⟨(R_M, F_M, 40), rfl, by decide, List.mem_of_getElem? (i := 991) (by decide +kernel), rfl⟩
theorem G71 : Gam[71]? = some (.inl (.int, 6)) := rfl
theorem fk_M_146 : fok "TakerBookModel" 146 12 10 := ⟨(R_M, F_M, 40), rfl, by decide, List.mem_of_getElem? (i := 989) (by decide +kernel), rfl⟩
theorem st_M_152 : siteV "TakerBookModel" 152 ⟨"TakerBookModel", "isGang", "(I)Z"⟩ := ⟨List.mem_of_getElem? (i := 1224) (by decide +kernel), List.mem_of_getElem? (i := 1226) (by decide +kernel), List.mem_of_getElem? (i := 40) (by decide +kernel)⟩
theorem st_M_155 : siteS "TakerBookModel" 155 ⟨"TakerBookModel", "has", "(II)Z"⟩ := ⟨List.mem_of_getElem? (i := 1228) (by decide +kernel), List.mem_of_getElem? (i := 1229) (by decide +kernel)⟩
theorem fk_M_39 : fok "TakerBookModel" 39 12 13 := ⟨(R_M, F_M, 40), rfl, by decide, List.mem_of_getElem? (i := 992) (by decide +kernel), rfl⟩
theorem G72 : Gam[72]? = some (.inl (.int, 6)) := rfl
theorem st_M_159 : siteV "TakerBookModel" 159 ⟨"TakerBookModel", "others", "([II)I"⟩ := ⟨List.mem_of_getElem? (i := 1220) (by decide +kernel), List.mem_of_getElem? (i := 1222) (by decide +kernel), List.mem_of_getElem? (i := 39) (by decide +kernel)⟩
theorem fk_M_42 : fok "TakerBookModel" 42 12 14 := ⟨(R_M, F_M, 40), rfl, by decide, List.mem_of_getElem? (i := 993) (by decide +kernel), rfl⟩
theorem G73 : Gam[73]? = some (.inl (.int, 6)) := rfl
theorem fk_M_33 : fok "TakerBookModel" 33 12 11 := ⟨(R_M, F_M, 40), rfl, by decide, List.mem_of_getElem? (i := 990) (by decide +kernel), rfl⟩
theorem G70 : Gam[70]? = some (.inl (.int, 4)) := rfl
theorem st_M_163 : siteS "TakerBookModel" 163 ⟨"TakerBookModel", "isSpeakingBy", "(IIIII)Z"⟩ := ⟨List.mem_of_getElem? (i := 1235) (by decide +kernel), List.mem_of_getElem? (i := 1236) (by decide +kernel)⟩
theorem st_M_167 : siteV "TakerBookModel" 167 ⟨"TakerBookModel", "isSpeaking", "([II)Z"⟩ := ⟨List.mem_of_getElem? (i := 1231) (by decide +kernel), List.mem_of_getElem? (i := 1233) (by decide +kernel), List.mem_of_getElem? (i := 41) (by decide +kernel)⟩
theorem st_M_171 : siteV "TakerBookModel" 171 ⟨"TakerBookModel", "speakers", "([I)I"⟩ := ⟨List.mem_of_getElem? (i := 1246) (by decide +kernel), List.mem_of_getElem? (i := 1248) (by decide +kernel), List.mem_of_getElem? (i := 43) (by decide +kernel)⟩
theorem st_M_175 : siteS "TakerBookModel" 175 ⟨"TakerBookModel", "bits", "(I)I"⟩ := ⟨List.mem_of_getElem? (i := 1250) (by decide +kernel), List.mem_of_getElem? (i := 1251) (by decide +kernel)⟩
theorem st_M_178 : siteV "TakerBookModel" 178 ⟨"TakerBookModel", "steals", "([II)I"⟩ := ⟨List.mem_of_getElem? (i := 1216) (by decide +kernel), List.mem_of_getElem? (i := 1218) (by decide +kernel), List.mem_of_getElem? (i := 38) (by decide +kernel)⟩
theorem st_M_181 : siteV "TakerBookModel" 181 ⟨"TakerBookModel", "isTrial", "([I)Z"⟩ := ⟨List.mem_of_getElem? (i := 1269) (by decide +kernel), List.mem_of_getElem? (i := 1271) (by decide +kernel), List.mem_of_getElem? (i := 47) (by decide +kernel)⟩
theorem st_M_185 : siteV "TakerBookModel" 185 ⟨"TakerBookModel", "loot", "([I)I"⟩ := ⟨List.mem_of_getElem? (i := 1273) (by decide +kernel), List.mem_of_getElem? (i := 1275) (by decide +kernel), List.mem_of_getElem? (i := 48) (by decide +kernel)⟩
theorem st_M_188 : siteV "TakerBookModel" 188 ⟨"TakerBookModel", "headOf", "([II)I"⟩ := ⟨List.mem_of_getElem? (i := 1238) (by decide +kernel), List.mem_of_getElem? (i := 1240) (by decide +kernel), List.mem_of_getElem? (i := 42) (by decide +kernel)⟩
theorem kb_11 : (Int8.ofInt 11).toInt32 = (11 : Int32) := by decide
theorem fk_M_54 : fok "TakerBookModel" 54 12 21 := ⟨(R_M, F_M, 40), rfl, by decide, List.mem_of_getElem? (i := 1000) (by decide +kernel), rfl⟩
theorem fk_M_51 : fok "TakerBookModel" 51 12 20 := ⟨(R_M, F_M, 40), rfl, by decide, List.mem_of_getElem? (i := 999) (by decide +kernel), rfl⟩
theorem G76 : Gam[76]? = some (.inl (.int, 11)) := rfl
theorem G77 : Gam[77]? = some (.inl (.int, 11)) := rfl
abbrev b_M_isGang : ByteArray := prog_14_method_33_code
abbrev y_M_isGang : MethodName := ⟨"TakerBookModel", "isGang", "(I)Z"⟩
theorem d_M_isGang_0 : decode b_M_isGang 0 = .ok (.aload_n 0, 1) := by decide +kernel
theorem d_M_isGang_1 : decode b_M_isGang 1 = .ok (.getfield 36, 3) := by decide +kernel
theorem d_M_isGang_4 : decode b_M_isGang 4 = .ok (.iload_n 1, 1) := by decide +kernel
theorem d_M_isGang_5 : decode b_M_isGang 5 = .ok (.iaload, 1) := by decide +kernel
theorem d_M_isGang_6 : decode b_M_isGang 6 = .ok (.iconst 3, 1) := by decide +kernel
theorem d_M_isGang_7 : decode b_M_isGang 7 = .ok (.if_icmp .eq 13, 3) := by decide +kernel
theorem d_M_isGang_10 : decode b_M_isGang 10 = .ok (.aload_n 0, 1) := by decide +kernel
theorem d_M_isGang_11 : decode b_M_isGang 11 = .ok (.getfield 36, 3) := by decide +kernel
theorem d_M_isGang_14 : decode b_M_isGang 14 = .ok (.iload_n 1, 1) := by decide +kernel
theorem d_M_isGang_15 : decode b_M_isGang 15 = .ok (.iaload, 1) := by decide +kernel
theorem d_M_isGang_16 : decode b_M_isGang 16 = .ok (.iconst 5, 1) := by decide +kernel
theorem d_M_isGang_17 : decode b_M_isGang 17 = .ok (.if_icmp .ne 7, 3) := by decide +kernel
theorem d_M_isGang_20 : decode b_M_isGang 20 = .ok (.iconst 1, 1) := by decide +kernel
theorem d_M_isGang_21 : decode b_M_isGang 21 = .ok (.goto 4, 3) := by decide +kernel
theorem d_M_isGang_24 : decode b_M_isGang 24 = .ok (.iconst 0, 1) := by decide +kernel
theorem d_M_isGang_25 : decode b_M_isGang 25 = .ok (.ireturn, 1) := by decide +kernel
theorem mo_M_isGang : mok y_M_isGang b_M_isGang 2 (some .boolean) 1 := ⟨List.mem_of_getElem? (i := 1227) (by decide +kernel), ⟨by decide +kernel, by decide +kernel, by decide +kernel⟩, List.mem_of_getElem? (i := 86) (by decide +kernel), by decide⟩
set_option maxHeartbeats 4000000 in
theorem c_M_isGang (l : Launch) (u : Un) (hA : Ap u) (σ : St) {n : Nat} {kd : Nat → Nat} (hb : mkOk σ n kd) (i : Nat) (hi : i < n) : MTi l u y_M_isGang b_M_isGang 2 .boolean 0 [.ref (u.2.1 63), .int (nI i)] σ (fun ans σ' => bI (isG (kd i) = true) = ans ∧ σ = σ') := by
  refine MT_of hA rfl (by decide) (Nat.le_of_ble_eq_true rfl) (fun X hl F hr => ?_)
  subst hl
  refine v_to (ls' := [(0, .ref (u.2.1 63)), (1, .int (nI i))]) rfl ?_
  obtain ⟨hn, hn6, hkd, hk6⟩ := id hb
  have hki := hk6 i hi
  refine v_aload_n F d_M_isGang_0 rfl 0 rfl ?_
  refine v_getr (r := 71) F fk_M_36 G63 rfl d_M_isGang_1 ?_
  refine v_iload_n F d_M_isGang_4 rfl 1 rfl ?_
  refine v_ial F i G71 rfl (by omega) d_M_isGang_5 ?_
  refine v_te (y := nI (kd i)) (hkd _ (by omega)) ?_
  refine v_iconst (v := 3) F d_M_isGang_6 ki_3 ?_
  refine v_icmp_eq F 20 d_M_isGang_7 rfl (fun h7 => ?_) (fun h7 => ?_)
  · skip
    have h7 : kd i = 3 := (nI_eq (a := kd i) (b := 3) (by omega) (by omega)).mp h7
    refine v_iconst (v := 1) F d_M_isGang_20 ki_1 ?_
    refine v_goto F 25 d_M_isGang_21 rfl ?_
    refine v_iret F hr rfl d_M_isGang_25 ?_
    exact ⟨bI_t (by simp_all [isG]), rfl⟩
  · skip
    have h7 : ¬ kd i = 3 := fun q => h7 ((nI_eq (a := kd i) (b := 3) (by omega) (by omega)).mpr q)
    refine v_aload_n F d_M_isGang_10 rfl 0 rfl ?_
    refine v_getr (r := 71) F fk_M_36 G63 rfl d_M_isGang_11 ?_
    refine v_iload_n F d_M_isGang_14 rfl 1 rfl ?_
    refine v_ial F i G71 rfl (by omega) d_M_isGang_15 ?_
    refine v_te (y := nI (kd i)) (hkd _ (by omega)) ?_
    refine v_iconst (v := 5) F d_M_isGang_16 ki_5 ?_
    refine v_icmp_ne F 24 d_M_isGang_17 rfl (fun h17 => ?_) (fun h17 => ?_)
    · skip
      have h17 : ¬ kd i = 5 := fun q => h17 ((nI_eq (a := kd i) (b := 5) (by omega) (by omega)).mpr q)
      refine v_iconst (v := 0) F d_M_isGang_24 ki_0 ?_
      refine v_iret F hr rfl d_M_isGang_25 ?_
      exact ⟨bI_f (by simp_all [isG]), rfl⟩
    · skip
      have h17 : kd i = 5 := (nI_eq (a := kd i) (b := 5) (by omega) (by omega)).mp h17
      refine v_iconst (v := 1) F d_M_isGang_20 ki_1 ?_
      refine v_goto F 25 d_M_isGang_21 rfl ?_
      refine v_iret F hr rfl d_M_isGang_25 ?_
      exact ⟨bI_t (by simp_all [isG]), rfl⟩
abbrev b_M_others : ByteArray := prog_14_method_34_code
abbrev y_M_others : MethodName := ⟨"TakerBookModel", "others", "([II)I"⟩
theorem d_M_others_0 : decode b_M_others 0 = .ok (.iconst 0, 1) := by decide +kernel
theorem d_M_others_1 : decode b_M_others 1 = .ok (.istore_n 3, 1) := by decide +kernel
theorem d_M_others_2 : decode b_M_others 2 = .ok (.iconst 0, 1) := by decide +kernel
theorem d_M_others_3 : decode b_M_others 3 = .ok (.istore 4, 2) := by decide +kernel
theorem d_M_others_5 : decode b_M_others 5 = .ok (.iload 4, 2) := by decide +kernel
theorem d_M_others_7 : decode b_M_others 7 = .ok (.aload_n 0, 1) := by decide +kernel
theorem d_M_others_8 : decode b_M_others 8 = .ok (.getfield 146, 3) := by decide +kernel
theorem d_M_others_11 : decode b_M_others 11 = .ok (.if_icmp .ge 43, 3) := by decide +kernel
theorem d_M_others_14 : decode b_M_others 14 = .ok (.iload_n 3, 1) := by decide +kernel
theorem d_M_others_15 : decode b_M_others 15 = .ok (.iload 4, 2) := by decide +kernel
theorem d_M_others_17 : decode b_M_others 17 = .ok (.iload_n 2, 1) := by decide +kernel
theorem d_M_others_18 : decode b_M_others 18 = .ok (.if_icmp .eq 27, 3) := by decide +kernel
theorem d_M_others_21 : decode b_M_others 21 = .ok (.aload_n 0, 1) := by decide +kernel
theorem d_M_others_22 : decode b_M_others 22 = .ok (.iload 4, 2) := by decide +kernel
theorem d_M_others_24 : decode b_M_others 24 = .ok (.invokevirtual 152, 3) := by decide +kernel
theorem d_M_others_27 : decode b_M_others 27 = .ok (.ifCond .eq 18, 3) := by decide +kernel
theorem d_M_others_30 : decode b_M_others 30 = .ok (.aload_n 1, 1) := by decide +kernel
theorem d_M_others_31 : decode b_M_others 31 = .ok (.iconst 0, 1) := by decide +kernel
theorem d_M_others_32 : decode b_M_others 32 = .ok (.iaload, 1) := by decide +kernel
theorem d_M_others_33 : decode b_M_others 33 = .ok (.iload 4, 2) := by decide +kernel
theorem d_M_others_35 : decode b_M_others 35 = .ok (.invokestatic 155, 3) := by decide +kernel
theorem d_M_others_38 : decode b_M_others 38 = .ok (.ifCond .eq 7, 3) := by decide +kernel
theorem d_M_others_41 : decode b_M_others 41 = .ok (.iconst 1, 1) := by decide +kernel
theorem d_M_others_42 : decode b_M_others 42 = .ok (.goto 4, 3) := by decide +kernel
theorem d_M_others_45 : decode b_M_others 45 = .ok (.iconst 0, 1) := by decide +kernel
theorem d_M_others_46 : decode b_M_others 46 = .ok (.iadd, 1) := by decide +kernel
theorem d_M_others_47 : decode b_M_others 47 = .ok (.istore_n 3, 1) := by decide +kernel
theorem d_M_others_48 : decode b_M_others 48 = .ok (.iinc 4 1, 3) := by decide +kernel
theorem d_M_others_51 : decode b_M_others 51 = .ok (.goto (-46), 3) := by decide +kernel
theorem d_M_others_54 : decode b_M_others 54 = .ok (.iload_n 3, 1) := by decide +kernel
theorem d_M_others_55 : decode b_M_others 55 = .ok (.ireturn, 1) := by decide +kernel
theorem mo_M_others : mok y_M_others b_M_others 5 (some .int) 2 := ⟨List.mem_of_getElem? (i := 1223) (by decide +kernel), ⟨by decide +kernel, by decide +kernel, by decide +kernel⟩, List.mem_of_getElem? (i := 86) (by decide +kernel), by decide⟩
set_option maxHeartbeats 4000000 in
theorem L_M_others_5 {X : FX} {u : Un} (hA : Ap u) {Q : State → Prop} (F : Fr X u "TakerBookModel" b_M_others 5) {σ : St} {n : Nat} {kd : Nat → Nat} (hb : mkOk σ n kd) {kO a : Nat} (hO : ofOk kO) (ha : a < 64) (h0 : σ.1 kO 0 = nI a) {i : Nat} (hi : i < 6) (k : V X u 1 5 Q 54 [(0, .ref (u.2.1 63)), (1, .ref (u.2.1 kO)), (2, .int (nI i)), (3, .int (nI (cntN (othF kd a i) n))), (4, .int (nI n))] [] (σ)) : ∀ (nn k : Nat), k ≤ n → n - k < nn → V X u 1 5 Q 5 [(0, .ref (u.2.1 63)), (1, .ref (u.2.1 kO)), (2, .int (nI i)), (3, .int (nI (cntN (othF kd a i) k))), (4, .int (nI k))] [] (σ) := by
  intro nn
  induction nn with
  | zero =>
    intro k h1 h2
    exact absurd h2 (Nat.not_lt_zero _)
  | succ nn ih =>
    intro k hii hnn
    obtain ⟨hn, hn6, hkd, hk6⟩ := id hb
    refine v_iload F d_M_others_5 4 rfl ?_
    refine v_aload_n F d_M_others_7 rfl 0 rfl ?_
    refine v_geti F fk_M_146 G63 rfl d_M_others_8 ?_
    refine v_te (y := nI n) hn ?_
    refine v_icmp_ge F 54 d_M_others_11 rfl (fun h11 => ?_) (fun h11 => ?_)
    · skip
      have h11 : n ≤ k := (nI_leI (a := n) (b := k) (by omega) (by omega)).mp h11
      have he : k = n := by omega
      subst he
      exact k
    · skip
      have h11 : ¬ n ≤ k := fun q => h11 ((nI_leI (a := n) (b := k) (by omega) (by omega)).mpr q)
      refine v_iload_n F d_M_others_14 rfl 3 rfl ?_
      refine v_iload F d_M_others_15 4 rfl ?_
      refine v_iload_n F d_M_others_17 rfl 2 rfl ?_
      refine v_icmp_eq F 45 d_M_others_18 rfl (fun h18 => ?_) (fun h18 => ?_)
      · skip
        have h18 : k = i := (nI_eq (a := k) (b := i) (by omega) (by omega)).mp h18
        refine v_iconst (v := 0) F d_M_others_45 ki_0 ?_
        refine v_iadd F d_M_others_46 ?_
        refine v_te (y := nI (cntN (othF kd a i) k + 0)) (nI_add _ _) ?_
        refine v_istore_n (ls' := [(3, .int (nI (cntN (othF kd a i) k + 0))), (0, .ref (u.2.1 63)), (1, .ref (u.2.1 kO)), (2, .int (nI i)), (4, .int (nI k))]) F d_M_others_47 rfl (by decide) rfl ?_
        refine v_iinc (v := nI (k + 1)) (ls' := [(4, .int (nI (k + 1))), (3, .int (nI (cntN (othF kd a i) k + 0))), (0, .ref (u.2.1 63)), (1, .ref (u.2.1 kO)), (2, .int (nI i))]) F d_M_others_48 (j := 4) rfl (nI_inc _) (by decide) rfl ?_
        refine v_goto F 5 d_M_others_51 rfl ?_
        refine v_sub [2, 3, 4, 1, 0] (ls' := [(0, .ref (u.2.1 63)), (1, .ref (u.2.1 kO)), (2, .int (nI i)), (3, .int (nI (cntN (othF kd a i) k + 0))), (4, .int (nI (k + 1)))]) rfl ?_
        have g1 : (nI (cntN (othF kd a i) k + 0)) = (nI (cntN (othF kd a i) (k + 1))) := (by first | rfl | (simp [cntN, othF, *]; done) | (simp_all [cntN, othF]; done) | grind [cntN, othF])
        refine v_to (ls' := [(0, .ref (u.2.1 63)), (1, .ref (u.2.1 kO)), (2, .int (nI i)), (3, .int (nI (cntN (othF kd a i) (k + 1)))), (4, .int (nI (k + 1)))]) (by first | rfl | rw [g1] | simp_all) ?_
        exact ih (k + 1) (by omega) (by omega)
      · skip
        have h18 : ¬ k = i := fun q => h18 ((nI_eq (a := k) (b := i) (by omega) (by omega)).mpr q)
        refine v_aload_n F d_M_others_21 rfl 0 rfl ?_
        refine v_iload F d_M_others_22 4 rfl ?_
        refine v_runi (r_V F (c_M_isGang X.2.1 u hA σ hb k (by omega)) mo_M_isGang st_M_152 rc_63 (by decide) rfl (Nat.le_of_ble_eq_true rfl) d_M_others_24) (fun r2 σ3 q4 => ?_)
        obtain ⟨rfl, rfl⟩ := q4
        refine v_bt F 45 d_M_others_27 rfl (fun h27 => ?_) (fun h27 => ?_)
        · skip
          refine v_iconst (v := 0) F d_M_others_45 ki_0 ?_
          refine v_iadd F d_M_others_46 ?_
          refine v_te (y := nI (cntN (othF kd a i) k + 0)) (nI_add _ _) ?_
          refine v_istore_n (ls' := [(3, .int (nI (cntN (othF kd a i) k + 0))), (0, .ref (u.2.1 63)), (1, .ref (u.2.1 kO)), (2, .int (nI i)), (4, .int (nI k))]) F d_M_others_47 rfl (by decide) rfl ?_
          refine v_iinc (v := nI (k + 1)) (ls' := [(4, .int (nI (k + 1))), (3, .int (nI (cntN (othF kd a i) k + 0))), (0, .ref (u.2.1 63)), (1, .ref (u.2.1 kO)), (2, .int (nI i))]) F d_M_others_48 (j := 4) rfl (nI_inc _) (by decide) rfl ?_
          refine v_goto F 5 d_M_others_51 rfl ?_
          refine v_sub [2, 3, 4, 1, 0] (ls' := [(0, .ref (u.2.1 63)), (1, .ref (u.2.1 kO)), (2, .int (nI i)), (3, .int (nI (cntN (othF kd a i) k + 0))), (4, .int (nI (k + 1)))]) rfl ?_
          have g5 : (nI (cntN (othF kd a i) k + 0)) = (nI (cntN (othF kd a i) (k + 1))) := (by first | rfl | (simp [cntN, othF, *]; done) | (simp_all [cntN, othF]; done) | grind [cntN, othF])
          refine v_to (ls' := [(0, .ref (u.2.1 63)), (1, .ref (u.2.1 kO)), (2, .int (nI i)), (3, .int (nI (cntN (othF kd a i) (k + 1)))), (4, .int (nI (k + 1)))]) (by first | rfl | rw [g5] | simp_all) ?_
          exact ih (k + 1) (by omega) (by omega)
        · skip
          refine v_aload_n F d_M_others_30 rfl 1 rfl ?_
          refine v_iconst (v := 0) F d_M_others_31 ki_0 ?_
          refine v_ial F 0 hO.gam rfl (by omega) d_M_others_32 ?_
          refine v_te (y := nI a) h0 ?_
          refine v_iload F d_M_others_33 4 rfl ?_
          refine v_runi (r_S F (c_M_has2 X.2.1 u hA σ k a (by omega) (by omega)) mo_M_has st_M_155 (by decide) rfl (Nat.le_of_ble_eq_true rfl) d_M_others_35) (fun r6 σ7 q8 => ?_)
          obtain ⟨rfl, rfl⟩ := q8
          refine v_bt F 45 d_M_others_38 rfl (fun h38 => ?_) (fun h38 => ?_)
          · skip
            refine v_iconst (v := 0) F d_M_others_45 ki_0 ?_
            refine v_iadd F d_M_others_46 ?_
            refine v_te (y := nI (cntN (othF kd a i) k + 0)) (nI_add _ _) ?_
            refine v_istore_n (ls' := [(3, .int (nI (cntN (othF kd a i) k + 0))), (0, .ref (u.2.1 63)), (1, .ref (u.2.1 kO)), (2, .int (nI i)), (4, .int (nI k))]) F d_M_others_47 rfl (by decide) rfl ?_
            refine v_iinc (v := nI (k + 1)) (ls' := [(4, .int (nI (k + 1))), (3, .int (nI (cntN (othF kd a i) k + 0))), (0, .ref (u.2.1 63)), (1, .ref (u.2.1 kO)), (2, .int (nI i))]) F d_M_others_48 (j := 4) rfl (nI_inc _) (by decide) rfl ?_
            refine v_goto F 5 d_M_others_51 rfl ?_
            refine v_sub [2, 3, 4, 1, 0] (ls' := [(0, .ref (u.2.1 63)), (1, .ref (u.2.1 kO)), (2, .int (nI i)), (3, .int (nI (cntN (othF kd a i) k + 0))), (4, .int (nI (k + 1)))]) rfl ?_
            have g9 : (nI (cntN (othF kd a i) k + 0)) = (nI (cntN (othF kd a i) (k + 1))) := (by first | rfl | (simp [cntN, othF, *]; done) | (simp_all [cntN, othF]; done) | grind [cntN, othF])
            refine v_to (ls' := [(0, .ref (u.2.1 63)), (1, .ref (u.2.1 kO)), (2, .int (nI i)), (3, .int (nI (cntN (othF kd a i) (k + 1)))), (4, .int (nI (k + 1)))]) (by first | rfl | rw [g9] | simp_all) ?_
            exact ih (k + 1) (by omega) (by omega)
          · skip
            refine v_iconst (v := 1) F d_M_others_41 ki_1 ?_
            refine v_goto F 46 d_M_others_42 rfl ?_
            refine v_iadd F d_M_others_46 ?_
            refine v_te (y := nI (cntN (othF kd a i) k + 1)) (nI_add _ _) ?_
            refine v_istore_n (ls' := [(3, .int (nI (cntN (othF kd a i) k + 1))), (0, .ref (u.2.1 63)), (1, .ref (u.2.1 kO)), (2, .int (nI i)), (4, .int (nI k))]) F d_M_others_47 rfl (by decide) rfl ?_
            refine v_iinc (v := nI (k + 1)) (ls' := [(4, .int (nI (k + 1))), (3, .int (nI (cntN (othF kd a i) k + 1))), (0, .ref (u.2.1 63)), (1, .ref (u.2.1 kO)), (2, .int (nI i))]) F d_M_others_48 (j := 4) rfl (nI_inc _) (by decide) rfl ?_
            refine v_goto F 5 d_M_others_51 rfl ?_
            refine v_sub [2, 3, 4, 1, 0] (ls' := [(0, .ref (u.2.1 63)), (1, .ref (u.2.1 kO)), (2, .int (nI i)), (3, .int (nI (cntN (othF kd a i) k + 1))), (4, .int (nI (k + 1)))]) rfl ?_
            have g10 : (nI (cntN (othF kd a i) k + 1)) = (nI (cntN (othF kd a i) (k + 1))) := (by first | rfl | (simp [cntN, othF, *]; done) | (simp_all [cntN, othF]; done) | grind [cntN, othF])
            refine v_to (ls' := [(0, .ref (u.2.1 63)), (1, .ref (u.2.1 kO)), (2, .int (nI i)), (3, .int (nI (cntN (othF kd a i) (k + 1)))), (4, .int (nI (k + 1)))]) (by first | rfl | rw [g10] | simp_all) ?_
            exact ih (k + 1) (by omega) (by omega)
set_option maxHeartbeats 4000000 in
theorem c_M_others (l : Launch) (u : Un) (hA : Ap u) (σ : St) {n : Nat} {kd : Nat → Nat} (hb : mkOk σ n kd) {kO a : Nat} (hO : ofOk kO) (ha : a < 64) (h0 : σ.1 kO 0 = nI a) (i : Nat) (hi : i < 6) : MTi l u y_M_others b_M_others 5 .int 1 [.ref (u.2.1 63), .ref (u.2.1 kO), .int (nI i)] σ (fun ans σ' => nI (othN a (gaN kd n) i) = ans ∧ σ = σ') := by
  refine MT_of hA rfl (by decide) (Nat.le_of_ble_eq_true rfl) (fun X hl F hr => ?_)
  subst hl
  refine v_to (ls' := [(0, .ref (u.2.1 63)), (1, .ref (u.2.1 kO)), (2, .int (nI i))]) rfl ?_
  obtain ⟨hn, hn6, hkd, hk6⟩ := id hb
  refine v_iconst (v := 0) F d_M_others_0 ki_0 ?_
  refine v_istore_n (ls' := [(3, .int 0), (0, .ref (u.2.1 63)), (1, .ref (u.2.1 kO)), (2, .int (nI i))]) F d_M_others_1 rfl (by decide) rfl ?_
  refine v_iconst (v := 0) F d_M_others_2 ki_0 ?_
  refine v_istore (ls' := [(4, .int 0), (3, .int 0), (0, .ref (u.2.1 63)), (1, .ref (u.2.1 kO)), (2, .int (nI i))]) F d_M_others_3 (by decide) rfl ?_
  refine v_sub [2, 3, 4, 1, 0] (ls' := [(0, .ref (u.2.1 63)), (1, .ref (u.2.1 kO)), (2, .int (nI i)), (3, .int 0), (4, .int 0)]) rfl ?_
  have g1 : 0 = (nI (cntN (othF kd a i) 0)) := (by first | rfl | (simp [cntN, othF, *]; done) | (simp_all [cntN, othF]; done) | grind [cntN, othF])
  have g2 : 0 = (nI 0) := (by first | rfl | (simp [cntN, othF, *]; done) | (simp_all [cntN, othF]; done) | grind [cntN, othF])
  refine v_to (ls' := [(0, .ref (u.2.1 63)), (1, .ref (u.2.1 kO)), (2, .int (nI i)), (3, .int (nI (cntN (othF kd a i) 0))), (4, .int (nI 0))]) (by first | rfl | rw [g1, g2] | simp_all) ?_
  refine L_M_others_5 hA F hb hO ha h0 hi ?_ _ 0 (Nat.zero_le _) (Nat.lt_succ_self _)
  refine v_iload_n F d_M_others_54 rfl 3 rfl ?_
  refine v_iret F hr rfl d_M_others_55 ?_
  exact ⟨by rw [oth_eq hn6 ha hi], rfl⟩
abbrev b_M_steals : ByteArray := prog_14_method_35_code
abbrev y_M_steals : MethodName := ⟨"TakerBookModel", "steals", "([II)I"⟩
theorem d_M_steals_0 : decode b_M_steals 0 = .ok (.aload_n 0, 1) := by decide +kernel
theorem d_M_steals_1 : decode b_M_steals 1 = .ok (.getfield 36, 3) := by decide +kernel
theorem d_M_steals_4 : decode b_M_steals 4 = .ok (.iload_n 2, 1) := by decide +kernel
theorem d_M_steals_5 : decode b_M_steals 5 = .ok (.iaload, 1) := by decide +kernel
theorem d_M_steals_6 : decode b_M_steals 6 = .ok (.tableswitch 82 1 5 #[34, 43, 52, 34, 66], 34) := by decide +kernel
theorem d_M_steals_40 : decode b_M_steals 40 = .ok (.aload_n 0, 1) := by decide +kernel
theorem d_M_steals_41 : decode b_M_steals 41 = .ok (.getfield 39, 3) := by decide +kernel
theorem d_M_steals_44 : decode b_M_steals 44 = .ok (.iload_n 2, 1) := by decide +kernel
theorem d_M_steals_45 : decode b_M_steals 45 = .ok (.iaload, 1) := by decide +kernel
theorem d_M_steals_46 : decode b_M_steals 46 = .ok (.iconst 1, 1) := by decide +kernel
theorem d_M_steals_47 : decode b_M_steals 47 = .ok (.iadd, 1) := by decide +kernel
theorem d_M_steals_48 : decode b_M_steals 48 = .ok (.ireturn, 1) := by decide +kernel
theorem d_M_steals_49 : decode b_M_steals 49 = .ok (.aload_n 0, 1) := by decide +kernel
theorem d_M_steals_50 : decode b_M_steals 50 = .ok (.getfield 39, 3) := by decide +kernel
theorem d_M_steals_53 : decode b_M_steals 53 = .ok (.iload_n 2, 1) := by decide +kernel
theorem d_M_steals_54 : decode b_M_steals 54 = .ok (.iaload, 1) := by decide +kernel
theorem d_M_steals_55 : decode b_M_steals 55 = .ok (.iconst 2, 1) := by decide +kernel
theorem d_M_steals_56 : decode b_M_steals 56 = .ok (.idiv, 1) := by decide +kernel
theorem d_M_steals_57 : decode b_M_steals 57 = .ok (.ireturn, 1) := by decide +kernel
theorem d_M_steals_58 : decode b_M_steals 58 = .ok (.aload_n 0, 1) := by decide +kernel
theorem d_M_steals_59 : decode b_M_steals 59 = .ok (.getfield 39, 3) := by decide +kernel
theorem d_M_steals_62 : decode b_M_steals 62 = .ok (.iload_n 2, 1) := by decide +kernel
theorem d_M_steals_63 : decode b_M_steals 63 = .ok (.iaload, 1) := by decide +kernel
theorem d_M_steals_64 : decode b_M_steals 64 = .ok (.aload_n 0, 1) := by decide +kernel
theorem d_M_steals_65 : decode b_M_steals 65 = .ok (.aload_n 1, 1) := by decide +kernel
theorem d_M_steals_66 : decode b_M_steals 66 = .ok (.iload_n 2, 1) := by decide +kernel
theorem d_M_steals_67 : decode b_M_steals 67 = .ok (.invokevirtual 159, 3) := by decide +kernel
theorem d_M_steals_70 : decode b_M_steals 70 = .ok (.iadd, 1) := by decide +kernel
theorem d_M_steals_71 : decode b_M_steals 71 = .ok (.ireturn, 1) := by decide +kernel
theorem d_M_steals_72 : decode b_M_steals 72 = .ok (.aload_n 0, 1) := by decide +kernel
theorem d_M_steals_73 : decode b_M_steals 73 = .ok (.getfield 39, 3) := by decide +kernel
theorem d_M_steals_76 : decode b_M_steals 76 = .ok (.iload_n 2, 1) := by decide +kernel
theorem d_M_steals_77 : decode b_M_steals 77 = .ok (.iaload, 1) := by decide +kernel
theorem d_M_steals_78 : decode b_M_steals 78 = .ok (.aload_n 0, 1) := by decide +kernel
theorem d_M_steals_79 : decode b_M_steals 79 = .ok (.aload_n 1, 1) := by decide +kernel
theorem d_M_steals_80 : decode b_M_steals 80 = .ok (.iload_n 2, 1) := by decide +kernel
theorem d_M_steals_81 : decode b_M_steals 81 = .ok (.invokevirtual 159, 3) := by decide +kernel
theorem d_M_steals_84 : decode b_M_steals 84 = .ok (.iadd, 1) := by decide +kernel
theorem d_M_steals_85 : decode b_M_steals 85 = .ok (.iconst 2, 1) := by decide +kernel
theorem d_M_steals_86 : decode b_M_steals 86 = .ok (.idiv, 1) := by decide +kernel
theorem d_M_steals_87 : decode b_M_steals 87 = .ok (.ireturn, 1) := by decide +kernel
theorem d_M_steals_88 : decode b_M_steals 88 = .ok (.aload_n 0, 1) := by decide +kernel
theorem d_M_steals_89 : decode b_M_steals 89 = .ok (.getfield 39, 3) := by decide +kernel
theorem d_M_steals_92 : decode b_M_steals 92 = .ok (.iload_n 2, 1) := by decide +kernel
theorem d_M_steals_93 : decode b_M_steals 93 = .ok (.iaload, 1) := by decide +kernel
theorem d_M_steals_94 : decode b_M_steals 94 = .ok (.ireturn, 1) := by decide +kernel
theorem mo_M_steals : mok y_M_steals b_M_steals 3 (some .int) 2 := ⟨List.mem_of_getElem? (i := 1219) (by decide +kernel), ⟨by decide +kernel, by decide +kernel, by decide +kernel⟩, List.mem_of_getElem? (i := 86) (by decide +kernel), by decide⟩
set_option maxHeartbeats 4000000 in
theorem c_M_steals (l : Launch) (u : Un) (hA : Ap u) (σ : St) {n : Nat} {kd : Nat → Nat} (hb : mkOk σ n kd) {kO a : Nat} (hO : ofOk kO) (ha : a < 64) (h0 : σ.1 kO 0 = nI a) (i : Nat) (hi : i < n) : MTi l u y_M_steals b_M_steals 3 .int 2 [.ref (u.2.1 63), .ref (u.2.1 kO), .int (nI i)] σ (fun ans σ' => ltF kd (σ.1 72) (gaN kd n) a i = ans ∧ σ = σ') := by
  refine MT_of hA rfl (by decide) (Nat.le_of_ble_eq_true rfl) (fun X hl F hr => ?_)
  subst hl
  refine v_to (ls' := [(0, .ref (u.2.1 63)), (1, .ref (u.2.1 kO)), (2, .int (nI i))]) rfl ?_
  obtain ⟨hn, hn6, hkd, hk6⟩ := id hb
  have hki := hk6 i hi
  refine v_aload_n F d_M_steals_0 rfl 0 rfl ?_
  refine v_getr (r := 71) F fk_M_36 G63 rfl d_M_steals_1 ?_
  refine v_iload_n F d_M_steals_4 rfl 2 rfl ?_
  refine v_ial F i G71 rfl (by omega) d_M_steals_5 ?_
  refine v_te (y := nI (kd i)) (hkd _ (by omega)) ?_
  rcases (show (kd i) = 0 ∨ (kd i) = 1 ∨ (kd i) = 2 ∨ (kd i) = 3 ∨ (kd i) = 4 ∨ (kd i) = 5 from by omega) with hs | hs | hs | hs | hs | hs
  · refine v_te (y := 0) (show nI (kd i) = 0 from by rw [hs]; rfl) ?_
    refine v_tableOut F 88 d_M_steals_6 (by decide) rfl ?_
    refine v_aload_n F d_M_steals_88 rfl 0 rfl ?_
    refine v_getr (r := 72) F fk_M_39 G63 rfl d_M_steals_89 ?_
    refine v_iload_n F d_M_steals_92 rfl 2 rfl ?_
    refine v_ial F i G72 rfl (by omega) d_M_steals_93 ?_
    refine v_iret F hr rfl d_M_steals_94 ?_
    exact ⟨by simp [ltF, lootS, hs], rfl⟩
  · refine v_te (y := 1) (show nI (kd i) = 1 from by rw [hs]; rfl) ?_
    refine v_tableIn (off := 34) F 40 d_M_steals_6 (by decide) (by decide) (by decide) rfl ?_
    refine v_aload_n F d_M_steals_40 rfl 0 rfl ?_
    refine v_getr (r := 72) F fk_M_39 G63 rfl d_M_steals_41 ?_
    refine v_iload_n F d_M_steals_44 rfl 2 rfl ?_
    refine v_ial F i G72 rfl (by omega) d_M_steals_45 ?_
    refine v_iconst (v := 1) F d_M_steals_46 ki_1 ?_
    refine v_iadd F d_M_steals_47 ?_
    refine v_iret F hr rfl d_M_steals_48 ?_
    exact ⟨by simp [ltF, lootS, hs], rfl⟩
  · refine v_te (y := 2) (show nI (kd i) = 2 from by rw [hs]; rfl) ?_
    refine v_tableIn (off := 43) F 49 d_M_steals_6 (by decide) (by decide) (by decide) rfl ?_
    refine v_aload_n F d_M_steals_49 rfl 0 rfl ?_
    refine v_getr (r := 72) F fk_M_39 G63 rfl d_M_steals_50 ?_
    refine v_iload_n F d_M_steals_53 rfl 2 rfl ?_
    refine v_ial F i G72 rfl (by omega) d_M_steals_54 ?_
    refine v_iconst (v := 2) F d_M_steals_55 ki_2 ?_
    refine v_idiv F d_M_steals_56 (by decide) ?_
    refine v_iret F hr rfl d_M_steals_57 ?_
    exact ⟨by simp [ltF, lootS, hs], rfl⟩
  · refine v_te (y := 3) (show nI (kd i) = 3 from by rw [hs]; rfl) ?_
    refine v_tableIn (off := 52) F 58 d_M_steals_6 (by decide) (by decide) (by decide) rfl ?_
    refine v_aload_n F d_M_steals_58 rfl 0 rfl ?_
    refine v_getr (r := 72) F fk_M_39 G63 rfl d_M_steals_59 ?_
    refine v_iload_n F d_M_steals_62 rfl 2 rfl ?_
    refine v_ial F i G72 rfl (by omega) d_M_steals_63 ?_
    refine v_aload_n F d_M_steals_64 rfl 0 rfl ?_
    refine v_aload_n F d_M_steals_65 rfl 1 rfl ?_
    refine v_iload_n F d_M_steals_66 rfl 2 rfl ?_
    refine v_runi (r_V F (c_M_others X.2.1 u hA σ hb (kO := kO) hO (by omega) h0 i (by omega)) mo_M_others st_M_159 rc_63 (by decide) rfl (Nat.le_of_ble_eq_true rfl) d_M_steals_67) (fun r1 σ2 q3 => ?_)
    obtain ⟨rfl, rfl⟩ := q3
    refine v_iadd F d_M_steals_70 ?_
    refine v_iret F hr rfl d_M_steals_71 ?_
    exact ⟨by simp [ltF, lootS, hs], rfl⟩
  · refine v_te (y := 4) (show nI (kd i) = 4 from by rw [hs]; rfl) ?_
    refine v_tableIn (off := 34) F 40 d_M_steals_6 (by decide) (by decide) (by decide) rfl ?_
    refine v_aload_n F d_M_steals_40 rfl 0 rfl ?_
    refine v_getr (r := 72) F fk_M_39 G63 rfl d_M_steals_41 ?_
    refine v_iload_n F d_M_steals_44 rfl 2 rfl ?_
    refine v_ial F i G72 rfl (by omega) d_M_steals_45 ?_
    refine v_iconst (v := 1) F d_M_steals_46 ki_1 ?_
    refine v_iadd F d_M_steals_47 ?_
    refine v_iret F hr rfl d_M_steals_48 ?_
    exact ⟨by simp [ltF, lootS, hs], rfl⟩
  · refine v_te (y := 5) (show nI (kd i) = 5 from by rw [hs]; rfl) ?_
    refine v_tableIn (off := 66) F 72 d_M_steals_6 (by decide) (by decide) (by decide) rfl ?_
    refine v_aload_n F d_M_steals_72 rfl 0 rfl ?_
    refine v_getr (r := 72) F fk_M_39 G63 rfl d_M_steals_73 ?_
    refine v_iload_n F d_M_steals_76 rfl 2 rfl ?_
    refine v_ial F i G72 rfl (by omega) d_M_steals_77 ?_
    refine v_aload_n F d_M_steals_78 rfl 0 rfl ?_
    refine v_aload_n F d_M_steals_79 rfl 1 rfl ?_
    refine v_iload_n F d_M_steals_80 rfl 2 rfl ?_
    refine v_runi (r_V F (c_M_others X.2.1 u hA σ hb (kO := kO) hO (by omega) h0 i (by omega)) mo_M_others st_M_159 rc_63 (by decide) rfl (Nat.le_of_ble_eq_true rfl) d_M_steals_81) (fun r4 σ5 q6 => ?_)
    obtain ⟨rfl, rfl⟩ := q6
    refine v_iadd F d_M_steals_84 ?_
    refine v_iconst (v := 2) F d_M_steals_85 ki_2 ?_
    refine v_idiv F d_M_steals_86 (by decide) ?_
    refine v_iret F hr rfl d_M_steals_87 ?_
    exact ⟨by simp [ltF, lootS, hs], rfl⟩
abbrev b_M_isSpeakingBy : ByteArray := prog_14_method_36_code
abbrev y_M_isSpeakingBy : MethodName := ⟨"TakerBookModel", "isSpeakingBy", "(IIIII)Z"⟩
theorem d_M_isSpeakingBy_0 : decode b_M_isSpeakingBy 0 = .ok (.iload_n 1, 1) := by decide +kernel
theorem d_M_isSpeakingBy_1 : decode b_M_isSpeakingBy 1 = .ok (.iload_n 2, 1) := by decide +kernel
theorem d_M_isSpeakingBy_2 : decode b_M_isSpeakingBy 2 = .ok (.iconst 2, 1) := by decide +kernel
theorem d_M_isSpeakingBy_3 : decode b_M_isSpeakingBy 3 = .ok (.iload_n 3, 1) := by decide +kernel
theorem d_M_isSpeakingBy_4 : decode b_M_isSpeakingBy 4 = .ok (.imul, 1) := by decide +kernel
theorem d_M_isSpeakingBy_5 : decode b_M_isSpeakingBy 5 = .ok (.iadd, 1) := by decide +kernel
theorem d_M_isSpeakingBy_6 : decode b_M_isSpeakingBy 6 = .ok (.if_icmp .le 7, 3) := by decide +kernel
theorem d_M_isSpeakingBy_9 : decode b_M_isSpeakingBy 9 = .ok (.iconst 1, 1) := by decide +kernel
theorem d_M_isSpeakingBy_10 : decode b_M_isSpeakingBy 10 = .ok (.goto 4, 3) := by decide +kernel
theorem d_M_isSpeakingBy_13 : decode b_M_isSpeakingBy 13 = .ok (.iconst 0, 1) := by decide +kernel
theorem d_M_isSpeakingBy_14 : decode b_M_isSpeakingBy 14 = .ok (.istore 5, 2) := by decide +kernel
theorem d_M_isSpeakingBy_16 : decode b_M_isSpeakingBy 16 = .ok (.iload_n 0, 1) := by decide +kernel
theorem d_M_isSpeakingBy_17 : decode b_M_isSpeakingBy 17 = .ok (.tableswitch 103 1 5 #[35, 48, 63, 37, 80], 35) := by decide +kernel
theorem d_M_isSpeakingBy_52 : decode b_M_isSpeakingBy 52 = .ok (.iconst 0, 1) := by decide +kernel
theorem d_M_isSpeakingBy_53 : decode b_M_isSpeakingBy 53 = .ok (.ireturn, 1) := by decide +kernel
theorem d_M_isSpeakingBy_54 : decode b_M_isSpeakingBy 54 = .ok (.iload_n 3, 1) := by decide +kernel
theorem d_M_isSpeakingBy_55 : decode b_M_isSpeakingBy 55 = .ok (.iconst 2, 1) := by decide +kernel
theorem d_M_isSpeakingBy_56 : decode b_M_isSpeakingBy 56 = .ok (.if_icmp .ne 7, 3) := by decide +kernel
theorem d_M_isSpeakingBy_59 : decode b_M_isSpeakingBy 59 = .ok (.iconst 1, 1) := by decide +kernel
theorem d_M_isSpeakingBy_60 : decode b_M_isSpeakingBy 60 = .ok (.goto 4, 3) := by decide +kernel
theorem d_M_isSpeakingBy_63 : decode b_M_isSpeakingBy 63 = .ok (.iconst 0, 1) := by decide +kernel
theorem d_M_isSpeakingBy_64 : decode b_M_isSpeakingBy 64 = .ok (.ireturn, 1) := by decide +kernel
theorem d_M_isSpeakingBy_65 : decode b_M_isSpeakingBy 65 = .ok (.iload 5, 2) := by decide +kernel
theorem d_M_isSpeakingBy_67 : decode b_M_isSpeakingBy 67 = .ok (.ifCond .eq 11, 3) := by decide +kernel
theorem d_M_isSpeakingBy_70 : decode b_M_isSpeakingBy 70 = .ok (.iload_n 3, 1) := by decide +kernel
theorem d_M_isSpeakingBy_71 : decode b_M_isSpeakingBy 71 = .ok (.ifCond .ne 7, 3) := by decide +kernel
theorem d_M_isSpeakingBy_74 : decode b_M_isSpeakingBy 74 = .ok (.iconst 1, 1) := by decide +kernel
theorem d_M_isSpeakingBy_75 : decode b_M_isSpeakingBy 75 = .ok (.goto 4, 3) := by decide +kernel
theorem d_M_isSpeakingBy_78 : decode b_M_isSpeakingBy 78 = .ok (.iconst 0, 1) := by decide +kernel
theorem d_M_isSpeakingBy_79 : decode b_M_isSpeakingBy 79 = .ok (.ireturn, 1) := by decide +kernel
theorem d_M_isSpeakingBy_80 : decode b_M_isSpeakingBy 80 = .ok (.iload 5, 2) := by decide +kernel
theorem d_M_isSpeakingBy_82 : decode b_M_isSpeakingBy 82 = .ok (.ifCond .eq 13, 3) := by decide +kernel
theorem d_M_isSpeakingBy_85 : decode b_M_isSpeakingBy 85 = .ok (.iload 4, 2) := by decide +kernel
theorem d_M_isSpeakingBy_87 : decode b_M_isSpeakingBy 87 = .ok (.iconst 1, 1) := by decide +kernel
theorem d_M_isSpeakingBy_88 : decode b_M_isSpeakingBy 88 = .ok (.if_icmp .gt 7, 3) := by decide +kernel
theorem d_M_isSpeakingBy_91 : decode b_M_isSpeakingBy 91 = .ok (.iconst 1, 1) := by decide +kernel
theorem d_M_isSpeakingBy_92 : decode b_M_isSpeakingBy 92 = .ok (.goto 4, 3) := by decide +kernel
theorem d_M_isSpeakingBy_95 : decode b_M_isSpeakingBy 95 = .ok (.iconst 0, 1) := by decide +kernel
theorem d_M_isSpeakingBy_96 : decode b_M_isSpeakingBy 96 = .ok (.ireturn, 1) := by decide +kernel
theorem d_M_isSpeakingBy_97 : decode b_M_isSpeakingBy 97 = .ok (.iload_n 1, 1) := by decide +kernel
theorem d_M_isSpeakingBy_98 : decode b_M_isSpeakingBy 98 = .ok (.iconst 2, 1) := by decide +kernel
theorem d_M_isSpeakingBy_99 : decode b_M_isSpeakingBy 99 = .ok (.iadd, 1) := by decide +kernel
theorem d_M_isSpeakingBy_100 : decode b_M_isSpeakingBy 100 = .ok (.iload_n 2, 1) := by decide +kernel
theorem d_M_isSpeakingBy_101 : decode b_M_isSpeakingBy 101 = .ok (.iconst 2, 1) := by decide +kernel
theorem d_M_isSpeakingBy_102 : decode b_M_isSpeakingBy 102 = .ok (.iload_n 3, 1) := by decide +kernel
theorem d_M_isSpeakingBy_103 : decode b_M_isSpeakingBy 103 = .ok (.imul, 1) := by decide +kernel
theorem d_M_isSpeakingBy_104 : decode b_M_isSpeakingBy 104 = .ok (.iadd, 1) := by decide +kernel
theorem d_M_isSpeakingBy_105 : decode b_M_isSpeakingBy 105 = .ok (.if_icmp .le 13, 3) := by decide +kernel
theorem d_M_isSpeakingBy_108 : decode b_M_isSpeakingBy 108 = .ok (.iload 4, 2) := by decide +kernel
theorem d_M_isSpeakingBy_110 : decode b_M_isSpeakingBy 110 = .ok (.iconst 1, 1) := by decide +kernel
theorem d_M_isSpeakingBy_111 : decode b_M_isSpeakingBy 111 = .ok (.if_icmp .gt 7, 3) := by decide +kernel
theorem d_M_isSpeakingBy_114 : decode b_M_isSpeakingBy 114 = .ok (.iconst 1, 1) := by decide +kernel
theorem d_M_isSpeakingBy_115 : decode b_M_isSpeakingBy 115 = .ok (.goto 4, 3) := by decide +kernel
theorem d_M_isSpeakingBy_118 : decode b_M_isSpeakingBy 118 = .ok (.iconst 0, 1) := by decide +kernel
theorem d_M_isSpeakingBy_119 : decode b_M_isSpeakingBy 119 = .ok (.ireturn, 1) := by decide +kernel
theorem d_M_isSpeakingBy_120 : decode b_M_isSpeakingBy 120 = .ok (.iload 5, 2) := by decide +kernel
theorem d_M_isSpeakingBy_122 : decode b_M_isSpeakingBy 122 = .ok (.ireturn, 1) := by decide +kernel
theorem mo_M_isSpeakingBy : mok y_M_isSpeakingBy b_M_isSpeakingBy 6 (some .boolean) 5 := ⟨List.mem_of_getElem? (i := 1237) (by decide +kernel), ⟨by decide +kernel, by decide +kernel, by decide +kernel⟩, List.mem_of_getElem? (i := 86) (by decide +kernel), by decide⟩
set_option maxHeartbeats 4000000 in
theorem c_M_isSpeakingBy (l : Launch) (u : Un) (hA : Ap u) (σ : St) (k : Nat) (hk : k < 6) (b f c o : Int32) : MTi l u y_M_isSpeakingBy b_M_isSpeakingBy 6 .boolean 0 [.int (nI k), .int b, .int f, .int c, .int o] σ (fun ans σ' => bI (talkB k b f c o = true) = ans ∧ σ = σ') := by
  refine MT_of hA rfl (by decide) (Nat.le_of_ble_eq_true rfl) (fun X hl F hr => ?_)
  subst hl
  refine v_to (ls' := [(0, .int (nI k)), (1, .int b), (2, .int f), (3, .int c), (4, .int o)]) rfl ?_
  refine v_iload_n F d_M_isSpeakingBy_0 rfl 1 rfl ?_
  refine v_iload_n F d_M_isSpeakingBy_1 rfl 2 rfl ?_
  refine v_iconst (v := 2) F d_M_isSpeakingBy_2 ki_2 ?_
  refine v_iload_n F d_M_isSpeakingBy_3 rfl 3 rfl ?_
  refine v_imul F d_M_isSpeakingBy_4 ?_
  refine v_iadd F d_M_isSpeakingBy_5 ?_
  refine v_icmp_le F 13 d_M_isSpeakingBy_6 rfl (fun h6 => ?_) (fun h6 => ?_)
  · skip
    refine v_iconst (v := 0) F d_M_isSpeakingBy_13 ki_0 ?_
    refine v_istore (ls' := [(5, .int 0), (0, .int (nI k)), (1, .int b), (2, .int f), (3, .int c), (4, .int o)]) F d_M_isSpeakingBy_14 (by decide) rfl ?_
    refine v_iload_n F d_M_isSpeakingBy_16 rfl 1 rfl ?_
    rcases (show k = 0 ∨ k = 1 ∨ k = 2 ∨ k = 3 ∨ k = 4 ∨ k = 5 from by omega) with hs | hs | hs | hs | hs | hs
    · refine v_te (y := 0) (show nI k = 0 from by rw [hs]; rfl) ?_
      refine v_tableOut F 120 d_M_isSpeakingBy_17 (by decide) rfl ?_
      refine v_iload F d_M_isSpeakingBy_120 0 rfl ?_
      refine v_iret F hr rfl d_M_isSpeakingBy_122 ?_
      exact ⟨(bI_f (by first | (simp_all [talkB]; done) | grind [talkB])), rfl⟩
    · refine v_te (y := 1) (show nI k = 1 from by rw [hs]; rfl) ?_
      refine v_tableIn (off := 35) F 52 d_M_isSpeakingBy_17 (by decide) (by decide) (by decide) rfl ?_
      refine v_iconst (v := 0) F d_M_isSpeakingBy_52 ki_0 ?_
      refine v_iret F hr rfl d_M_isSpeakingBy_53 ?_
      exact ⟨(bI_f (by first | (simp_all [talkB]; done) | grind [talkB])), rfl⟩
    · refine v_te (y := 2) (show nI k = 2 from by rw [hs]; rfl) ?_
      refine v_tableIn (off := 48) F 65 d_M_isSpeakingBy_17 (by decide) (by decide) (by decide) rfl ?_
      refine v_iload F d_M_isSpeakingBy_65 0 rfl ?_
      refine v_if_eq F 78 d_M_isSpeakingBy_67 rfl (fun _ => ?_) (fun h => absurd (by decide) h)
      refine v_iconst (v := 0) F d_M_isSpeakingBy_78 ki_0 ?_
      refine v_iret F hr rfl d_M_isSpeakingBy_79 ?_
      exact ⟨(bI_f (by first | (simp_all [talkB]; done) | grind [talkB])), rfl⟩
    · refine v_te (y := 3) (show nI k = 3 from by rw [hs]; rfl) ?_
      refine v_tableIn (off := 63) F 80 d_M_isSpeakingBy_17 (by decide) (by decide) (by decide) rfl ?_
      refine v_iload F d_M_isSpeakingBy_80 0 rfl ?_
      refine v_if_eq F 95 d_M_isSpeakingBy_82 rfl (fun _ => ?_) (fun h => absurd (by decide) h)
      refine v_iconst (v := 0) F d_M_isSpeakingBy_95 ki_0 ?_
      refine v_iret F hr rfl d_M_isSpeakingBy_96 ?_
      exact ⟨(bI_f (by first | (simp_all [talkB]; done) | grind [talkB])), rfl⟩
    · refine v_te (y := 4) (show nI k = 4 from by rw [hs]; rfl) ?_
      refine v_tableIn (off := 37) F 54 d_M_isSpeakingBy_17 (by decide) (by decide) (by decide) rfl ?_
      refine v_iload_n F d_M_isSpeakingBy_54 rfl 4 rfl ?_
      refine v_iconst (v := 2) F d_M_isSpeakingBy_55 ki_2 ?_
      refine v_icmp_ne F 63 d_M_isSpeakingBy_56 rfl (fun h56 => ?_) (fun h56 => ?_)
      · skip
        refine v_iconst (v := 0) F d_M_isSpeakingBy_63 ki_0 ?_
        refine v_iret F hr rfl d_M_isSpeakingBy_64 ?_
        exact ⟨(bI_f (by first | (simp_all [talkB]; done) | grind [talkB])), rfl⟩
      · skip
        refine v_iconst (v := 1) F d_M_isSpeakingBy_59 ki_1 ?_
        refine v_goto F 64 d_M_isSpeakingBy_60 rfl ?_
        refine v_iret F hr rfl d_M_isSpeakingBy_64 ?_
        exact ⟨(bI_t (by first | (simp_all [talkB]; done) | grind [talkB])), rfl⟩
    · refine v_te (y := 5) (show nI k = 5 from by rw [hs]; rfl) ?_
      refine v_tableIn (off := 80) F 97 d_M_isSpeakingBy_17 (by decide) (by decide) (by decide) rfl ?_
      refine v_iload_n F d_M_isSpeakingBy_97 rfl 2 rfl ?_
      refine v_iconst (v := 2) F d_M_isSpeakingBy_98 ki_2 ?_
      refine v_iadd F d_M_isSpeakingBy_99 ?_
      refine v_iload_n F d_M_isSpeakingBy_100 rfl 3 rfl ?_
      refine v_iconst (v := 2) F d_M_isSpeakingBy_101 ki_2 ?_
      refine v_iload_n F d_M_isSpeakingBy_102 rfl 4 rfl ?_
      refine v_imul F d_M_isSpeakingBy_103 ?_
      refine v_iadd F d_M_isSpeakingBy_104 ?_
      refine v_icmp_le F 118 d_M_isSpeakingBy_105 rfl (fun h105 => ?_) (fun h105 => ?_)
      · skip
        refine v_iconst (v := 0) F d_M_isSpeakingBy_118 ki_0 ?_
        refine v_iret F hr rfl d_M_isSpeakingBy_119 ?_
        exact ⟨(bI_f (by first | (simp_all [talkB]; done) | grind [talkB])), rfl⟩
      · skip
        refine v_iload F d_M_isSpeakingBy_108 5 rfl ?_
        refine v_iconst (v := 1) F d_M_isSpeakingBy_110 ki_1 ?_
        refine v_icmp_gt F 118 d_M_isSpeakingBy_111 rfl (fun h111 => ?_) (fun h111 => ?_)
        · skip
          refine v_iconst (v := 0) F d_M_isSpeakingBy_118 ki_0 ?_
          refine v_iret F hr rfl d_M_isSpeakingBy_119 ?_
          exact ⟨(bI_f (by first | (simp_all [talkB]; done) | grind [talkB])), rfl⟩
        · skip
          refine v_iconst (v := 1) F d_M_isSpeakingBy_114 ki_1 ?_
          refine v_goto F 119 d_M_isSpeakingBy_115 rfl ?_
          refine v_iret F hr rfl d_M_isSpeakingBy_119 ?_
          exact ⟨(bI_t (by first | (simp_all [talkB]; done) | grind [talkB])), rfl⟩
  · skip
    refine v_iconst (v := 1) F d_M_isSpeakingBy_9 ki_1 ?_
    refine v_goto F 14 d_M_isSpeakingBy_10 rfl ?_
    refine v_istore (ls' := [(5, .int 1), (0, .int (nI k)), (1, .int b), (2, .int f), (3, .int c), (4, .int o)]) F d_M_isSpeakingBy_14 (by decide) rfl ?_
    refine v_iload_n F d_M_isSpeakingBy_16 rfl 1 rfl ?_
    rcases (show k = 0 ∨ k = 1 ∨ k = 2 ∨ k = 3 ∨ k = 4 ∨ k = 5 from by omega) with hs | hs | hs | hs | hs | hs
    · refine v_te (y := 0) (show nI k = 0 from by rw [hs]; rfl) ?_
      refine v_tableOut F 120 d_M_isSpeakingBy_17 (by decide) rfl ?_
      refine v_iload F d_M_isSpeakingBy_120 0 rfl ?_
      refine v_iret F hr rfl d_M_isSpeakingBy_122 ?_
      exact ⟨(bI_t (by first | (simp_all [talkB]; done) | grind [talkB])), rfl⟩
    · refine v_te (y := 1) (show nI k = 1 from by rw [hs]; rfl) ?_
      refine v_tableIn (off := 35) F 52 d_M_isSpeakingBy_17 (by decide) (by decide) (by decide) rfl ?_
      refine v_iconst (v := 0) F d_M_isSpeakingBy_52 ki_0 ?_
      refine v_iret F hr rfl d_M_isSpeakingBy_53 ?_
      exact ⟨(bI_f (by first | (simp_all [talkB]; done) | grind [talkB])), rfl⟩
    · refine v_te (y := 2) (show nI k = 2 from by rw [hs]; rfl) ?_
      refine v_tableIn (off := 48) F 65 d_M_isSpeakingBy_17 (by decide) (by decide) (by decide) rfl ?_
      refine v_iload F d_M_isSpeakingBy_65 0 rfl ?_
      refine v_if_eq F 78 d_M_isSpeakingBy_67 rfl (fun h => absurd h (by decide)) (fun _ => ?_)
      refine v_iload_n F d_M_isSpeakingBy_70 rfl 4 rfl ?_
      refine v_if_ne F 78 d_M_isSpeakingBy_71 rfl (fun h71 => ?_) (fun h71 => ?_)
      · skip
        refine v_iconst (v := 0) F d_M_isSpeakingBy_78 ki_0 ?_
        refine v_iret F hr rfl d_M_isSpeakingBy_79 ?_
        exact ⟨(bI_f (by first | (simp_all [talkB]; done) | grind [talkB])), rfl⟩
      · skip
        refine v_iconst (v := 1) F d_M_isSpeakingBy_74 ki_1 ?_
        refine v_goto F 79 d_M_isSpeakingBy_75 rfl ?_
        refine v_iret F hr rfl d_M_isSpeakingBy_79 ?_
        exact ⟨(bI_t (by first | (simp_all [talkB]; done) | grind [talkB])), rfl⟩
    · refine v_te (y := 3) (show nI k = 3 from by rw [hs]; rfl) ?_
      refine v_tableIn (off := 63) F 80 d_M_isSpeakingBy_17 (by decide) (by decide) (by decide) rfl ?_
      refine v_iload F d_M_isSpeakingBy_80 0 rfl ?_
      refine v_if_eq F 95 d_M_isSpeakingBy_82 rfl (fun h => absurd h (by decide)) (fun _ => ?_)
      refine v_iload F d_M_isSpeakingBy_85 5 rfl ?_
      refine v_iconst (v := 1) F d_M_isSpeakingBy_87 ki_1 ?_
      refine v_icmp_gt F 95 d_M_isSpeakingBy_88 rfl (fun h88 => ?_) (fun h88 => ?_)
      · skip
        refine v_iconst (v := 0) F d_M_isSpeakingBy_95 ki_0 ?_
        refine v_iret F hr rfl d_M_isSpeakingBy_96 ?_
        exact ⟨(bI_f (by first | (simp_all [talkB]; done) | grind [talkB])), rfl⟩
      · skip
        refine v_iconst (v := 1) F d_M_isSpeakingBy_91 ki_1 ?_
        refine v_goto F 96 d_M_isSpeakingBy_92 rfl ?_
        refine v_iret F hr rfl d_M_isSpeakingBy_96 ?_
        exact ⟨(bI_t (by first | (simp_all [talkB]; done) | grind [talkB])), rfl⟩
    · refine v_te (y := 4) (show nI k = 4 from by rw [hs]; rfl) ?_
      refine v_tableIn (off := 37) F 54 d_M_isSpeakingBy_17 (by decide) (by decide) (by decide) rfl ?_
      refine v_iload_n F d_M_isSpeakingBy_54 rfl 4 rfl ?_
      refine v_iconst (v := 2) F d_M_isSpeakingBy_55 ki_2 ?_
      refine v_icmp_ne F 63 d_M_isSpeakingBy_56 rfl (fun h56 => ?_) (fun h56 => ?_)
      · skip
        refine v_iconst (v := 0) F d_M_isSpeakingBy_63 ki_0 ?_
        refine v_iret F hr rfl d_M_isSpeakingBy_64 ?_
        exact ⟨(bI_f (by first | (simp_all [talkB]; done) | grind [talkB])), rfl⟩
      · skip
        refine v_iconst (v := 1) F d_M_isSpeakingBy_59 ki_1 ?_
        refine v_goto F 64 d_M_isSpeakingBy_60 rfl ?_
        refine v_iret F hr rfl d_M_isSpeakingBy_64 ?_
        exact ⟨(bI_t (by first | (simp_all [talkB]; done) | grind [talkB])), rfl⟩
    · refine v_te (y := 5) (show nI k = 5 from by rw [hs]; rfl) ?_
      refine v_tableIn (off := 80) F 97 d_M_isSpeakingBy_17 (by decide) (by decide) (by decide) rfl ?_
      refine v_iload_n F d_M_isSpeakingBy_97 rfl 2 rfl ?_
      refine v_iconst (v := 2) F d_M_isSpeakingBy_98 ki_2 ?_
      refine v_iadd F d_M_isSpeakingBy_99 ?_
      refine v_iload_n F d_M_isSpeakingBy_100 rfl 3 rfl ?_
      refine v_iconst (v := 2) F d_M_isSpeakingBy_101 ki_2 ?_
      refine v_iload_n F d_M_isSpeakingBy_102 rfl 4 rfl ?_
      refine v_imul F d_M_isSpeakingBy_103 ?_
      refine v_iadd F d_M_isSpeakingBy_104 ?_
      refine v_icmp_le F 118 d_M_isSpeakingBy_105 rfl (fun h105 => ?_) (fun h105 => ?_)
      · skip
        refine v_iconst (v := 0) F d_M_isSpeakingBy_118 ki_0 ?_
        refine v_iret F hr rfl d_M_isSpeakingBy_119 ?_
        exact ⟨(bI_f (by first | (simp_all [talkB]; done) | grind [talkB])), rfl⟩
      · skip
        refine v_iload F d_M_isSpeakingBy_108 5 rfl ?_
        refine v_iconst (v := 1) F d_M_isSpeakingBy_110 ki_1 ?_
        refine v_icmp_gt F 118 d_M_isSpeakingBy_111 rfl (fun h111 => ?_) (fun h111 => ?_)
        · skip
          refine v_iconst (v := 0) F d_M_isSpeakingBy_118 ki_0 ?_
          refine v_iret F hr rfl d_M_isSpeakingBy_119 ?_
          exact ⟨(bI_f (by first | (simp_all [talkB]; done) | grind [talkB])), rfl⟩
        · skip
          refine v_iconst (v := 1) F d_M_isSpeakingBy_114 ki_1 ?_
          refine v_goto F 119 d_M_isSpeakingBy_115 rfl ?_
          refine v_iret F hr rfl d_M_isSpeakingBy_119 ?_
          exact ⟨(bI_t (by first | (simp_all [talkB]; done) | grind [talkB])), rfl⟩
abbrev b_M_isSpeaking : ByteArray := prog_14_method_37_code
abbrev y_M_isSpeaking : MethodName := ⟨"TakerBookModel", "isSpeaking", "([II)Z"⟩
theorem d_M_isSpeaking_0 : decode b_M_isSpeaking 0 = .ok (.aload_n 0, 1) := by decide +kernel
theorem d_M_isSpeaking_1 : decode b_M_isSpeaking 1 = .ok (.getfield 36, 3) := by decide +kernel
theorem d_M_isSpeaking_4 : decode b_M_isSpeaking 4 = .ok (.iload_n 2, 1) := by decide +kernel
theorem d_M_isSpeaking_5 : decode b_M_isSpeaking 5 = .ok (.iaload, 1) := by decide +kernel
theorem d_M_isSpeaking_6 : decode b_M_isSpeaking 6 = .ok (.aload_n 0, 1) := by decide +kernel
theorem d_M_isSpeaking_7 : decode b_M_isSpeaking 7 = .ok (.getfield 42, 3) := by decide +kernel
theorem d_M_isSpeaking_10 : decode b_M_isSpeaking 10 = .ok (.iload_n 2, 1) := by decide +kernel
theorem d_M_isSpeaking_11 : decode b_M_isSpeaking 11 = .ok (.iaload, 1) := by decide +kernel
theorem d_M_isSpeaking_12 : decode b_M_isSpeaking 12 = .ok (.aload_n 0, 1) := by decide +kernel
theorem d_M_isSpeaking_13 : decode b_M_isSpeaking 13 = .ok (.getfield 33, 3) := by decide +kernel
theorem d_M_isSpeaking_16 : decode b_M_isSpeaking 16 = .ok (.iconst 2, 1) := by decide +kernel
theorem d_M_isSpeaking_17 : decode b_M_isSpeaking 17 = .ok (.iaload, 1) := by decide +kernel
theorem d_M_isSpeaking_18 : decode b_M_isSpeaking 18 = .ok (.aload_n 1, 1) := by decide +kernel
theorem d_M_isSpeaking_19 : decode b_M_isSpeaking 19 = .ok (.iconst 5, 1) := by decide +kernel
theorem d_M_isSpeaking_20 : decode b_M_isSpeaking 20 = .ok (.iload_n 2, 1) := by decide +kernel
theorem d_M_isSpeaking_21 : decode b_M_isSpeaking 21 = .ok (.iadd, 1) := by decide +kernel
theorem d_M_isSpeaking_22 : decode b_M_isSpeaking 22 = .ok (.iaload, 1) := by decide +kernel
theorem d_M_isSpeaking_23 : decode b_M_isSpeaking 23 = .ok (.aload_n 0, 1) := by decide +kernel
theorem d_M_isSpeaking_24 : decode b_M_isSpeaking 24 = .ok (.aload_n 1, 1) := by decide +kernel
theorem d_M_isSpeaking_25 : decode b_M_isSpeaking 25 = .ok (.iload_n 2, 1) := by decide +kernel
theorem d_M_isSpeaking_26 : decode b_M_isSpeaking 26 = .ok (.invokevirtual 159, 3) := by decide +kernel
theorem d_M_isSpeaking_29 : decode b_M_isSpeaking 29 = .ok (.invokestatic 163, 3) := by decide +kernel
theorem d_M_isSpeaking_32 : decode b_M_isSpeaking 32 = .ok (.ireturn, 1) := by decide +kernel
theorem mo_M_isSpeaking : mok y_M_isSpeaking b_M_isSpeaking 3 (some .boolean) 2 := ⟨List.mem_of_getElem? (i := 1234) (by decide +kernel), ⟨by decide +kernel, by decide +kernel, by decide +kernel⟩, List.mem_of_getElem? (i := 86) (by decide +kernel), by decide⟩
set_option maxHeartbeats 4000000 in
theorem c_M_isSpeaking (l : Launch) (u : Un) (hA : Ap u) (σ : St) {n : Nat} {kd : Nat → Nat} (hb : mkOk σ n kd) {kO a : Nat} (hO : ofOk kO) (ha : a < 64) (h0 : σ.1 kO 0 = nI a) (i : Nat) (hi : i < n) : MTi l u y_M_isSpeaking b_M_isSpeaking 3 .boolean 2 [.ref (u.2.1 63), .ref (u.2.1 kO), .int (nI i)] σ (fun ans σ' => bI (talkB (kd i) (σ.1 73 i) (σ.1 70 2) (σ.1 kO (5 + i)) (nI (othN a (gaN kd n) i)) = true) = ans ∧ σ = σ') := by
  refine MT_of hA rfl (by decide) (Nat.le_of_ble_eq_true rfl) (fun X hl F hr => ?_)
  subst hl
  refine v_to (ls' := [(0, .ref (u.2.1 63)), (1, .ref (u.2.1 kO)), (2, .int (nI i))]) rfl ?_
  obtain ⟨hn, hn6, hkd, hk6⟩ := id hb
  refine v_aload_n F d_M_isSpeaking_0 rfl 0 rfl ?_
  refine v_getr (r := 71) F fk_M_36 G63 rfl d_M_isSpeaking_1 ?_
  refine v_iload_n F d_M_isSpeaking_4 rfl 2 rfl ?_
  refine v_ial F i G71 rfl (by omega) d_M_isSpeaking_5 ?_
  refine v_te (y := nI (kd i)) (hkd _ (by omega)) ?_
  refine v_aload_n F d_M_isSpeaking_6 rfl 0 rfl ?_
  refine v_getr (r := 73) F fk_M_42 G63 rfl d_M_isSpeaking_7 ?_
  refine v_iload_n F d_M_isSpeaking_10 rfl 2 rfl ?_
  refine v_ial F i G73 rfl (by omega) d_M_isSpeaking_11 ?_
  refine v_aload_n F d_M_isSpeaking_12 rfl 0 rfl ?_
  refine v_getr (r := 70) F fk_M_33 G63 rfl d_M_isSpeaking_13 ?_
  refine v_iconst (v := 2) F d_M_isSpeaking_16 ki_2 ?_
  refine v_ial F 2 G70 rfl (by omega) d_M_isSpeaking_17 ?_
  refine v_aload_n F d_M_isSpeaking_18 rfl 1 rfl ?_
  refine v_iconst (v := 5) F d_M_isSpeaking_19 ki_5 ?_
  refine v_iload_n F d_M_isSpeaking_20 rfl 2 rfl ?_
  refine v_iadd F d_M_isSpeaking_21 ?_
  refine v_te (y := nI (5 + i)) (nI_add _ _) ?_
  refine v_ial F (5 + i) hO.gam rfl (by omega) d_M_isSpeaking_22 ?_
  refine v_aload_n F d_M_isSpeaking_23 rfl 0 rfl ?_
  refine v_aload_n F d_M_isSpeaking_24 rfl 1 rfl ?_
  refine v_iload_n F d_M_isSpeaking_25 rfl 2 rfl ?_
  refine v_runi (r_V F (c_M_others X.2.1 u hA σ hb (kO := kO) hO (by omega) h0 i (by omega)) mo_M_others st_M_159 rc_63 (by decide) rfl (Nat.le_of_ble_eq_true rfl) d_M_isSpeaking_26) (fun r1 σ2 q3 => ?_)
  obtain ⟨rfl, rfl⟩ := q3
  refine v_runi (r_S F (c_M_isSpeakingBy X.2.1 u hA σ (kd i) (hk6 _ (by omega)) (σ.1 73 i) (σ.1 70 2) (σ.1 kO (5 + i)) (nI (othN a (gaN kd n) i))) mo_M_isSpeakingBy st_M_163 (by decide) rfl (Nat.le_of_ble_eq_true rfl) d_M_isSpeaking_29) (fun r4 σ5 q6 => ?_)
  obtain ⟨rfl, rfl⟩ := q6
  refine v_iret F hr bI_nar d_M_isSpeaking_32 ?_
  exact ⟨rfl, rfl⟩
abbrev b_M_headOf : ByteArray := prog_14_method_38_code
abbrev y_M_headOf : MethodName := ⟨"TakerBookModel", "headOf", "([II)I"⟩
theorem d_M_headOf_0 : decode b_M_headOf 0 = .ok (.aload_n 0, 1) := by decide +kernel
theorem d_M_headOf_1 : decode b_M_headOf 1 = .ok (.getfield 33, 3) := by decide +kernel
theorem d_M_headOf_4 : decode b_M_headOf 4 = .ok (.iconst 0, 1) := by decide +kernel
theorem d_M_headOf_5 : decode b_M_headOf 5 = .ok (.iaload, 1) := by decide +kernel
theorem d_M_headOf_6 : decode b_M_headOf 6 = .ok (.aload_n 1, 1) := by decide +kernel
theorem d_M_headOf_7 : decode b_M_headOf 7 = .ok (.iconst 5, 1) := by decide +kernel
theorem d_M_headOf_8 : decode b_M_headOf 8 = .ok (.iload_n 2, 1) := by decide +kernel
theorem d_M_headOf_9 : decode b_M_headOf 9 = .ok (.iadd, 1) := by decide +kernel
theorem d_M_headOf_10 : decode b_M_headOf 10 = .ok (.iaload, 1) := by decide +kernel
theorem d_M_headOf_11 : decode b_M_headOf 11 = .ok (.iadd, 1) := by decide +kernel
theorem d_M_headOf_12 : decode b_M_headOf 12 = .ok (.istore_n 3, 1) := by decide +kernel
theorem d_M_headOf_13 : decode b_M_headOf 13 = .ok (.aload_n 0, 1) := by decide +kernel
theorem d_M_headOf_14 : decode b_M_headOf 14 = .ok (.getfield 36, 3) := by decide +kernel
theorem d_M_headOf_17 : decode b_M_headOf 17 = .ok (.iload_n 2, 1) := by decide +kernel
theorem d_M_headOf_18 : decode b_M_headOf 18 = .ok (.iaload, 1) := by decide +kernel
theorem d_M_headOf_19 : decode b_M_headOf 19 = .ok (.iconst 2, 1) := by decide +kernel
theorem d_M_headOf_20 : decode b_M_headOf 20 = .ok (.if_icmp .ne 9, 3) := by decide +kernel
theorem d_M_headOf_23 : decode b_M_headOf 23 = .ok (.iload_n 3, 1) := by decide +kernel
theorem d_M_headOf_24 : decode b_M_headOf 24 = .ok (.iconst 2, 1) := by decide +kernel
theorem d_M_headOf_25 : decode b_M_headOf 25 = .ok (.idiv, 1) := by decide +kernel
theorem d_M_headOf_26 : decode b_M_headOf 26 = .ok (.goto 28, 3) := by decide +kernel
theorem d_M_headOf_29 : decode b_M_headOf 29 = .ok (.aload_n 0, 1) := by decide +kernel
theorem d_M_headOf_30 : decode b_M_headOf 30 = .ok (.getfield 36, 3) := by decide +kernel
theorem d_M_headOf_33 : decode b_M_headOf 33 = .ok (.iload_n 2, 1) := by decide +kernel
theorem d_M_headOf_34 : decode b_M_headOf 34 = .ok (.iaload, 1) := by decide +kernel
theorem d_M_headOf_35 : decode b_M_headOf 35 = .ok (.iconst 5, 1) := by decide +kernel
theorem d_M_headOf_36 : decode b_M_headOf 36 = .ok (.if_icmp .ne 17, 3) := by decide +kernel
theorem d_M_headOf_39 : decode b_M_headOf 39 = .ok (.iload_n 3, 1) := by decide +kernel
theorem d_M_headOf_40 : decode b_M_headOf 40 = .ok (.ifCond .le 9, 3) := by decide +kernel
theorem d_M_headOf_43 : decode b_M_headOf 43 = .ok (.iload_n 3, 1) := by decide +kernel
theorem d_M_headOf_44 : decode b_M_headOf 44 = .ok (.iconst 1, 1) := by decide +kernel
theorem d_M_headOf_45 : decode b_M_headOf 45 = .ok (.isub, 1) := by decide +kernel
theorem d_M_headOf_46 : decode b_M_headOf 46 = .ok (.goto 8, 3) := by decide +kernel
theorem d_M_headOf_49 : decode b_M_headOf 49 = .ok (.iconst 0, 1) := by decide +kernel
theorem d_M_headOf_50 : decode b_M_headOf 50 = .ok (.goto 4, 3) := by decide +kernel
theorem d_M_headOf_53 : decode b_M_headOf 53 = .ok (.iload_n 3, 1) := by decide +kernel
theorem d_M_headOf_54 : decode b_M_headOf 54 = .ok (.ireturn, 1) := by decide +kernel
theorem mo_M_headOf : mok y_M_headOf b_M_headOf 4 (some .int) 2 := ⟨List.mem_of_getElem? (i := 1241) (by decide +kernel), ⟨by decide +kernel, by decide +kernel, by decide +kernel⟩, List.mem_of_getElem? (i := 86) (by decide +kernel), by decide⟩
set_option maxHeartbeats 4000000 in
theorem c_M_headOf (l : Launch) (u : Un) (hA : Ap u) (σ : St) {n : Nat} {kd : Nat → Nat} (hb : mkOk σ n kd) {kO a : Nat} (hO : ofOk kO) (ha : a < 64) (h0 : σ.1 kO 0 = nI a) (i : Nat) (hi : i < n) : MTi l u y_M_headOf b_M_headOf 4 .int 0 [.ref (u.2.1 63), .ref (u.2.1 kO), .int (nI i)] σ (fun ans σ' => priceM (kd i) (σ.1 70 0) (σ.1 kO (5 + i)) = ans ∧ σ = σ') := by
  refine MT_of hA rfl (by decide) (Nat.le_of_ble_eq_true rfl) (fun X hl F hr => ?_)
  subst hl
  refine v_to (ls' := [(0, .ref (u.2.1 63)), (1, .ref (u.2.1 kO)), (2, .int (nI i))]) rfl ?_
  obtain ⟨hn, hn6, hkd, hk6⟩ := id hb
  have hki := hk6 i hi
  refine v_aload_n F d_M_headOf_0 rfl 0 rfl ?_
  refine v_getr (r := 70) F fk_M_33 G63 rfl d_M_headOf_1 ?_
  refine v_iconst (v := 0) F d_M_headOf_4 ki_0 ?_
  refine v_ial F 0 G70 rfl (by omega) d_M_headOf_5 ?_
  refine v_aload_n F d_M_headOf_6 rfl 1 rfl ?_
  refine v_iconst (v := 5) F d_M_headOf_7 ki_5 ?_
  refine v_iload_n F d_M_headOf_8 rfl 2 rfl ?_
  refine v_iadd F d_M_headOf_9 ?_
  refine v_te (y := nI (5 + i)) (nI_add _ _) ?_
  refine v_ial F (5 + i) hO.gam rfl (by omega) d_M_headOf_10 ?_
  refine v_iadd F d_M_headOf_11 ?_
  refine v_ni (fun x1 ex1 => ?_)
  refine v_istore_n (ls' := [(3, .int x1), (0, .ref (u.2.1 63)), (1, .ref (u.2.1 kO)), (2, .int (nI i))]) F d_M_headOf_12 rfl (by decide) rfl ?_
  refine v_aload_n F d_M_headOf_13 rfl 1 rfl ?_
  refine v_getr (r := 71) F fk_M_36 G63 rfl d_M_headOf_14 ?_
  refine v_iload_n F d_M_headOf_17 rfl 3 rfl ?_
  refine v_ial F i G71 rfl (by omega) d_M_headOf_18 ?_
  refine v_te (y := nI (kd i)) (hkd _ (by omega)) ?_
  refine v_iconst (v := 2) F d_M_headOf_19 ki_2 ?_
  refine v_icmp_ne F 29 d_M_headOf_20 rfl (fun h20 => ?_) (fun h20 => ?_)
  · skip
    have h20 : ¬ kd i = 2 := fun q => h20 ((nI_eq (a := kd i) (b := 2) (by omega) (by omega)).mpr q)
    refine v_aload_n F d_M_headOf_29 rfl 1 rfl ?_
    refine v_getr (r := 71) F fk_M_36 G63 rfl d_M_headOf_30 ?_
    refine v_iload_n F d_M_headOf_33 rfl 3 rfl ?_
    refine v_ial F i G71 rfl (by omega) d_M_headOf_34 ?_
    refine v_te (y := nI (kd i)) (hkd _ (by omega)) ?_
    refine v_iconst (v := 5) F d_M_headOf_35 ki_5 ?_
    refine v_icmp_ne F 53 d_M_headOf_36 rfl (fun h36 => ?_) (fun h36 => ?_)
    · skip
      have h36 : ¬ kd i = 5 := fun q => h36 ((nI_eq (a := kd i) (b := 5) (by omega) (by omega)).mpr q)
      refine v_iload_n F d_M_headOf_53 rfl 0 rfl ?_
      refine v_iret F hr rfl d_M_headOf_54 ?_
      exact ⟨by first | (simp_all [priceM]; done) | (simp_all [priceM]; grind), rfl⟩
    · skip
      have h36 : kd i = 5 := (nI_eq (a := kd i) (b := 5) (by omega) (by omega)).mp h36
      refine v_iload_n F d_M_headOf_39 rfl 0 rfl ?_
      refine v_if_le F 49 d_M_headOf_40 rfl (fun h40 => ?_) (fun h40 => ?_)
      · skip
        have h40 := i_nlt.mpr h40
        refine v_iconst (v := 0) F d_M_headOf_49 ki_0 ?_
        refine v_goto F 54 d_M_headOf_50 rfl ?_
        refine v_iret F hr rfl d_M_headOf_54 ?_
        exact ⟨by first | (simp_all [priceM]; done) | (simp_all [priceM]; grind), rfl⟩
      · skip
        refine v_iload_n F d_M_headOf_43 rfl 0 rfl ?_
        refine v_iconst (v := 1) F d_M_headOf_44 ki_1 ?_
        refine v_isub F d_M_headOf_45 ?_
        refine v_goto F 54 d_M_headOf_46 rfl ?_
        refine v_iret F hr rfl d_M_headOf_54 ?_
        exact ⟨by first | (simp_all [priceM]; done) | (simp_all [priceM]; grind), rfl⟩
  · skip
    have h20 : kd i = 2 := (nI_eq (a := kd i) (b := 2) (by omega) (by omega)).mp h20
    refine v_iload_n F d_M_headOf_23 rfl 0 rfl ?_
    refine v_iconst (v := 2) F d_M_headOf_24 ki_2 ?_
    refine v_idiv F d_M_headOf_25 (by decide) ?_
    refine v_goto F 54 d_M_headOf_26 rfl ?_
    refine v_iret F hr rfl d_M_headOf_54 ?_
    exact ⟨by first | (simp_all [priceM]; done) | (simp_all [priceM]; grind), rfl⟩
abbrev b_M_speakers : ByteArray := prog_14_method_39_code
abbrev y_M_speakers : MethodName := ⟨"TakerBookModel", "speakers", "([I)I"⟩
theorem d_M_speakers_0 : decode b_M_speakers 0 = .ok (.iconst 0, 1) := by decide +kernel
theorem d_M_speakers_1 : decode b_M_speakers 1 = .ok (.istore_n 2, 1) := by decide +kernel
theorem d_M_speakers_2 : decode b_M_speakers 2 = .ok (.iconst 0, 1) := by decide +kernel
theorem d_M_speakers_3 : decode b_M_speakers 3 = .ok (.istore_n 3, 1) := by decide +kernel
theorem d_M_speakers_4 : decode b_M_speakers 4 = .ok (.iload_n 3, 1) := by decide +kernel
theorem d_M_speakers_5 : decode b_M_speakers 5 = .ok (.aload_n 0, 1) := by decide +kernel
theorem d_M_speakers_6 : decode b_M_speakers 6 = .ok (.getfield 146, 3) := by decide +kernel
theorem d_M_speakers_9 : decode b_M_speakers 9 = .ok (.if_icmp .ge 38, 3) := by decide +kernel
theorem d_M_speakers_12 : decode b_M_speakers 12 = .ok (.iload_n 2, 1) := by decide +kernel
theorem d_M_speakers_13 : decode b_M_speakers 13 = .ok (.aload_n 1, 1) := by decide +kernel
theorem d_M_speakers_14 : decode b_M_speakers 14 = .ok (.iconst 0, 1) := by decide +kernel
theorem d_M_speakers_15 : decode b_M_speakers 15 = .ok (.iaload, 1) := by decide +kernel
theorem d_M_speakers_16 : decode b_M_speakers 16 = .ok (.iload_n 3, 1) := by decide +kernel
theorem d_M_speakers_17 : decode b_M_speakers 17 = .ok (.invokestatic 155, 3) := by decide +kernel
theorem d_M_speakers_20 : decode b_M_speakers 20 = .ok (.ifCond .eq 18, 3) := by decide +kernel
theorem d_M_speakers_23 : decode b_M_speakers 23 = .ok (.aload_n 0, 1) := by decide +kernel
theorem d_M_speakers_24 : decode b_M_speakers 24 = .ok (.aload_n 1, 1) := by decide +kernel
theorem d_M_speakers_25 : decode b_M_speakers 25 = .ok (.iload_n 3, 1) := by decide +kernel
theorem d_M_speakers_26 : decode b_M_speakers 26 = .ok (.invokevirtual 167, 3) := by decide +kernel
theorem d_M_speakers_29 : decode b_M_speakers 29 = .ok (.ifCond .eq 9, 3) := by decide +kernel
theorem d_M_speakers_32 : decode b_M_speakers 32 = .ok (.iconst 1, 1) := by decide +kernel
theorem d_M_speakers_33 : decode b_M_speakers 33 = .ok (.iload_n 3, 1) := by decide +kernel
theorem d_M_speakers_34 : decode b_M_speakers 34 = .ok (.ishl, 1) := by decide +kernel
theorem d_M_speakers_35 : decode b_M_speakers 35 = .ok (.goto 4, 3) := by decide +kernel
theorem d_M_speakers_38 : decode b_M_speakers 38 = .ok (.iconst 0, 1) := by decide +kernel
theorem d_M_speakers_39 : decode b_M_speakers 39 = .ok (.ior, 1) := by decide +kernel
theorem d_M_speakers_40 : decode b_M_speakers 40 = .ok (.istore_n 2, 1) := by decide +kernel
theorem d_M_speakers_41 : decode b_M_speakers 41 = .ok (.iinc 3 1, 3) := by decide +kernel
theorem d_M_speakers_44 : decode b_M_speakers 44 = .ok (.goto (-40), 3) := by decide +kernel
theorem d_M_speakers_47 : decode b_M_speakers 47 = .ok (.iload_n 2, 1) := by decide +kernel
theorem d_M_speakers_48 : decode b_M_speakers 48 = .ok (.ireturn, 1) := by decide +kernel
theorem mo_M_speakers : mok y_M_speakers b_M_speakers 4 (some .int) 1 := ⟨List.mem_of_getElem? (i := 1249) (by decide +kernel), ⟨by decide +kernel, by decide +kernel, by decide +kernel⟩, List.mem_of_getElem? (i := 86) (by decide +kernel), by decide⟩
set_option maxHeartbeats 4000000 in
theorem L_M_speakers_4 {X : FX} {u : Un} (hA : Ap u) {Q : State → Prop} (F : Fr X u "TakerBookModel" b_M_speakers 4) {σ : St} {n : Nat} {kd : Nat → Nat} (hb : mkOk σ n kd) {kO a : Nat} (hO : ofOk kO) (ha : a < 64) (h0 : σ.1 kO 0 = nI a) (k : V X u 3 4 Q 47 [(0, .ref (u.2.1 63)), (1, .ref (u.2.1 kO)), (2, .int (nI (mkN (tkM σ kO kd n a) n))), (3, .int (nI n))] [] (σ)) : ∀ (nn i : Nat), i ≤ n → n - i < nn → V X u 3 4 Q 4 [(0, .ref (u.2.1 63)), (1, .ref (u.2.1 kO)), (2, .int (nI (mkN (tkM σ kO kd n a) i))), (3, .int (nI i))] [] (σ) := by
  intro nn
  induction nn with
  | zero =>
    intro i h1 h2
    exact absurd h2 (Nat.not_lt_zero _)
  | succ nn ih =>
    intro i hii hnn
    obtain ⟨hn, hn6, hkd, hk6⟩ := id hb
    refine v_iload_n F d_M_speakers_4 rfl 3 rfl ?_
    refine v_aload_n F d_M_speakers_5 rfl 0 rfl ?_
    refine v_geti F fk_M_146 G63 rfl d_M_speakers_6 ?_
    refine v_te (y := nI n) hn ?_
    refine v_icmp_ge F 47 d_M_speakers_9 rfl (fun h9 => ?_) (fun h9 => ?_)
    · skip
      have h9 : n ≤ i := (nI_leI (a := n) (b := i) (by omega) (by omega)).mp h9
      have he : i = n := by omega
      subst he
      exact k
    · skip
      have h9 : ¬ n ≤ i := fun q => h9 ((nI_leI (a := n) (b := i) (by omega) (by omega)).mpr q)
      refine v_iload_n F d_M_speakers_12 rfl 2 rfl ?_
      refine v_aload_n F d_M_speakers_13 rfl 1 rfl ?_
      refine v_iconst (v := 0) F d_M_speakers_14 ki_0 ?_
      refine v_ial F 0 hO.gam rfl (by omega) d_M_speakers_15 ?_
      refine v_te (y := nI a) h0 ?_
      refine v_iload_n F d_M_speakers_16 rfl 3 rfl ?_
      refine v_runi (r_S F (c_M_has2 X.2.1 u hA σ i a (by omega) (by omega)) mo_M_has st_M_155 (by decide) rfl (Nat.le_of_ble_eq_true rfl) d_M_speakers_17) (fun r1 σ2 q3 => ?_)
      obtain ⟨rfl, rfl⟩ := q3
      refine v_bt F 38 d_M_speakers_20 rfl (fun h20 => ?_) (fun h20 => ?_)
      · skip
        refine v_iconst (v := 0) F d_M_speakers_38 ki_0 ?_
        refine v_ior F d_M_speakers_39 ?_
        refine v_te (y := nI ((mkN (tkM σ kO kd n a) i) ||| 0)) nI_or ?_
        refine v_ni (fun x4 ex4 => ?_)
        refine v_istore_n (ls' := [(2, .int x4), (0, .ref (u.2.1 63)), (1, .ref (u.2.1 kO)), (3, .int (nI i))]) F d_M_speakers_40 rfl (by decide) rfl ?_
        refine v_iinc (v := nI (i + 1)) (ls' := [(3, .int (nI (i + 1))), (2, .int x4), (0, .ref (u.2.1 63)), (1, .ref (u.2.1 kO))]) F d_M_speakers_41 (j := 3) rfl (nI_inc _) (by decide) rfl ?_
        refine v_goto F 4 d_M_speakers_44 rfl ?_
        refine v_sub [2, 3, 1, 0] (ls' := [(0, .ref (u.2.1 63)), (1, .ref (u.2.1 kO)), (2, .int x4), (3, .int (nI (i + 1)))]) rfl ?_
        have g5 : x4 = (nI (mkN (tkM σ kO kd n a) (i + 1))) := (by first | rfl | (simp [mkN, tkM, tkF, *]; done) | (simp_all [mkN, tkM, tkF]; done) | grind [mkN, tkM, tkF])
        refine v_to (ls' := [(0, .ref (u.2.1 63)), (1, .ref (u.2.1 kO)), (2, .int (nI (mkN (tkM σ kO kd n a) (i + 1)))), (3, .int (nI (i + 1)))]) (by first | rfl | rw [g5] | simp_all) ?_
        exact ih (i + 1) (by omega) (by omega)
      · skip
        refine v_aload_n F d_M_speakers_23 rfl 0 rfl ?_
        refine v_aload_n F d_M_speakers_24 rfl 1 rfl ?_
        refine v_iload_n F d_M_speakers_25 rfl 3 rfl ?_
        refine v_runi (r_V F (c_M_isSpeaking X.2.1 u hA σ hb (kO := kO) hO (by omega) h0 i (by omega)) mo_M_isSpeaking st_M_167 rc_63 (by decide) rfl (Nat.le_of_ble_eq_true rfl) d_M_speakers_26) (fun r6 σ7 q8 => ?_)
        obtain ⟨rfl, rfl⟩ := q8
        refine v_bt F 38 d_M_speakers_29 rfl (fun h29 => ?_) (fun h29 => ?_)
        · skip
          refine v_iconst (v := 0) F d_M_speakers_38 ki_0 ?_
          refine v_ior F d_M_speakers_39 ?_
          refine v_te (y := nI ((mkN (tkM σ kO kd n a) i) ||| 0)) nI_or ?_
          refine v_ni (fun x9 ex9 => ?_)
          refine v_istore_n (ls' := [(2, .int x9), (0, .ref (u.2.1 63)), (1, .ref (u.2.1 kO)), (3, .int (nI i))]) F d_M_speakers_40 rfl (by decide) rfl ?_
          refine v_iinc (v := nI (i + 1)) (ls' := [(3, .int (nI (i + 1))), (2, .int x9), (0, .ref (u.2.1 63)), (1, .ref (u.2.1 kO))]) F d_M_speakers_41 (j := 3) rfl (nI_inc _) (by decide) rfl ?_
          refine v_goto F 4 d_M_speakers_44 rfl ?_
          refine v_sub [2, 3, 1, 0] (ls' := [(0, .ref (u.2.1 63)), (1, .ref (u.2.1 kO)), (2, .int x9), (3, .int (nI (i + 1)))]) rfl ?_
          have g10 : x9 = (nI (mkN (tkM σ kO kd n a) (i + 1))) := (by first | rfl | (simp [mkN, tkM, tkF, *]; done) | (simp_all [mkN, tkM, tkF]; done) | grind [mkN, tkM, tkF])
          refine v_to (ls' := [(0, .ref (u.2.1 63)), (1, .ref (u.2.1 kO)), (2, .int (nI (mkN (tkM σ kO kd n a) (i + 1)))), (3, .int (nI (i + 1)))]) (by first | rfl | rw [g10] | simp_all) ?_
          exact ih (i + 1) (by omega) (by omega)
        · skip
          refine v_iconst (v := 1) F d_M_speakers_32 ki_1 ?_
          refine v_iload_n F d_M_speakers_33 rfl 3 rfl ?_
          refine v_ishl F d_M_speakers_34 ?_
          refine v_te (y := nI (2 ^ i)) (bit6 _ (by omega)) ?_
          refine v_goto F 39 d_M_speakers_35 rfl ?_
          refine v_ior F d_M_speakers_39 ?_
          refine v_te (y := nI ((mkN (tkM σ kO kd n a) i) ||| (2 ^ i))) nI_or ?_
          refine v_ni (fun x11 ex11 => ?_)
          refine v_istore_n (ls' := [(2, .int x11), (0, .ref (u.2.1 63)), (1, .ref (u.2.1 kO)), (3, .int (nI i))]) F d_M_speakers_40 rfl (by decide) rfl ?_
          refine v_iinc (v := nI (i + 1)) (ls' := [(3, .int (nI (i + 1))), (2, .int x11), (0, .ref (u.2.1 63)), (1, .ref (u.2.1 kO))]) F d_M_speakers_41 (j := 3) rfl (nI_inc _) (by decide) rfl ?_
          refine v_goto F 4 d_M_speakers_44 rfl ?_
          refine v_sub [2, 3, 1, 0] (ls' := [(0, .ref (u.2.1 63)), (1, .ref (u.2.1 kO)), (2, .int x11), (3, .int (nI (i + 1)))]) rfl ?_
          have g12 : x11 = (nI (mkN (tkM σ kO kd n a) (i + 1))) := (by first | rfl | (simp [mkN, tkM, tkF, *]; done) | (simp_all [mkN, tkM, tkF]; done) | grind [mkN, tkM, tkF])
          refine v_to (ls' := [(0, .ref (u.2.1 63)), (1, .ref (u.2.1 kO)), (2, .int (nI (mkN (tkM σ kO kd n a) (i + 1)))), (3, .int (nI (i + 1)))]) (by first | rfl | rw [g12] | simp_all) ?_
          exact ih (i + 1) (by omega) (by omega)
set_option maxHeartbeats 4000000 in
theorem c_M_speakers (l : Launch) (u : Un) (hA : Ap u) (σ : St) {n : Nat} {kd : Nat → Nat} (hb : mkOk σ n kd) {kO a : Nat} (hO : ofOk kO) (ha : a < 64) (h0 : σ.1 kO 0 = nI a) : MTi l u y_M_speakers b_M_speakers 4 .int 3 [.ref (u.2.1 63), .ref (u.2.1 kO)] σ (fun ans σ' => nI (mkN (tkM σ kO kd n a) n) = ans ∧ σ = σ') := by
  refine MT_of hA rfl (by decide) (Nat.le_of_ble_eq_true rfl) (fun X hl F hr => ?_)
  subst hl
  refine v_to (ls' := [(0, .ref (u.2.1 63)), (1, .ref (u.2.1 kO))]) rfl ?_
  obtain ⟨hn, hn6, hkd, hk6⟩ := id hb
  refine v_iconst (v := 0) F d_M_speakers_0 ki_0 ?_
  refine v_istore_n (ls' := [(2, .int 0), (0, .ref (u.2.1 63)), (1, .ref (u.2.1 kO))]) F d_M_speakers_1 rfl (by decide) rfl ?_
  refine v_iconst (v := 0) F d_M_speakers_2 ki_0 ?_
  refine v_istore_n (ls' := [(3, .int 0), (2, .int 0), (0, .ref (u.2.1 63)), (1, .ref (u.2.1 kO))]) F d_M_speakers_3 rfl (by decide) rfl ?_
  refine v_sub [2, 3, 1, 0] (ls' := [(0, .ref (u.2.1 63)), (1, .ref (u.2.1 kO)), (2, .int 0), (3, .int 0)]) rfl ?_
  have g1 : 0 = (nI (mkN (tkM σ kO kd n a) 0)) := (by first | rfl | (simp [mkN, tkM, tkF, *]; done) | (simp_all [mkN, tkM, tkF]; done) | grind [mkN, tkM, tkF])
  have g2 : 0 = (nI 0) := (by first | rfl | (simp [mkN, tkM, tkF, *]; done) | (simp_all [mkN, tkM, tkF]; done) | grind [mkN, tkM, tkF])
  refine v_to (ls' := [(0, .ref (u.2.1 63)), (1, .ref (u.2.1 kO)), (2, .int (nI (mkN (tkM σ kO kd n a) 0))), (3, .int (nI 0))]) (by first | rfl | rw [g1, g2] | simp_all) ?_
  refine L_M_speakers_4 hA F hb hO ha h0 ?_ _ 0 (Nat.zero_le _) (Nat.lt_succ_self _)
  refine v_iload_n F d_M_speakers_47 rfl 2 rfl ?_
  refine v_iret F hr rfl d_M_speakers_48 ?_
  exact ⟨rfl, rfl⟩
abbrev b_M_isTrial : ByteArray := prog_14_method_40_code
abbrev y_M_isTrial : MethodName := ⟨"TakerBookModel", "isTrial", "([I)Z"⟩
theorem d_M_isTrial_0 : decode b_M_isTrial 0 = .ok (.aload_n 0, 1) := by decide +kernel
theorem d_M_isTrial_1 : decode b_M_isTrial 1 = .ok (.aload_n 1, 1) := by decide +kernel
theorem d_M_isTrial_2 : decode b_M_isTrial 2 = .ok (.invokevirtual 171, 3) := by decide +kernel
theorem d_M_isTrial_5 : decode b_M_isTrial 5 = .ok (.invokestatic 175, 3) := by decide +kernel
theorem d_M_isTrial_8 : decode b_M_isTrial 8 = .ok (.aload_n 0, 1) := by decide +kernel
theorem d_M_isTrial_9 : decode b_M_isTrial 9 = .ok (.getfield 33, 3) := by decide +kernel
theorem d_M_isTrial_12 : decode b_M_isTrial 12 = .ok (.iconst 3, 1) := by decide +kernel
theorem d_M_isTrial_13 : decode b_M_isTrial 13 = .ok (.iaload, 1) := by decide +kernel
theorem d_M_isTrial_14 : decode b_M_isTrial 14 = .ok (.if_icmp .lt 7, 3) := by decide +kernel
theorem d_M_isTrial_17 : decode b_M_isTrial 17 = .ok (.iconst 1, 1) := by decide +kernel
theorem d_M_isTrial_18 : decode b_M_isTrial 18 = .ok (.goto 4, 3) := by decide +kernel
theorem d_M_isTrial_21 : decode b_M_isTrial 21 = .ok (.iconst 0, 1) := by decide +kernel
theorem d_M_isTrial_22 : decode b_M_isTrial 22 = .ok (.ireturn, 1) := by decide +kernel
theorem mo_M_isTrial : mok y_M_isTrial b_M_isTrial 2 (some .boolean) 1 := ⟨List.mem_of_getElem? (i := 1272) (by decide +kernel), ⟨by decide +kernel, by decide +kernel, by decide +kernel⟩, List.mem_of_getElem? (i := 86) (by decide +kernel), by decide⟩
set_option maxHeartbeats 4000000 in
theorem c_M_isTrial (l : Launch) (u : Un) (hA : Ap u) (σ : St) {n : Nat} {kd : Nat → Nat} (hb : mkOk σ n kd) {kO a : Nat} (hO : ofOk kO) (ha : a < 64) (h0 : σ.1 kO 0 = nI a) : MTi l u y_M_isTrial b_M_isTrial 2 .boolean 4 [.ref (u.2.1 63), .ref (u.2.1 kO)] σ (fun ans σ' => bI (σ.1 70 3 ≤ nI (pcN (mkN (tkM σ kO kd n a) n))) = ans ∧ σ = σ') := by
  refine MT_of hA rfl (by decide) (Nat.le_of_ble_eq_true rfl) (fun X hl F hr => ?_)
  subst hl
  refine v_to (ls' := [(0, .ref (u.2.1 63)), (1, .ref (u.2.1 kO))]) rfl ?_
  obtain ⟨hn, hn6, hkd, hk6⟩ := id hb
  refine v_aload_n F d_M_isTrial_0 rfl 0 rfl ?_
  refine v_aload_n F d_M_isTrial_1 rfl 1 rfl ?_
  refine v_runi (r_V F (c_M_speakers X.2.1 u hA σ hb (kO := kO) hO (by omega) h0  ) mo_M_speakers st_M_171 rc_63 (by decide) rfl (Nat.le_of_ble_eq_true rfl) d_M_isTrial_2) (fun r1 σ2 q3 => ?_)
  obtain ⟨rfl, rfl⟩ := q3
  refine v_runi (r_S F (c_M_bits X.2.1 u hA σ (mkN (tkM σ kO kd n a) n) (mkN_64 _ hn6)) mo_M_bits st_M_175 (by decide) rfl (Nat.le_of_ble_eq_true rfl) d_M_isTrial_5) (fun r4 σ5 q6 => ?_)
  obtain ⟨rfl, rfl⟩ := q6
  refine v_aload_n F d_M_isTrial_8 rfl 0 rfl ?_
  refine v_getr (r := 70) F fk_M_33 G63 rfl d_M_isTrial_9 ?_
  refine v_iconst (v := 3) F d_M_isTrial_12 ki_3 ?_
  refine v_ial F 3 G70 rfl (by omega) d_M_isTrial_13 ?_
  refine v_icmp_lt F 21 d_M_isTrial_14 rfl (fun h14 => ?_) (fun h14 => ?_)
  · skip
    refine v_iconst (v := 0) F d_M_isTrial_21 ki_0 ?_
    refine v_iret F hr rfl d_M_isTrial_22 ?_
    exact ⟨(bI_f (by first | (simp_all [inR]; done) | grind)), rfl⟩
  · skip
    refine v_iconst (v := 1) F d_M_isTrial_17 ki_1 ?_
    refine v_goto F 22 d_M_isTrial_18 rfl ?_
    refine v_iret F hr rfl d_M_isTrial_22 ?_
    exact ⟨(bI_t (by first | (simp_all [inR]; done) | grind)), rfl⟩
abbrev b_M_loot : ByteArray := prog_14_method_41_code
abbrev y_M_loot : MethodName := ⟨"TakerBookModel", "loot", "([I)I"⟩
theorem d_M_loot_0 : decode b_M_loot 0 = .ok (.iconst 0, 1) := by decide +kernel
theorem d_M_loot_1 : decode b_M_loot 1 = .ok (.istore_n 2, 1) := by decide +kernel
theorem d_M_loot_2 : decode b_M_loot 2 = .ok (.iconst 0, 1) := by decide +kernel
theorem d_M_loot_3 : decode b_M_loot 3 = .ok (.istore_n 3, 1) := by decide +kernel
theorem d_M_loot_4 : decode b_M_loot 4 = .ok (.iload_n 3, 1) := by decide +kernel
theorem d_M_loot_5 : decode b_M_loot 5 = .ok (.aload_n 0, 1) := by decide +kernel
theorem d_M_loot_6 : decode b_M_loot 6 = .ok (.getfield 146, 3) := by decide +kernel
theorem d_M_loot_9 : decode b_M_loot 9 = .ok (.if_icmp .ge 32, 3) := by decide +kernel
theorem d_M_loot_12 : decode b_M_loot 12 = .ok (.iload_n 2, 1) := by decide +kernel
theorem d_M_loot_13 : decode b_M_loot 13 = .ok (.aload_n 1, 1) := by decide +kernel
theorem d_M_loot_14 : decode b_M_loot 14 = .ok (.iconst 0, 1) := by decide +kernel
theorem d_M_loot_15 : decode b_M_loot 15 = .ok (.iaload, 1) := by decide +kernel
theorem d_M_loot_16 : decode b_M_loot 16 = .ok (.iload_n 3, 1) := by decide +kernel
theorem d_M_loot_17 : decode b_M_loot 17 = .ok (.invokestatic 155, 3) := by decide +kernel
theorem d_M_loot_20 : decode b_M_loot 20 = .ok (.ifCond .eq 12, 3) := by decide +kernel
theorem d_M_loot_23 : decode b_M_loot 23 = .ok (.aload_n 0, 1) := by decide +kernel
theorem d_M_loot_24 : decode b_M_loot 24 = .ok (.aload_n 1, 1) := by decide +kernel
theorem d_M_loot_25 : decode b_M_loot 25 = .ok (.iload_n 3, 1) := by decide +kernel
theorem d_M_loot_26 : decode b_M_loot 26 = .ok (.invokevirtual 178, 3) := by decide +kernel
theorem d_M_loot_29 : decode b_M_loot 29 = .ok (.goto 4, 3) := by decide +kernel
theorem d_M_loot_32 : decode b_M_loot 32 = .ok (.iconst 0, 1) := by decide +kernel
theorem d_M_loot_33 : decode b_M_loot 33 = .ok (.iadd, 1) := by decide +kernel
theorem d_M_loot_34 : decode b_M_loot 34 = .ok (.istore_n 2, 1) := by decide +kernel
theorem d_M_loot_35 : decode b_M_loot 35 = .ok (.iinc 3 1, 3) := by decide +kernel
theorem d_M_loot_38 : decode b_M_loot 38 = .ok (.goto (-34), 3) := by decide +kernel
theorem d_M_loot_41 : decode b_M_loot 41 = .ok (.iload_n 2, 1) := by decide +kernel
theorem d_M_loot_42 : decode b_M_loot 42 = .ok (.ireturn, 1) := by decide +kernel
theorem mo_M_loot : mok y_M_loot b_M_loot 4 (some .int) 1 := ⟨List.mem_of_getElem? (i := 1276) (by decide +kernel), ⟨by decide +kernel, by decide +kernel, by decide +kernel⟩, List.mem_of_getElem? (i := 86) (by decide +kernel), by decide⟩
set_option maxHeartbeats 4000000 in
theorem L_M_loot_4 {X : FX} {u : Un} (hA : Ap u) {Q : State → Prop} (F : Fr X u "TakerBookModel" b_M_loot 4) {σ : St} {n : Nat} {kd : Nat → Nat} (hb : mkOk σ n kd) {kO a : Nat} (hO : ofOk kO) (ha : a < 64) (h0 : σ.1 kO 0 = nI a) (k : V X u 3 4 Q 41 [(0, .ref (u.2.1 63)), (1, .ref (u.2.1 kO)), (2, .int (sumI (ltA kd (σ.1 72) (gaN kd n) a) n)), (3, .int (nI n))] [] (σ)) : ∀ (nn i : Nat), i ≤ n → n - i < nn → V X u 3 4 Q 4 [(0, .ref (u.2.1 63)), (1, .ref (u.2.1 kO)), (2, .int (sumI (ltA kd (σ.1 72) (gaN kd n) a) i)), (3, .int (nI i))] [] (σ) := by
  intro nn
  induction nn with
  | zero =>
    intro i h1 h2
    exact absurd h2 (Nat.not_lt_zero _)
  | succ nn ih =>
    intro i hii hnn
    obtain ⟨hn, hn6, hkd, hk6⟩ := id hb
    refine v_iload_n F d_M_loot_4 rfl 3 rfl ?_
    refine v_aload_n F d_M_loot_5 rfl 0 rfl ?_
    refine v_geti F fk_M_146 G63 rfl d_M_loot_6 ?_
    refine v_te (y := nI n) hn ?_
    refine v_icmp_ge F 41 d_M_loot_9 rfl (fun h9 => ?_) (fun h9 => ?_)
    · skip
      have h9 : n ≤ i := (nI_leI (a := n) (b := i) (by omega) (by omega)).mp h9
      have he : i = n := by omega
      subst he
      exact k
    · skip
      have h9 : ¬ n ≤ i := fun q => h9 ((nI_leI (a := n) (b := i) (by omega) (by omega)).mpr q)
      refine v_iload_n F d_M_loot_12 rfl 2 rfl ?_
      refine v_aload_n F d_M_loot_13 rfl 1 rfl ?_
      refine v_iconst (v := 0) F d_M_loot_14 ki_0 ?_
      refine v_ial F 0 hO.gam rfl (by omega) d_M_loot_15 ?_
      refine v_te (y := nI a) h0 ?_
      refine v_iload_n F d_M_loot_16 rfl 3 rfl ?_
      refine v_runi (r_S F (c_M_has2 X.2.1 u hA σ i a (by omega) (by omega)) mo_M_has st_M_155 (by decide) rfl (Nat.le_of_ble_eq_true rfl) d_M_loot_17) (fun r1 σ2 q3 => ?_)
      obtain ⟨rfl, rfl⟩ := q3
      refine v_bt F 32 d_M_loot_20 rfl (fun h20 => ?_) (fun h20 => ?_)
      · skip
        refine v_iconst (v := 0) F d_M_loot_32 ki_0 ?_
        refine v_iadd F d_M_loot_33 ?_
        refine v_ni (fun x4 ex4 => ?_)
        refine v_istore_n (ls' := [(2, .int x4), (0, .ref (u.2.1 63)), (1, .ref (u.2.1 kO)), (3, .int (nI i))]) F d_M_loot_34 rfl (by decide) rfl ?_
        refine v_iinc (v := nI (i + 1)) (ls' := [(3, .int (nI (i + 1))), (2, .int x4), (0, .ref (u.2.1 63)), (1, .ref (u.2.1 kO))]) F d_M_loot_35 (j := 3) rfl (nI_inc _) (by decide) rfl ?_
        refine v_goto F 4 d_M_loot_38 rfl ?_
        refine v_sub [2, 3, 1, 0] (ls' := [(0, .ref (u.2.1 63)), (1, .ref (u.2.1 kO)), (2, .int x4), (3, .int (nI (i + 1)))]) rfl ?_
        have g5 : x4 = (sumI (ltA kd (σ.1 72) (gaN kd n) a) (i + 1)) := (by first | rfl | (simp [sumI, ltA, *]; done) | (simp_all [sumI, ltA]; done) | grind [sumI, ltA])
        refine v_to (ls' := [(0, .ref (u.2.1 63)), (1, .ref (u.2.1 kO)), (2, .int (sumI (ltA kd (σ.1 72) (gaN kd n) a) (i + 1))), (3, .int (nI (i + 1)))]) (by first | rfl | rw [g5] | simp_all) ?_
        exact ih (i + 1) (by omega) (by omega)
      · skip
        refine v_aload_n F d_M_loot_23 rfl 0 rfl ?_
        refine v_aload_n F d_M_loot_24 rfl 1 rfl ?_
        refine v_iload_n F d_M_loot_25 rfl 3 rfl ?_
        refine v_runi (r_V F (c_M_steals X.2.1 u hA σ hb (kO := kO) hO (by omega) h0 i (by omega)) mo_M_steals st_M_178 rc_63 (by decide) rfl (Nat.le_of_ble_eq_true rfl) d_M_loot_26) (fun r6 σ7 q8 => ?_)
        obtain ⟨rfl, rfl⟩ := q8
        refine v_goto F 33 d_M_loot_29 rfl ?_
        refine v_iadd F d_M_loot_33 ?_
        refine v_ni (fun x9 ex9 => ?_)
        refine v_istore_n (ls' := [(2, .int x9), (0, .ref (u.2.1 63)), (1, .ref (u.2.1 kO)), (3, .int (nI i))]) F d_M_loot_34 rfl (by decide) rfl ?_
        refine v_iinc (v := nI (i + 1)) (ls' := [(3, .int (nI (i + 1))), (2, .int x9), (0, .ref (u.2.1 63)), (1, .ref (u.2.1 kO))]) F d_M_loot_35 (j := 3) rfl (nI_inc _) (by decide) rfl ?_
        refine v_goto F 4 d_M_loot_38 rfl ?_
        refine v_sub [2, 3, 1, 0] (ls' := [(0, .ref (u.2.1 63)), (1, .ref (u.2.1 kO)), (2, .int x9), (3, .int (nI (i + 1)))]) rfl ?_
        have g10 : x9 = (sumI (ltA kd (σ.1 72) (gaN kd n) a) (i + 1)) := (by first | rfl | (simp [sumI, ltA, *]; done) | (simp_all [sumI, ltA]; done) | grind [sumI, ltA])
        refine v_to (ls' := [(0, .ref (u.2.1 63)), (1, .ref (u.2.1 kO)), (2, .int (sumI (ltA kd (σ.1 72) (gaN kd n) a) (i + 1))), (3, .int (nI (i + 1)))]) (by first | rfl | rw [g10] | simp_all) ?_
        exact ih (i + 1) (by omega) (by omega)
set_option maxHeartbeats 4000000 in
theorem c_M_loot (l : Launch) (u : Un) (hA : Ap u) (σ : St) {n : Nat} {kd : Nat → Nat} (hb : mkOk σ n kd) {kO a : Nat} (hO : ofOk kO) (ha : a < 64) (h0 : σ.1 kO 0 = nI a) : MTi l u y_M_loot b_M_loot 4 .int 3 [.ref (u.2.1 63), .ref (u.2.1 kO)] σ (fun ans σ' => sumI (ltA kd (σ.1 72) (gaN kd n) a) n = ans ∧ σ = σ') := by
  refine MT_of hA rfl (by decide) (Nat.le_of_ble_eq_true rfl) (fun X hl F hr => ?_)
  subst hl
  refine v_to (ls' := [(0, .ref (u.2.1 63)), (1, .ref (u.2.1 kO))]) rfl ?_
  obtain ⟨hn, hn6, hkd, hk6⟩ := id hb
  refine v_iconst (v := 0) F d_M_loot_0 ki_0 ?_
  refine v_istore_n (ls' := [(2, .int 0), (0, .ref (u.2.1 63)), (1, .ref (u.2.1 kO))]) F d_M_loot_1 rfl (by decide) rfl ?_
  refine v_iconst (v := 0) F d_M_loot_2 ki_0 ?_
  refine v_istore_n (ls' := [(3, .int 0), (2, .int 0), (0, .ref (u.2.1 63)), (1, .ref (u.2.1 kO))]) F d_M_loot_3 rfl (by decide) rfl ?_
  refine v_sub [2, 3, 1, 0] (ls' := [(0, .ref (u.2.1 63)), (1, .ref (u.2.1 kO)), (2, .int 0), (3, .int 0)]) rfl ?_
  have g1 : 0 = (sumI (ltA kd (σ.1 72) (gaN kd n) a) 0) := (by first | rfl | (simp [sumI, ltA, *]; done) | (simp_all [sumI, ltA]; done) | grind [sumI, ltA])
  have g2 : 0 = (nI 0) := (by first | rfl | (simp [sumI, ltA, *]; done) | (simp_all [sumI, ltA]; done) | grind [sumI, ltA])
  refine v_to (ls' := [(0, .ref (u.2.1 63)), (1, .ref (u.2.1 kO)), (2, .int (sumI (ltA kd (σ.1 72) (gaN kd n) a) 0)), (3, .int (nI 0))]) (by first | rfl | rw [g1, g2] | simp_all) ?_
  refine L_M_loot_4 hA F hb hO ha h0 ?_ _ 0 (Nat.zero_le _) (Nat.lt_succ_self _)
  refine v_iload_n F d_M_loot_41 rfl 2 rfl ?_
  refine v_iret F hr rfl d_M_loot_42 ?_
  exact ⟨rfl, rfl⟩
abbrev b_M_passes : ByteArray := prog_14_method_42_code
abbrev y_M_passes : MethodName := ⟨"TakerBookModel", "passes", "([I)V"⟩
theorem d_M_passes_0 : decode b_M_passes 0 = .ok (.aload_n 0, 1) := by decide +kernel
theorem d_M_passes_1 : decode b_M_passes 1 = .ok (.aload_n 1, 1) := by decide +kernel
theorem d_M_passes_2 : decode b_M_passes 2 = .ok (.invokevirtual 181, 3) := by decide +kernel
theorem d_M_passes_5 : decode b_M_passes 5 = .ok (.istore_n 2, 1) := by decide +kernel
theorem d_M_passes_6 : decode b_M_passes 6 = .ok (.aload_n 1, 1) := by decide +kernel
theorem d_M_passes_7 : decode b_M_passes 7 = .ok (.iconst 3, 1) := by decide +kernel
theorem d_M_passes_8 : decode b_M_passes 8 = .ok (.dup2, 1) := by decide +kernel
theorem d_M_passes_9 : decode b_M_passes 9 = .ok (.iaload, 1) := by decide +kernel
theorem d_M_passes_10 : decode b_M_passes 10 = .ok (.iconst 1, 1) := by decide +kernel
theorem d_M_passes_11 : decode b_M_passes 11 = .ok (.iadd, 1) := by decide +kernel
theorem d_M_passes_12 : decode b_M_passes 12 = .ok (.iastore, 1) := by decide +kernel
theorem d_M_passes_13 : decode b_M_passes 13 = .ok (.aload_n 1, 1) := by decide +kernel
theorem d_M_passes_14 : decode b_M_passes 14 = .ok (.iconst 4, 1) := by decide +kernel
theorem d_M_passes_15 : decode b_M_passes 15 = .ok (.iload_n 2, 1) := by decide +kernel
theorem d_M_passes_16 : decode b_M_passes 16 = .ok (.ifCond .eq 7, 3) := by decide +kernel
theorem d_M_passes_19 : decode b_M_passes 19 = .ok (.iconst 1, 1) := by decide +kernel
theorem d_M_passes_20 : decode b_M_passes 20 = .ok (.goto 4, 3) := by decide +kernel
theorem d_M_passes_23 : decode b_M_passes 23 = .ok (.iconst 0, 1) := by decide +kernel
theorem d_M_passes_24 : decode b_M_passes 24 = .ok (.iastore, 1) := by decide +kernel
theorem d_M_passes_25 : decode b_M_passes 25 = .ok (.aload_n 1, 1) := by decide +kernel
theorem d_M_passes_26 : decode b_M_passes 26 = .ok (.iconst 2, 1) := by decide +kernel
theorem d_M_passes_27 : decode b_M_passes 27 = .ok (.dup2, 1) := by decide +kernel
theorem d_M_passes_28 : decode b_M_passes 28 = .ok (.iaload, 1) := by decide +kernel
theorem d_M_passes_29 : decode b_M_passes 29 = .ok (.iload_n 2, 1) := by decide +kernel
theorem d_M_passes_30 : decode b_M_passes 30 = .ok (.ifCond .eq 7, 3) := by decide +kernel
theorem d_M_passes_33 : decode b_M_passes 33 = .ok (.iconst 0, 1) := by decide +kernel
theorem d_M_passes_34 : decode b_M_passes 34 = .ok (.goto 8, 3) := by decide +kernel
theorem d_M_passes_37 : decode b_M_passes 37 = .ok (.aload_n 0, 1) := by decide +kernel
theorem d_M_passes_38 : decode b_M_passes 38 = .ok (.aload_n 1, 1) := by decide +kernel
theorem d_M_passes_39 : decode b_M_passes 39 = .ok (.invokevirtual 185, 3) := by decide +kernel
theorem d_M_passes_42 : decode b_M_passes 42 = .ok (.iadd, 1) := by decide +kernel
theorem d_M_passes_43 : decode b_M_passes 43 = .ok (.iastore, 1) := by decide +kernel
theorem d_M_passes_44 : decode b_M_passes 44 = .ok (.return_, 1) := by decide +kernel
theorem mo_M_passes : mok y_M_passes b_M_passes 3 none 1 := ⟨List.mem_of_getElem? (i := 1268) (by decide +kernel), ⟨by decide +kernel, by decide +kernel, by decide +kernel⟩, List.mem_of_getElem? (i := 86) (by decide +kernel), by decide⟩
set_option maxHeartbeats 4000000 in
theorem c_M_passes (l : Launch) (u : Un) (hA : Ap u) (σ : St) {n : Nat} {kd : Nat → Nat} (hb : mkOk σ n kd) {kO a : Nat} (hO : ofOk kO) (ha : a < 64) (h0 : σ.1 kO 0 = nI a) : MTv l u y_M_passes b_M_passes 3 5 [.ref (u.2.1 63), .ref (u.2.1 kO)] σ (fun σ' => σ' = paM σ kO kd n a) := by
  refine MT_of hA rfl (by decide) (Nat.le_of_ble_eq_true rfl) (fun X hl F hr => ?_)
  subst hl
  refine v_to (ls' := [(0, .ref (u.2.1 63)), (1, .ref (u.2.1 kO))]) rfl ?_
  obtain ⟨hn, hn6, hkd, hk6⟩ := id hb
  obtain ⟨ne1, ne2, ne3, ne4, ne5, ne6, ne7, ne8, ne9, ne10⟩ := hO.ne
  refine v_aload_n F d_M_passes_0 rfl 0 rfl ?_
  refine v_aload_n F d_M_passes_1 rfl 1 rfl ?_
  refine v_runi (r_V F (c_M_isTrial X.2.1 u hA σ hb (kO := kO) hO (by omega) h0  ) mo_M_isTrial st_M_181 rc_63 (by decide) rfl (Nat.le_of_ble_eq_true rfl) d_M_passes_2) (fun r1 σ2 q3 => ?_)
  obtain ⟨rfl, rfl⟩ := q3
  refine v_istore_n (ls' := [(2, .int (bI (σ.1 70 3 ≤ nI (pcN (mkN (tkM σ kO kd n a) n))))), (0, .ref (u.2.1 63)), (1, .ref (u.2.1 kO))]) F d_M_passes_5 rfl (by decide) rfl ?_
  refine v_aload_n F d_M_passes_6 rfl 2 rfl ?_
  refine v_iconst (v := 3) F d_M_passes_7 ki_3 ?_
  refine v_dup2_11 F d_M_passes_8 rfl rfl ?_
  refine v_ial F 3 hO.gam rfl (by omega) d_M_passes_9 ?_
  refine v_iconst (v := 1) F d_M_passes_10 ki_1 ?_
  refine v_iadd F d_M_passes_11 ?_
  refine v_ias F 3 hO.gam rfl (by omega) d_M_passes_12 ?_
  refine v_ns (fun σ4 eσ4 => ?_)
  refine v_aload_n F d_M_passes_13 rfl 2 rfl ?_
  refine v_iconst (v := 4) F d_M_passes_14 ki_4 ?_
  refine v_iload_n F d_M_passes_15 rfl 0 rfl ?_
  refine v_bt F 23 d_M_passes_16 rfl (fun h16 => ?_) (fun h16 => ?_)
  · skip
    refine v_iconst (v := 0) F d_M_passes_23 ki_0 ?_
    refine v_ias F 4 hO.gam rfl (by omega) d_M_passes_24 ?_
    refine v_ns (fun σ5 eσ5 => ?_)
    refine v_aload_n F d_M_passes_25 rfl 2 rfl ?_
    refine v_iconst (v := 2) F d_M_passes_26 ki_2 ?_
    refine v_dup2_11 F d_M_passes_27 rfl rfl ?_
    refine v_ial F 2 hO.gam rfl (by omega) d_M_passes_28 ?_
    refine v_iload_n F d_M_passes_29 rfl 0 rfl ?_
    refine v_bt F 37 d_M_passes_30 rfl (fun h30 => ?_) (fun h30 => ?_)
    · skip
      have hb2 : mkOk σ5 n kd := mkOk_of hb (by simp_all [uI]) (by simp_all [uI])
      have h02 : σ5.1 kO 0 = nI a := by simp_all [uI, upd]
      refine v_aload_n F d_M_passes_37 rfl 1 rfl ?_
      refine v_aload_n F d_M_passes_38 rfl 2 rfl ?_
      refine v_runi (r_V F (c_M_loot X.2.1 u hA σ5 hb2 (kO := kO) hO (by omega) h02  ) mo_M_loot st_M_185 rc_63 (by decide) rfl (Nat.le_of_ble_eq_true rfl) d_M_passes_39) (fun r6 σ7 q8 => ?_)
      obtain ⟨rfl, rfl⟩ := q8
      refine v_iadd F d_M_passes_42 ?_
      refine v_ias F 2 hO.gam rfl (by omega) d_M_passes_43 ?_
      refine v_ns (fun σ9 eσ9 => ?_)
      refine v_vret F hr d_M_passes_44 ?_
      first | (rw [paM, if_neg h30, if_neg h30]; simp_all [uI, upd]; done) | (rw [paM, if_pos h30, if_pos h30]; simp_all [uI, upd]; done)
    · skip
      refine v_iconst (v := 0) F d_M_passes_33 ki_0 ?_
      refine v_goto F 42 d_M_passes_34 rfl ?_
      refine v_iadd F d_M_passes_42 ?_
      refine v_ias F 2 hO.gam rfl (by omega) d_M_passes_43 ?_
      refine v_ns (fun σ10 eσ10 => ?_)
      refine v_vret F hr d_M_passes_44 ?_
      first | (rw [paM, if_neg h30, if_neg h30]; simp_all [uI, upd]; done) | (rw [paM, if_pos h30, if_pos h30]; simp_all [uI, upd]; done)
  · skip
    refine v_iconst (v := 1) F d_M_passes_19 ki_1 ?_
    refine v_goto F 24 d_M_passes_20 rfl ?_
    refine v_ias F 4 hO.gam rfl (by omega) d_M_passes_24 ?_
    refine v_ns (fun σ11 eσ11 => ?_)
    refine v_aload_n F d_M_passes_25 rfl 2 rfl ?_
    refine v_iconst (v := 2) F d_M_passes_26 ki_2 ?_
    refine v_dup2_11 F d_M_passes_27 rfl rfl ?_
    refine v_ial F 2 hO.gam rfl (by omega) d_M_passes_28 ?_
    refine v_iload_n F d_M_passes_29 rfl 0 rfl ?_
    refine v_bt F 37 d_M_passes_30 rfl (fun h30 => ?_) (fun h30 => ?_)
    · skip
      have hb2 : mkOk σ11 n kd := mkOk_of hb (by simp_all [uI]) (by simp_all [uI])
      have h02 : σ11.1 kO 0 = nI a := by simp_all [uI, upd]
      refine v_aload_n F d_M_passes_37 rfl 1 rfl ?_
      refine v_aload_n F d_M_passes_38 rfl 2 rfl ?_
      refine v_runi (r_V F (c_M_loot X.2.1 u hA σ11 hb2 (kO := kO) hO (by omega) h02  ) mo_M_loot st_M_185 rc_63 (by decide) rfl (Nat.le_of_ble_eq_true rfl) d_M_passes_39) (fun r12 σ13 q14 => ?_)
      obtain ⟨rfl, rfl⟩ := q14
      refine v_iadd F d_M_passes_42 ?_
      refine v_ias F 2 hO.gam rfl (by omega) d_M_passes_43 ?_
      refine v_ns (fun σ15 eσ15 => ?_)
      refine v_vret F hr d_M_passes_44 ?_
      first | (rw [paM, if_neg h30, if_neg h30]; simp_all [uI, upd]; done) | (rw [paM, if_pos h30, if_pos h30]; simp_all [uI, upd]; done)
    · skip
      refine v_iconst (v := 0) F d_M_passes_33 ki_0 ?_
      refine v_goto F 42 d_M_passes_34 rfl ?_
      refine v_iadd F d_M_passes_42 ?_
      refine v_ias F 2 hO.gam rfl (by omega) d_M_passes_43 ?_
      refine v_ns (fun σ16 eσ16 => ?_)
      refine v_vret F hr d_M_passes_44 ?_
      first | (rw [paM, if_neg h30, if_neg h30]; simp_all [uI, upd]; done) | (rw [paM, if_pos h30, if_pos h30]; simp_all [uI, upd]; done)
abbrev b_M_givesUp : ByteArray := prog_14_method_43_code
abbrev y_M_givesUp : MethodName := ⟨"TakerBookModel", "givesUp", "([II)V"⟩
theorem d_M_givesUp_0 : decode b_M_givesUp 0 = .ok (.aload_n 1, 1) := by decide +kernel
theorem d_M_givesUp_1 : decode b_M_givesUp 1 = .ok (.iconst 1, 1) := by decide +kernel
theorem d_M_givesUp_2 : decode b_M_givesUp 2 = .ok (.dup2, 1) := by decide +kernel
theorem d_M_givesUp_3 : decode b_M_givesUp 3 = .ok (.iaload, 1) := by decide +kernel
theorem d_M_givesUp_4 : decode b_M_givesUp 4 = .ok (.aload_n 0, 1) := by decide +kernel
theorem d_M_givesUp_5 : decode b_M_givesUp 5 = .ok (.aload_n 1, 1) := by decide +kernel
theorem d_M_givesUp_6 : decode b_M_givesUp 6 = .ok (.iload_n 2, 1) := by decide +kernel
theorem d_M_givesUp_7 : decode b_M_givesUp 7 = .ok (.invokevirtual 188, 3) := by decide +kernel
theorem d_M_givesUp_10 : decode b_M_givesUp 10 = .ok (.iadd, 1) := by decide +kernel
theorem d_M_givesUp_11 : decode b_M_givesUp 11 = .ok (.iastore, 1) := by decide +kernel
theorem d_M_givesUp_12 : decode b_M_givesUp 12 = .ok (.aload_n 1, 1) := by decide +kernel
theorem d_M_givesUp_13 : decode b_M_givesUp 13 = .ok (.iconst 0, 1) := by decide +kernel
theorem d_M_givesUp_14 : decode b_M_givesUp 14 = .ok (.dup2, 1) := by decide +kernel
theorem d_M_givesUp_15 : decode b_M_givesUp 15 = .ok (.iaload, 1) := by decide +kernel
theorem d_M_givesUp_16 : decode b_M_givesUp 16 = .ok (.iconst 1, 1) := by decide +kernel
theorem d_M_givesUp_17 : decode b_M_givesUp 17 = .ok (.iload_n 2, 1) := by decide +kernel
theorem d_M_givesUp_18 : decode b_M_givesUp 18 = .ok (.ishl, 1) := by decide +kernel
theorem d_M_givesUp_19 : decode b_M_givesUp 19 = .ok (.iconst (-1), 1) := by decide +kernel
theorem d_M_givesUp_20 : decode b_M_givesUp 20 = .ok (.ixor, 1) := by decide +kernel
theorem d_M_givesUp_21 : decode b_M_givesUp 21 = .ok (.iand, 1) := by decide +kernel
theorem d_M_givesUp_22 : decode b_M_givesUp 22 = .ok (.iastore, 1) := by decide +kernel
theorem d_M_givesUp_23 : decode b_M_givesUp 23 = .ok (.return_, 1) := by decide +kernel
theorem mo_M_givesUp : mok y_M_givesUp b_M_givesUp 3 none 2 := ⟨List.mem_of_getElem? (i := 1296) (by decide +kernel), ⟨by decide +kernel, by decide +kernel, by decide +kernel⟩, List.mem_of_getElem? (i := 86) (by decide +kernel), by decide⟩
set_option maxHeartbeats 4000000 in
theorem c_M_givesUp (l : Launch) (u : Un) (hA : Ap u) (σ : St) {n : Nat} {kd : Nat → Nat} (hb : mkOk σ n kd) {kO a : Nat} (hO : ofOk kO) (ha : a < 64) (h0 : σ.1 kO 0 = nI a) (i : Nat) (hi : i < n) : MTv l u y_M_givesUp b_M_givesUp 3 1 [.ref (u.2.1 63), .ref (u.2.1 kO), .int (nI i)] σ (fun σ' => σ' = guM σ kO kd a i) := by
  refine MT_of hA rfl (by decide) (Nat.le_of_ble_eq_true rfl) (fun X hl F hr => ?_)
  subst hl
  refine v_to (ls' := [(0, .ref (u.2.1 63)), (1, .ref (u.2.1 kO)), (2, .int (nI i))]) rfl ?_
  obtain ⟨hn, hn6, hkd, hk6⟩ := id hb
  obtain ⟨ne1, ne2, ne3, ne4, ne5, ne6, ne7, ne8, ne9, ne10⟩ := hO.ne
  refine v_aload_n F d_M_givesUp_0 rfl 1 rfl ?_
  refine v_iconst (v := 1) F d_M_givesUp_1 ki_1 ?_
  refine v_dup2_11 F d_M_givesUp_2 rfl rfl ?_
  refine v_ial F 1 hO.gam rfl (by omega) d_M_givesUp_3 ?_
  refine v_aload_n F d_M_givesUp_4 rfl 0 rfl ?_
  refine v_aload_n F d_M_givesUp_5 rfl 1 rfl ?_
  refine v_iload_n F d_M_givesUp_6 rfl 2 rfl ?_
  refine v_runi (r_V F (c_M_headOf X.2.1 u hA σ hb (kO := kO) hO (by omega) h0 i (by omega)) mo_M_headOf st_M_188 rc_63 (by decide) rfl (Nat.le_of_ble_eq_true rfl) d_M_givesUp_7) (fun r1 σ2 q3 => ?_)
  obtain ⟨rfl, rfl⟩ := q3
  refine v_iadd F d_M_givesUp_10 ?_
  refine v_ias F 1 hO.gam rfl (by omega) d_M_givesUp_11 ?_
  refine v_ns (fun σ4 eσ4 => ?_)
  refine v_aload_n F d_M_givesUp_12 rfl 1 rfl ?_
  refine v_iconst (v := 0) F d_M_givesUp_13 ki_0 ?_
  refine v_dup2_11 F d_M_givesUp_14 rfl rfl ?_
  refine v_ial F 0 hO.gam rfl (by omega) d_M_givesUp_15 ?_
  refine v_te (y := nI a) (by simp_all [uI, upd]) ?_
  refine v_iconst (v := 1) F d_M_givesUp_16 ki_1 ?_
  refine v_iload_n F d_M_givesUp_17 rfl 2 rfl ?_
  refine v_ishl F d_M_givesUp_18 ?_
  refine v_iconst (v := (-1)) F d_M_givesUp_19 ki_m1 ?_
  refine v_ixor F d_M_givesUp_20 ?_
  refine v_iand F d_M_givesUp_21 ?_
  refine v_te (y := nI (a &&& (63 ^^^ 2 ^ i))) (mask6 _ ha _ (by omega)) ?_
  refine v_ias F 0 hO.gam rfl (by omega) d_M_givesUp_22 ?_
  refine v_ns (fun σ5 eσ5 => ?_)
  refine v_vret F hr d_M_givesUp_23 ?_
  simp_all [guM, uI, upd]
abbrev b_M_copyNow : ByteArray := prog_14_method_44_code
abbrev y_M_copyNow : MethodName := ⟨"TakerBookModel", "copyNow", "()V"⟩
theorem d_M_copyNow_0 : decode b_M_copyNow 0 = .ok (.iconst 0, 1) := by decide +kernel
theorem d_M_copyNow_1 : decode b_M_copyNow 1 = .ok (.istore_n 1, 1) := by decide +kernel
theorem d_M_copyNow_2 : decode b_M_copyNow 2 = .ok (.iload_n 1, 1) := by decide +kernel
theorem d_M_copyNow_3 : decode b_M_copyNow 3 = .ok (.bipush 11, 2) := by decide +kernel
theorem d_M_copyNow_5 : decode b_M_copyNow 5 = .ok (.if_icmp .ge 21, 3) := by decide +kernel
theorem d_M_copyNow_8 : decode b_M_copyNow 8 = .ok (.aload_n 0, 1) := by decide +kernel
theorem d_M_copyNow_9 : decode b_M_copyNow 9 = .ok (.getfield 54, 3) := by decide +kernel
theorem d_M_copyNow_12 : decode b_M_copyNow 12 = .ok (.iload_n 1, 1) := by decide +kernel
theorem d_M_copyNow_13 : decode b_M_copyNow 13 = .ok (.aload_n 0, 1) := by decide +kernel
theorem d_M_copyNow_14 : decode b_M_copyNow 14 = .ok (.getfield 51, 3) := by decide +kernel
theorem d_M_copyNow_17 : decode b_M_copyNow 17 = .ok (.iload_n 1, 1) := by decide +kernel
theorem d_M_copyNow_18 : decode b_M_copyNow 18 = .ok (.iaload, 1) := by decide +kernel
theorem d_M_copyNow_19 : decode b_M_copyNow 19 = .ok (.iastore, 1) := by decide +kernel
theorem d_M_copyNow_20 : decode b_M_copyNow 20 = .ok (.iinc 1 1, 3) := by decide +kernel
theorem d_M_copyNow_23 : decode b_M_copyNow 23 = .ok (.goto (-21), 3) := by decide +kernel
theorem d_M_copyNow_26 : decode b_M_copyNow 26 = .ok (.return_, 1) := by decide +kernel
theorem mo_M_copyNow : mok y_M_copyNow b_M_copyNow 2 none 0 := ⟨List.mem_of_getElem? (i := 1320) (by decide +kernel), ⟨by decide +kernel, by decide +kernel, by decide +kernel⟩, List.mem_of_getElem? (i := 86) (by decide +kernel), by decide⟩
set_option maxHeartbeats 4000000 in
theorem L_M_copyNow_2 {X : FX} {u : Un} (hA : Ap u) {Q : State → Prop} (F : Fr X u "TakerBookModel" b_M_copyNow 2) {σ : St} (k : V X u 0 2 Q 26 [(0, .ref (u.2.1 63)), (1, .int (nI 11))] [] ((cpF σ 77 0 (σ.1 76) 11))) : ∀ (nn i : Nat), i ≤ 11 → 11 - i < nn → V X u 0 2 Q 2 [(0, .ref (u.2.1 63)), (1, .int (nI i))] [] ((cpF σ 77 0 (σ.1 76) i)) := by
  intro nn
  induction nn with
  | zero =>
    intro i h1 h2
    exact absurd h2 (Nat.not_lt_zero _)
  | succ nn ih =>
    intro i hii hnn
    refine v_iload_n F d_M_copyNow_2 rfl 1 rfl ?_
    refine v_bipush (v := 11) F d_M_copyNow_3 kb_11 ?_
    refine v_icmp_ge F 26 d_M_copyNow_5 rfl (fun h5 => ?_) (fun h5 => ?_)
    · skip
      have h5 : 11 ≤ i := (nI_leI (a := 11) (b := i) (by omega) (by omega)).mp h5
      have he : i = 11 := by omega
      subst he
      exact k
    · skip
      have h5 : ¬ 11 ≤ i := fun q => h5 ((nI_leI (a := 11) (b := i) (by omega) (by omega)).mpr q)
      refine v_aload_n F d_M_copyNow_8 rfl 0 rfl ?_
      refine v_getr (r := 77) F fk_M_54 G63 rfl d_M_copyNow_9 ?_
      refine v_iload_n F d_M_copyNow_12 rfl 1 rfl ?_
      refine v_aload_n F d_M_copyNow_13 rfl 0 rfl ?_
      refine v_getr (r := 76) F fk_M_51 G63 rfl d_M_copyNow_14 ?_
      refine v_iload_n F d_M_copyNow_17 rfl 1 rfl ?_
      refine v_ial F i G76 rfl (by omega) d_M_copyNow_18 ?_
      refine v_ias F i G77 rfl (by omega) d_M_copyNow_19 ?_
      refine v_ns (fun σ1 eσ1 => ?_)
      refine v_iinc (v := nI (i + 1)) (ls' := [(1, .int (nI (i + 1))), (0, .ref (u.2.1 63))]) F d_M_copyNow_20 (j := 1) rfl (nI_inc _) (by decide) rfl ?_
      refine v_goto F 2 d_M_copyNow_23 rfl ?_
      refine v_sub [1, 0] (ls' := [(0, .ref (u.2.1 63)), (1, .int (nI (i + 1)))]) rfl ?_
      refine v_st (show σ1 = (cpF σ 77 0 (σ.1 76) (i + 1)) from (by first | rfl | (simp [cpF, cpF_other, *]; done) | (simp_all [cpF, cpF_other]; done) | grind [cpF, cpF_other])) ?_
      exact ih (i + 1) (by omega) (by omega)
set_option maxHeartbeats 4000000 in
theorem c_M_copyNow (l : Launch) (u : Un) (hA : Ap u) (σ : St) : MTv l u y_M_copyNow b_M_copyNow 2 0 [.ref (u.2.1 63)] σ (fun σ' => σ' = cpF σ 77 0 (σ.1 76) 11) := by
  refine MT_of hA rfl (by decide) (Nat.le_of_ble_eq_true rfl) (fun X hl F hr => ?_)
  subst hl
  refine v_to (ls' := [(0, .ref (u.2.1 63))]) rfl ?_
  refine v_iconst (v := 0) F d_M_copyNow_0 ki_0 ?_
  refine v_istore_n (ls' := [(1, .int 0), (0, .ref (u.2.1 63))]) F d_M_copyNow_1 rfl (by decide) rfl ?_
  refine v_sub [1, 0] (ls' := [(0, .ref (u.2.1 63)), (1, .int 0)]) rfl ?_
  have g1 : 0 = (nI 0) := (by first | rfl | (simp [cpF, cpF_other, *]; done) | (simp_all [cpF, cpF_other]; done) | grind [cpF, cpF_other])
  refine v_to (ls' := [(0, .ref (u.2.1 63)), (1, .int (nI 0))]) (by first | rfl | rw [g1] | simp_all) ?_
  refine v_st (show σ = (cpF σ 77 0 (σ.1 76) 0) from (by first | rfl | (simp [cpF, cpF_other, *]; done) | (simp_all [cpF, cpF_other]; done) | grind [cpF, cpF_other])) ?_
  refine L_M_copyNow_2 hA F  ?_ _ 0 (Nat.zero_le _) (Nat.lt_succ_self _)
  refine v_vret F hr d_M_copyNow_26 ?_
  rfl
end
section
-- the band's deeds and what it tells
theorem nI_pred1 {m : Nat} (h : 0 < m) : nI m - 1 = nI (m - 1) := by
  obtain ⟨k, rfl⟩ : ∃ k, m = k + 1 := ⟨m - 1, by omega⟩
  exact nI_pred k
theorem p2_pos (n : Nat) : 0 < 2 ^ n := Nat.pow_pos (by decide)
def rsS (σ : St) (n : Nat) : St := uI (uI (uI (uI (uI (cpF σ 31 0 (σ.1 30) n) 19 14 (nI (2 ^ n - 1))) 19 15 0) 19 16 0) 19 17 0) 19 18 0
def enW (σ : St) (G : Nat) (kd : Nat → Nat) (n L : Nat) : St := uI (uI (uI σ 19 15 (σ.1 19 15 + 1)) 19 18 (if σ.1 19 12 ≤ nI (pcN (mkN (tkS σ G kd L) n)) then 1 else 0)) 19 17 (σ.1 19 17 + if σ.1 19 12 ≤ nI (pcN (mkN (tkS σ G kd L) n)) then 0 else sumI (ltA kd (σ.1 28) G L) n)
def enG (σ : St) (m : Int32) : St := uI (uI σ 19 17 (σ.1 19 17 - m)) 19 16 (σ.1 19 16 + m * σ.1 19 10)
def enC (σ : St) (i : Nat) : St := uI σ 31 i (σ.1 31 i + 1)
def enH (σ : St) (kd : Nat → Nat) (i L : Nat) : St := uI (uI σ 19 16 (σ.1 19 16 + priceS (kd i) (σ.1 19 9) (σ.1 31 i))) 19 14 (nI (L &&& (63 ^^^ 2 ^ i)))
def tlS (σ : St) (G : Nat) (kd : Nat → Nat) (L i : Nat) : Nat → Int32
  | 0 => nI (kd i)
  | 1 => σ.1 28 i
  | 2 => σ.1 29 i
  | 3 => σ.1 31 i
  | 4 => ltF kd (σ.1 28) G L i
  | 5 => bI (talkB (kd i) (σ.1 29 i) (σ.1 19 11) (σ.1 31 i) (nI (othN L G i)) = true)
  | 6 => bI (L.testBit i = true)
  | _ => priceS (kd i) (σ.1 19 9) (σ.1 31 i)
def mkS (σ : St) (G : Nat) (kd : Nat → Nat) (n L i : Nat) : Nat → Int32
  | 1 => nI (pcN (mkN (tkS σ G kd L) n &&& (63 ^^^ 2 ^ i)))
  | 2 => σ.1 19 15 + 1
  | 3 => nI (othN L G i)
  | 4 => 2 - σ.1 31 i
  | _ => if 0 < σ.1 19 11 + 1 - σ.1 29 i - 2 then σ.1 19 11 + 1 - σ.1 29 i - 2 else 0
def pwL (x : Int64) : Nat → Int64
  | 0 => 1
  | i + 1 => pwL x i * x
def utL (bench p : Int32) (t : Nat) : Nat → Int64
  | 0 => 0
  | s + 1 => if nI (t - pcN s) < bench then utL bench p t s + pwL p.toInt64 (pcN s) * pwL (12 - p).toInt64 (t - pcN s) else utL bench p t s
theorem pc_le : ∀ x, x < 64 → pcN x ≤ 6 := by decide +kernel
theorem pc_lt2 : ∀ t, t < 7 → ∀ x, x < 2 ^ t → pcN x ≤ t := by decide +kernel
theorem p2_le {t : Nat} (h : t ≤ 6) : 2 ^ t ≤ 64 := p2_64 h
end
section
theorem fk_B_95 : fok "TakerBook$Band" 95 1 14 := ⟨(R_B, F_B, 19), rfl, by decide, List.mem_of_getElem? (i := 208) (by decide +kernel), rfl⟩
theorem fk_B_49 : fok "TakerBook$Band" 49 1 6 := ⟨(R_B, F_B, 19), rfl, by decide, List.mem_of_getElem? (i := 189) (by decide +kernel), rfl⟩
theorem G32 : Gam[32]? = some (.inl (.int, 6)) := rfl
theorem fk_B_52 : fok "TakerBook$Band" 52 1 7 := ⟨(R_B, F_B, 19), rfl, by decide, List.mem_of_getElem? (i := 191) (by decide +kernel), rfl⟩
theorem st_B_141 : siteV "TakerBook$Band" 141 ⟨"TakerBook$Band", "priceOf", "(I)I"⟩ := ⟨List.mem_of_getElem? (i := 610) (by decide +kernel), List.mem_of_getElem? (i := 611) (by decide +kernel), List.mem_of_getElem? (i := 612) (by decide +kernel)⟩
theorem G33 : Gam[33]? = some (.inl (.int, 6)) := rfl
theorem fk_B_43 : fok "TakerBook$Band" 43 1 4 := ⟨(R_B, F_B, 19), rfl, by decide, List.mem_of_getElem? (i := 185) (by decide +kernel), rfl⟩
theorem G30 : Gam[30]? = some (.inl (.int, 6)) := rfl
theorem pk_B_left : pok 1 14 .int := ⟨(R_B, F_B, 19), rfl, rfl, by decide +kernel⟩
theorem fk_B_98 : fok "TakerBook$Band" 98 1 15 := ⟨(R_B, F_B, 19), rfl, by decide, List.mem_of_getElem? (i := 210) (by decide +kernel), rfl⟩
theorem pk_B_weeks : pok 1 15 .int := ⟨(R_B, F_B, 19), rfl, rfl, by decide +kernel⟩
theorem fk_B_101 : fok "TakerBook$Band" 101 1 16 := ⟨(R_B, F_B, 19), rfl, by decide, List.mem_of_getElem? (i := 212) (by decide +kernel), rfl⟩
theorem pk_B_money : pok 1 16 .int := ⟨(R_B, F_B, 19), rfl, rfl, by decide +kernel⟩
theorem fk_B_104 : fok "TakerBook$Band" 104 1 17 := ⟨(R_B, F_B, 19), rfl, by decide, List.mem_of_getElem? (i := 215) (by decide +kernel), rfl⟩
theorem pk_B_stock : pok 1 17 .int := ⟨(R_B, F_B, 19), rfl, rfl, by decide +kernel⟩
theorem fk_B_107 : fok "TakerBook$Band" 107 1 18 := ⟨(R_B, F_B, 19), rfl, by decide, List.mem_of_getElem? (i := 217) (by decide +kernel), rfl⟩
theorem pk_B_tried : pok 1 18 .boolean := ⟨(R_B, F_B, 19), rfl, rfl, by decide +kernel⟩
theorem st_B_144 : siteV "TakerBook$Band" 144 ⟨"TakerBook$Band", "lootOfAll", "(I)I"⟩ := ⟨List.mem_of_getElem? (i := 670) (by decide +kernel), List.mem_of_getElem? (i := 671) (by decide +kernel), List.mem_of_getElem? (i := 672) (by decide +kernel)⟩
theorem fk_B_68 : fok "TakerBook$Band" 68 1 10 := ⟨(R_B, F_B, 19), rfl, by decide, List.mem_of_getElem? (i := 198) (by decide +kernel), rfl⟩
theorem st_B_147 : siteV "TakerBook$Band" 147 ⟨"TakerBook$Band", "talksWith", "(III)Z"⟩ := ⟨List.mem_of_getElem? (i := 580) (by decide +kernel), List.mem_of_getElem? (i := 581) (by decide +kernel), List.mem_of_getElem? (i := 582) (by decide +kernel)⟩
theorem st_B_156 : siteS "TakerBook$Band" 156 ⟨"TakerBook$Band", "power", "(II)J"⟩ := ⟨List.mem_of_getElem? (i := 911) (by decide +kernel), List.mem_of_getElem? (i := 912) (by decide +kernel)⟩
abbrev b_B_isOfLeft : ByteArray := prog_2_method_5_code
abbrev y_B_isOfLeft : MethodName := ⟨"TakerBook$Band", "isOfLeft", "(I)Z"⟩
theorem d_B_isOfLeft_0 : decode b_B_isOfLeft 0 = .ok (.iload_n 1, 1) := by decide +kernel
theorem d_B_isOfLeft_1 : decode b_B_isOfLeft 1 = .ok (.aload_n 0, 1) := by decide +kernel
theorem d_B_isOfLeft_2 : decode b_B_isOfLeft 2 = .ok (.getfield 95, 3) := by decide +kernel
theorem d_B_isOfLeft_5 : decode b_B_isOfLeft 5 = .ok (.iconst (-1), 1) := by decide +kernel
theorem d_B_isOfLeft_6 : decode b_B_isOfLeft 6 = .ok (.ixor, 1) := by decide +kernel
theorem d_B_isOfLeft_7 : decode b_B_isOfLeft 7 = .ok (.iand, 1) := by decide +kernel
theorem d_B_isOfLeft_8 : decode b_B_isOfLeft 8 = .ok (.ifCond .ne 7, 3) := by decide +kernel
theorem d_B_isOfLeft_11 : decode b_B_isOfLeft 11 = .ok (.iconst 1, 1) := by decide +kernel
theorem d_B_isOfLeft_12 : decode b_B_isOfLeft 12 = .ok (.goto 4, 3) := by decide +kernel
theorem d_B_isOfLeft_15 : decode b_B_isOfLeft 15 = .ok (.iconst 0, 1) := by decide +kernel
theorem d_B_isOfLeft_16 : decode b_B_isOfLeft 16 = .ok (.ireturn, 1) := by decide +kernel
theorem mo_B_isOfLeft : mok y_B_isOfLeft b_B_isOfLeft 2 (some .boolean) 1 := ⟨List.mem_of_getElem? (i := 729) (by decide +kernel), ⟨by decide +kernel, by decide +kernel, by decide +kernel⟩, List.mem_of_getElem? (i := 76) (by decide +kernel), by decide⟩
set_option maxHeartbeats 4000000 in
theorem c_B_isOfLeft (l : Launch) (u : Un) (hA : Ap u) (σ : St) {L : Nat} (hL : σ.1 19 14 = nI L) (hL64 : L < 64) (s : Nat) (hs : s < 64) : MTi l u y_B_isOfLeft b_B_isOfLeft 2 .boolean 0 [.ref (u.2.1 19), .int (nI s)] σ (fun ans σ' => bI (s &&& (63 ^^^ L) = 0) = ans ∧ σ = σ') := by
  refine MT_of hA rfl (by decide) (Nat.le_of_ble_eq_true rfl) (fun X hl F hr => ?_)
  subst hl
  refine v_to (ls' := [(0, .ref (u.2.1 19)), (1, .int (nI s))]) rfl ?_
  have hsL : s &&& (63 ^^^ L) < 64 := and_lt hs
  refine v_iload_n F d_B_isOfLeft_0 rfl 1 rfl ?_
  refine v_aload_n F d_B_isOfLeft_1 rfl 0 rfl ?_
  refine v_geti F fk_B_95 G19 rfl d_B_isOfLeft_2 ?_
  refine v_te (y := nI L) hL ?_
  refine v_iconst (v := (-1)) F d_B_isOfLeft_5 ki_m1 ?_
  refine v_ixor F d_B_isOfLeft_6 ?_
  refine v_iand F d_B_isOfLeft_7 ?_
  refine v_te (y := nI (s &&& (63 ^^^ L))) (sub6 hs hL64) ?_
  refine v_if_ne F 15 d_B_isOfLeft_8 rfl (fun h8 => ?_) (fun h8 => ?_)
  · skip
    have h8 : ¬ s &&& (63 ^^^ L) = 0 := fun q => h8 ((nI_eq (a := s &&& (63 ^^^ L)) (b := 0) (by omega) (by omega)).mpr q)
    refine v_iconst (v := 0) F d_B_isOfLeft_15 ki_0 ?_
    refine v_iret F hr rfl d_B_isOfLeft_16 ?_
    exact ⟨(bI_f (by first | (simp_all [inR]; done) | grind)), rfl⟩
  · skip
    have h8 : s &&& (63 ^^^ L) = 0 := (nI_eq (a := s &&& (63 ^^^ L)) (b := 0) (by omega) (by omega)).mp h8
    refine v_iconst (v := 1) F d_B_isOfLeft_11 ki_1 ?_
    refine v_goto F 16 d_B_isOfLeft_12 rfl ?_
    refine v_iret F hr rfl d_B_isOfLeft_16 ?_
    exact ⟨(bI_t (by first | (simp_all [inR]; done) | grind)), rfl⟩
abbrev b_B_canBeCrossed : ByteArray := prog_2_method_6_code
abbrev y_B_canBeCrossed : MethodName := ⟨"TakerBook$Band", "canBeCrossed", "(I)Z"⟩
theorem d_B_canBeCrossed_0 : decode b_B_canBeCrossed 0 = .ok (.iload_n 1, 1) := by decide +kernel
theorem d_B_canBeCrossed_1 : decode b_B_canBeCrossed 1 = .ok (.aload_n 0, 1) := by decide +kernel
theorem d_B_canBeCrossed_2 : decode b_B_canBeCrossed 2 = .ok (.getfield 95, 3) := by decide +kernel
theorem d_B_canBeCrossed_5 : decode b_B_canBeCrossed 5 = .ok (.invokestatic 111, 3) := by decide +kernel
theorem d_B_canBeCrossed_8 : decode b_B_canBeCrossed 8 = .ok (.ifCond .eq 17, 3) := by decide +kernel
theorem d_B_canBeCrossed_11 : decode b_B_canBeCrossed 11 = .ok (.aload_n 0, 1) := by decide +kernel
theorem d_B_canBeCrossed_12 : decode b_B_canBeCrossed 12 = .ok (.getfield 46, 3) := by decide +kernel
theorem d_B_canBeCrossed_15 : decode b_B_canBeCrossed 15 = .ok (.iload_n 1, 1) := by decide +kernel
theorem d_B_canBeCrossed_16 : decode b_B_canBeCrossed 16 = .ok (.iaload, 1) := by decide +kernel
theorem d_B_canBeCrossed_17 : decode b_B_canBeCrossed 17 = .ok (.iconst 2, 1) := by decide +kernel
theorem d_B_canBeCrossed_18 : decode b_B_canBeCrossed 18 = .ok (.if_icmp .ge 7, 3) := by decide +kernel
theorem d_B_canBeCrossed_21 : decode b_B_canBeCrossed 21 = .ok (.iconst 1, 1) := by decide +kernel
theorem d_B_canBeCrossed_22 : decode b_B_canBeCrossed 22 = .ok (.goto 4, 3) := by decide +kernel
theorem d_B_canBeCrossed_25 : decode b_B_canBeCrossed 25 = .ok (.iconst 0, 1) := by decide +kernel
theorem d_B_canBeCrossed_26 : decode b_B_canBeCrossed 26 = .ok (.ireturn, 1) := by decide +kernel
theorem mo_B_canBeCrossed : mok y_B_canBeCrossed b_B_canBeCrossed 2 (some .boolean) 1 := ⟨List.mem_of_getElem? (i := 685) (by decide +kernel), ⟨by decide +kernel, by decide +kernel, by decide +kernel⟩, List.mem_of_getElem? (i := 76) (by decide +kernel), by decide⟩
set_option maxHeartbeats 4000000 in
theorem c_B_canBeCrossed (l : Launch) (u : Un) (hA : Ap u) (σ : St) {L : Nat} (hL : σ.1 19 14 = nI L) (hL64 : L < 64) (i : Nat) (hi : i < 6) : MTi l u y_B_canBeCrossed b_B_canBeCrossed 2 .boolean 1 [.ref (u.2.1 19), .int (nI i)] σ (fun ans σ' => bI (Nat.testBit L i = true ∧ σ.1 31 i < 2) = ans ∧ σ = σ') := by
  refine MT_of hA rfl (by decide) (Nat.le_of_ble_eq_true rfl) (fun X hl F hr => ?_)
  subst hl
  refine v_to (ls' := [(0, .ref (u.2.1 19)), (1, .int (nI i))]) rfl ?_
  refine v_iload_n F d_B_canBeCrossed_0 rfl 1 rfl ?_
  refine v_aload_n F d_B_canBeCrossed_1 rfl 0 rfl ?_
  refine v_geti F fk_B_95 G19 rfl d_B_canBeCrossed_2 ?_
  refine v_te (y := nI L) hL ?_
  refine v_runi (r_N F (c_T_isIn2 X.2.1 u hA σ i L (by omega) (by omega)) mo_T_isIn st_B_111 (by decide) rfl (Nat.le_of_ble_eq_true rfl) d_B_canBeCrossed_5) (fun r1 σ2 q3 => ?_)
  obtain ⟨rfl, rfl⟩ := q3
  refine v_bt F 25 d_B_canBeCrossed_8 rfl (fun h8 => ?_) (fun h8 => ?_)
  · skip
    refine v_iconst (v := 0) F d_B_canBeCrossed_25 ki_0 ?_
    refine v_iret F hr rfl d_B_canBeCrossed_26 ?_
    exact ⟨(bI_f (by first | (simp_all [inR]; done) | grind)), rfl⟩
  · skip
    refine v_aload_n F d_B_canBeCrossed_11 rfl 0 rfl ?_
    refine v_getr (r := 31) F fk_B_46 G19 rfl d_B_canBeCrossed_12 ?_
    refine v_iload_n F d_B_canBeCrossed_15 rfl 1 rfl ?_
    refine v_ial F i G31 rfl (by omega) d_B_canBeCrossed_16 ?_
    refine v_iconst (v := 2) F d_B_canBeCrossed_17 ki_2 ?_
    refine v_icmp_ge F 25 d_B_canBeCrossed_18 rfl (fun h18 => ?_) (fun h18 => ?_)
    · skip
      refine v_iconst (v := 0) F d_B_canBeCrossed_25 ki_0 ?_
      refine v_iret F hr rfl d_B_canBeCrossed_26 ?_
      exact ⟨(bI_f (by first | (simp_all [inR]; done) | grind)), rfl⟩
    · skip
      refine v_iconst (v := 1) F d_B_canBeCrossed_21 ki_1 ?_
      refine v_goto F 26 d_B_canBeCrossed_22 rfl ?_
      refine v_iret F hr rfl d_B_canBeCrossed_26 ?_
      exact ⟨(bI_t (by first | (simp_all [inR]; done) | grind)), rfl⟩
abbrev b_B_weigh : ByteArray := prog_2_method_15_code
abbrev y_B_weigh : MethodName := ⟨"TakerBook$Band", "weigh", "()V"⟩
theorem d_B_weigh_0 : decode b_B_weigh 0 = .ok (.iconst 0, 1) := by decide +kernel
theorem d_B_weigh_1 : decode b_B_weigh 1 = .ok (.istore_n 1, 1) := by decide +kernel
theorem d_B_weigh_2 : decode b_B_weigh 2 = .ok (.iload_n 1, 1) := by decide +kernel
theorem d_B_weigh_3 : decode b_B_weigh 3 = .ok (.aload_n 0, 1) := by decide +kernel
theorem d_B_weigh_4 : decode b_B_weigh 4 = .ok (.getfield 61, 3) := by decide +kernel
theorem d_B_weigh_7 : decode b_B_weigh 7 = .ok (.if_icmp .ge 35, 3) := by decide +kernel
theorem d_B_weigh_10 : decode b_B_weigh 10 = .ok (.aload_n 0, 1) := by decide +kernel
theorem d_B_weigh_11 : decode b_B_weigh 11 = .ok (.getfield 49, 3) := by decide +kernel
theorem d_B_weigh_14 : decode b_B_weigh 14 = .ok (.iload_n 1, 1) := by decide +kernel
theorem d_B_weigh_15 : decode b_B_weigh 15 = .ok (.aload_n 0, 1) := by decide +kernel
theorem d_B_weigh_16 : decode b_B_weigh 16 = .ok (.iload_n 1, 1) := by decide +kernel
theorem d_B_weigh_17 : decode b_B_weigh 17 = .ok (.aload_n 0, 1) := by decide +kernel
theorem d_B_weigh_18 : decode b_B_weigh 18 = .ok (.getfield 95, 3) := by decide +kernel
theorem d_B_weigh_21 : decode b_B_weigh 21 = .ok (.invokevirtual 135, 3) := by decide +kernel
theorem d_B_weigh_24 : decode b_B_weigh 24 = .ok (.iastore, 1) := by decide +kernel
theorem d_B_weigh_25 : decode b_B_weigh 25 = .ok (.aload_n 0, 1) := by decide +kernel
theorem d_B_weigh_26 : decode b_B_weigh 26 = .ok (.getfield 52, 3) := by decide +kernel
theorem d_B_weigh_29 : decode b_B_weigh 29 = .ok (.iload_n 1, 1) := by decide +kernel
theorem d_B_weigh_30 : decode b_B_weigh 30 = .ok (.aload_n 0, 1) := by decide +kernel
theorem d_B_weigh_31 : decode b_B_weigh 31 = .ok (.iload_n 1, 1) := by decide +kernel
theorem d_B_weigh_32 : decode b_B_weigh 32 = .ok (.invokevirtual 141, 3) := by decide +kernel
theorem d_B_weigh_35 : decode b_B_weigh 35 = .ok (.iastore, 1) := by decide +kernel
theorem d_B_weigh_36 : decode b_B_weigh 36 = .ok (.iinc 1 1, 3) := by decide +kernel
theorem d_B_weigh_39 : decode b_B_weigh 39 = .ok (.goto (-37), 3) := by decide +kernel
theorem d_B_weigh_42 : decode b_B_weigh 42 = .ok (.return_, 1) := by decide +kernel
theorem mo_B_weigh : mok y_B_weigh b_B_weigh 2 none 0 := ⟨List.mem_of_getElem? (i := 759) (by decide +kernel), ⟨by decide +kernel, by decide +kernel, by decide +kernel⟩, List.mem_of_getElem? (i := 76) (by decide +kernel), by decide⟩
set_option maxHeartbeats 4000000 in
theorem L_B_weigh_2 {X : FX} {u : Un} (hA : Ap u) {Q : State → Prop} (F : Fr X u "TakerBook$Band" b_B_weigh 2) {σ : St} {n G : Nat} {kd : Nat → Nat} (hb : bkOk σ n G kd) {L : Nat} (hL : σ.1 19 14 = nI L) (hL64 : L < 64) (k : V X u 6 2 Q 42 [(0, .ref (u.2.1 19)), (1, .int (nI n))] [] ((wgS σ (ltF kd (σ.1 28) G L) (fun i => priceS (kd i) (σ.1 19 9) (σ.1 31 i)) n))) : ∀ (nn i : Nat), i ≤ n → n - i < nn → V X u 6 2 Q 2 [(0, .ref (u.2.1 19)), (1, .int (nI i))] [] ((wgS σ (ltF kd (σ.1 28) G L) (fun i => priceS (kd i) (σ.1 19 9) (σ.1 31 i)) i)) := by
  intro nn
  induction nn with
  | zero =>
    intro i h1 h2
    exact absurd h2 (Nat.not_lt_zero _)
  | succ nn ih =>
    intro i hii hnn
    obtain ⟨hn, hn6, hG, hG64, hkd, hk6⟩ := id hb
    refine v_iload_n F d_B_weigh_2 rfl 1 rfl ?_
    refine v_aload_n F d_B_weigh_3 rfl 0 rfl ?_
    refine v_geti F fk_B_61 G19 rfl d_B_weigh_4 ?_
    refine v_te (y := nI n) (by simp_all [wgS_o, uI_o]) ?_
    refine v_icmp_ge F 42 d_B_weigh_7 rfl (fun h7 => ?_) (fun h7 => ?_)
    · skip
      have h7 : n ≤ i := (nI_leI (a := n) (b := i) (by omega) (by omega)).mp h7
      have he : i = n := by omega
      subst he
      exact k
    · skip
      have h7 : ¬ n ≤ i := fun q => h7 ((nI_leI (a := n) (b := i) (by omega) (by omega)).mpr q)
      refine v_aload_n F d_B_weigh_10 rfl 0 rfl ?_
      refine v_getr (r := 32) F fk_B_49 G19 rfl d_B_weigh_11 ?_
      refine v_iload_n F d_B_weigh_14 rfl 1 rfl ?_
      refine v_aload_n F d_B_weigh_15 rfl 0 rfl ?_
      refine v_iload_n F d_B_weigh_16 rfl 1 rfl ?_
      refine v_aload_n F d_B_weigh_17 rfl 0 rfl ?_
      refine v_geti F fk_B_95 G19 rfl d_B_weigh_18 ?_
      refine v_te (y := nI L) (by simp_all [wgS_o, uI_o]) ?_
      refine v_runi (r_V F (c_B_lootOf X.2.1 u hA (wgS σ (ltF kd (σ.1 28) G L) (fun i => priceS (kd i) (σ.1 19 9) (σ.1 31 i)) i) (bkOk_of hb (by simp_all [wgS_o, uI_o]) (by simp_all [wgS_o, uI_o]) (by simp_all [wgS_o, uI_o])) i L (by omega) (by omega)) mo_B_lootOf st_B_135 rc_19 (by decide) rfl (Nat.le_of_ble_eq_true rfl) d_B_weigh_21) (fun r1 σ2 q3 => ?_)
      obtain ⟨rfl, rfl⟩ := q3
      refine v_ias F i G32 rfl (by omega) d_B_weigh_24 ?_
      refine v_ns (fun σ4 eσ4 => ?_)
      refine v_aload_n F d_B_weigh_25 rfl 0 rfl ?_
      refine v_getr (r := 33) F fk_B_52 G19 rfl d_B_weigh_26 ?_
      refine v_iload_n F d_B_weigh_29 rfl 1 rfl ?_
      refine v_aload_n F d_B_weigh_30 rfl 0 rfl ?_
      refine v_iload_n F d_B_weigh_31 rfl 1 rfl ?_
      refine v_runi (r_V F (c_B_priceOf X.2.1 u hA σ4 (bkOk_of hb (by simp_all [wgS_o, uI_o]) (by simp_all [wgS_o, uI_o]) (by simp_all [wgS_o, uI_o])) i (by omega)) mo_B_priceOf st_B_141 rc_19 (by decide) rfl (Nat.le_of_ble_eq_true rfl) d_B_weigh_32) (fun r5 σ6 q7 => ?_)
      obtain ⟨rfl, rfl⟩ := q7
      refine v_ias F i G33 rfl (by omega) d_B_weigh_35 ?_
      refine v_ns (fun σ8 eσ8 => ?_)
      refine v_iinc (v := nI (i + 1)) (ls' := [(1, .int (nI (i + 1))), (0, .ref (u.2.1 19))]) F d_B_weigh_36 (j := 1) rfl (nI_inc _) (by decide) rfl ?_
      refine v_goto F 2 d_B_weigh_39 rfl ?_
      refine v_sub [1, 0] (ls' := [(0, .ref (u.2.1 19)), (1, .int (nI (i + 1)))]) rfl ?_
      refine v_st (show σ8 = (wgS σ (ltF kd (σ.1 28) G L) (fun i => priceS (kd i) (σ.1 19 9) (σ.1 31 i)) (i + 1)) from (by first | rfl | (simp_all [wgS, wgS_o, uI_o]; done))) ?_
      exact ih (i + 1) (by omega) (by omega)
set_option maxHeartbeats 4000000 in
theorem c_B_weigh (l : Launch) (u : Un) (hA : Ap u) (σ : St) {n G : Nat} {kd : Nat → Nat} (hb : bkOk σ n G kd) {L : Nat} (hL : σ.1 19 14 = nI L) (hL64 : L < 64) : MTv l u y_B_weigh b_B_weigh 2 6 [.ref (u.2.1 19)] σ (fun σ' => σ' = wgS σ (ltF kd (σ.1 28) G L) (fun i => priceS (kd i) (σ.1 19 9) (σ.1 31 i)) n) := by
  refine MT_of hA rfl (by decide) (Nat.le_of_ble_eq_true rfl) (fun X hl F hr => ?_)
  subst hl
  refine v_to (ls' := [(0, .ref (u.2.1 19))]) rfl ?_
  obtain ⟨hn, hn6, hG, hG64, hkd, hk6⟩ := id hb
  refine v_iconst (v := 0) F d_B_weigh_0 ki_0 ?_
  refine v_istore_n (ls' := [(1, .int 0), (0, .ref (u.2.1 19))]) F d_B_weigh_1 rfl (by decide) rfl ?_
  refine v_sub [1, 0] (ls' := [(0, .ref (u.2.1 19)), (1, .int 0)]) rfl ?_
  have g1 : 0 = (nI 0) := (by first | rfl | (simp_all [wgS, wgS_o, uI_o]; done))
  refine v_to (ls' := [(0, .ref (u.2.1 19)), (1, .int (nI 0))]) (by first | rfl | rw [g1] | simp_all) ?_
  refine v_st (show σ = (wgS σ (ltF kd (σ.1 28) G L) (fun i => priceS (kd i) (σ.1 19 9) (σ.1 31 i)) 0) from (by first | rfl | (simp_all [wgS, wgS_o, uI_o]; done))) ?_
  refine L_B_weigh_2 hA F hb hL hL64 ?_ _ 0 (Nat.zero_le _) (Nat.lt_succ_self _)
  refine v_vret F hr d_B_weigh_42 ?_
  rfl
abbrev b_B_restart : ByteArray := prog_2_method_3_code
abbrev y_B_restart : MethodName := ⟨"TakerBook$Band", "restart", "()V"⟩
theorem d_B_restart_0 : decode b_B_restart 0 = .ok (.iconst 0, 1) := by decide +kernel
theorem d_B_restart_1 : decode b_B_restart 1 = .ok (.istore_n 1, 1) := by decide +kernel
theorem d_B_restart_2 : decode b_B_restart 2 = .ok (.iload_n 1, 1) := by decide +kernel
theorem d_B_restart_3 : decode b_B_restart 3 = .ok (.aload_n 0, 1) := by decide +kernel
theorem d_B_restart_4 : decode b_B_restart 4 = .ok (.getfield 61, 3) := by decide +kernel
theorem d_B_restart_7 : decode b_B_restart 7 = .ok (.if_icmp .ge 21, 3) := by decide +kernel
theorem d_B_restart_10 : decode b_B_restart 10 = .ok (.aload_n 0, 1) := by decide +kernel
theorem d_B_restart_11 : decode b_B_restart 11 = .ok (.getfield 46, 3) := by decide +kernel
theorem d_B_restart_14 : decode b_B_restart 14 = .ok (.iload_n 1, 1) := by decide +kernel
theorem d_B_restart_15 : decode b_B_restart 15 = .ok (.aload_n 0, 1) := by decide +kernel
theorem d_B_restart_16 : decode b_B_restart 16 = .ok (.getfield 43, 3) := by decide +kernel
theorem d_B_restart_19 : decode b_B_restart 19 = .ok (.iload_n 1, 1) := by decide +kernel
theorem d_B_restart_20 : decode b_B_restart 20 = .ok (.iaload, 1) := by decide +kernel
theorem d_B_restart_21 : decode b_B_restart 21 = .ok (.iastore, 1) := by decide +kernel
theorem d_B_restart_22 : decode b_B_restart 22 = .ok (.iinc 1 1, 3) := by decide +kernel
theorem d_B_restart_25 : decode b_B_restart 25 = .ok (.goto (-23), 3) := by decide +kernel
theorem d_B_restart_28 : decode b_B_restart 28 = .ok (.aload_n 0, 1) := by decide +kernel
theorem d_B_restart_29 : decode b_B_restart 29 = .ok (.iconst 1, 1) := by decide +kernel
theorem d_B_restart_30 : decode b_B_restart 30 = .ok (.aload_n 0, 1) := by decide +kernel
theorem d_B_restart_31 : decode b_B_restart 31 = .ok (.getfield 61, 3) := by decide +kernel
theorem d_B_restart_34 : decode b_B_restart 34 = .ok (.ishl, 1) := by decide +kernel
theorem d_B_restart_35 : decode b_B_restart 35 = .ok (.iconst 1, 1) := by decide +kernel
theorem d_B_restart_36 : decode b_B_restart 36 = .ok (.isub, 1) := by decide +kernel
theorem d_B_restart_37 : decode b_B_restart 37 = .ok (.putfield 95, 3) := by decide +kernel
theorem d_B_restart_40 : decode b_B_restart 40 = .ok (.aload_n 0, 1) := by decide +kernel
theorem d_B_restart_41 : decode b_B_restart 41 = .ok (.iconst 0, 1) := by decide +kernel
theorem d_B_restart_42 : decode b_B_restart 42 = .ok (.putfield 98, 3) := by decide +kernel
theorem d_B_restart_45 : decode b_B_restart 45 = .ok (.aload_n 0, 1) := by decide +kernel
theorem d_B_restart_46 : decode b_B_restart 46 = .ok (.iconst 0, 1) := by decide +kernel
theorem d_B_restart_47 : decode b_B_restart 47 = .ok (.putfield 101, 3) := by decide +kernel
theorem d_B_restart_50 : decode b_B_restart 50 = .ok (.aload_n 0, 1) := by decide +kernel
theorem d_B_restart_51 : decode b_B_restart 51 = .ok (.iconst 0, 1) := by decide +kernel
theorem d_B_restart_52 : decode b_B_restart 52 = .ok (.putfield 104, 3) := by decide +kernel
theorem d_B_restart_55 : decode b_B_restart 55 = .ok (.aload_n 0, 1) := by decide +kernel
theorem d_B_restart_56 : decode b_B_restart 56 = .ok (.iconst 0, 1) := by decide +kernel
theorem d_B_restart_57 : decode b_B_restart 57 = .ok (.putfield 107, 3) := by decide +kernel
theorem d_B_restart_60 : decode b_B_restart 60 = .ok (.return_, 1) := by decide +kernel
theorem mo_B_restart : mok y_B_restart b_B_restart 2 none 0 := ⟨List.mem_of_getElem? (i := 534) (by decide +kernel), ⟨by decide +kernel, by decide +kernel, by decide +kernel⟩, List.mem_of_getElem? (i := 76) (by decide +kernel), by decide⟩
set_option maxHeartbeats 4000000 in
theorem L_B_restart_2 {X : FX} {u : Un} (hA : Ap u) {Q : State → Prop} (F : Fr X u "TakerBook$Band" b_B_restart 2) {σ : St} {n : Nat} (hn : σ.1 19 8 = nI n) (hn6 : n ≤ 6) (k : V X u 0 2 Q 28 [(0, .ref (u.2.1 19)), (1, .int (nI n))] [] ((cpF σ 31 0 (σ.1 30) n))) : ∀ (nn i : Nat), i ≤ n → n - i < nn → V X u 0 2 Q 2 [(0, .ref (u.2.1 19)), (1, .int (nI i))] [] ((cpF σ 31 0 (σ.1 30) i)) := by
  intro nn
  induction nn with
  | zero =>
    intro i h1 h2
    exact absurd h2 (Nat.not_lt_zero _)
  | succ nn ih =>
    intro i hii hnn
    refine v_iload_n F d_B_restart_2 rfl 1 rfl ?_
    refine v_aload_n F d_B_restart_3 rfl 0 rfl ?_
    refine v_geti F fk_B_61 G19 rfl d_B_restart_4 ?_
    refine v_te (y := nI n) (by rw [cpF_other _ _ _ _ (by decide)]; exact hn) ?_
    refine v_icmp_ge F 28 d_B_restart_7 rfl (fun h7 => ?_) (fun h7 => ?_)
    · skip
      have h7 : n ≤ i := (nI_leI (a := n) (b := i) (by omega) (by omega)).mp h7
      have he : i = n := by omega
      subst he
      exact k
    · skip
      have h7 : ¬ n ≤ i := fun q => h7 ((nI_leI (a := n) (b := i) (by omega) (by omega)).mpr q)
      refine v_aload_n F d_B_restart_10 rfl 0 rfl ?_
      refine v_getr (r := 31) F fk_B_46 G19 rfl d_B_restart_11 ?_
      refine v_iload_n F d_B_restart_14 rfl 1 rfl ?_
      refine v_aload_n F d_B_restart_15 rfl 0 rfl ?_
      refine v_getr (r := 30) F fk_B_43 G19 rfl d_B_restart_16 ?_
      refine v_iload_n F d_B_restart_19 rfl 1 rfl ?_
      refine v_ial F i G30 rfl (by omega) d_B_restart_20 ?_
      refine v_ias F i G31 rfl (by omega) d_B_restart_21 ?_
      refine v_ns (fun σ1 eσ1 => ?_)
      refine v_iinc (v := nI (i + 1)) (ls' := [(1, .int (nI (i + 1))), (0, .ref (u.2.1 19))]) F d_B_restart_22 (j := 1) rfl (nI_inc _) (by decide) rfl ?_
      refine v_goto F 2 d_B_restart_25 rfl ?_
      refine v_sub [1, 0] (ls' := [(0, .ref (u.2.1 19)), (1, .int (nI (i + 1)))]) rfl ?_
      refine v_st (show σ1 = (cpF σ 31 0 (σ.1 30) (i + 1)) from (by first | rfl | (simp [cpF, cpF_other, *]; done) | (simp_all [cpF, cpF_other]; done) | grind [cpF, cpF_other])) ?_
      exact ih (i + 1) (by omega) (by omega)
set_option maxHeartbeats 4000000 in
theorem c_B_restart (l : Launch) (u : Un) (hA : Ap u) (σ : St) {n : Nat} (hn : σ.1 19 8 = nI n) (hn6 : n ≤ 6) : MTv l u y_B_restart b_B_restart 2 0 [.ref (u.2.1 19)] σ (fun σ' => σ' = rsS σ n) := by
  refine MT_of hA rfl (by decide) (Nat.le_of_ble_eq_true rfl) (fun X hl F hr => ?_)
  subst hl
  refine v_to (ls' := [(0, .ref (u.2.1 19))]) rfl ?_
  refine v_iconst (v := 0) F d_B_restart_0 ki_0 ?_
  refine v_istore_n (ls' := [(1, .int 0), (0, .ref (u.2.1 19))]) F d_B_restart_1 rfl (by decide) rfl ?_
  refine v_sub [1, 0] (ls' := [(0, .ref (u.2.1 19)), (1, .int 0)]) rfl ?_
  have g1 : 0 = (nI 0) := (by first | rfl | (simp [cpF, cpF_other, *]; done) | (simp_all [cpF, cpF_other]; done) | grind [cpF, cpF_other])
  refine v_to (ls' := [(0, .ref (u.2.1 19)), (1, .int (nI 0))]) (by first | rfl | rw [g1] | simp_all) ?_
  refine v_st (show σ = (cpF σ 31 0 (σ.1 30) 0) from (by first | rfl | (simp [cpF, cpF_other, *]; done) | (simp_all [cpF, cpF_other]; done) | grind [cpF, cpF_other])) ?_
  refine L_B_restart_2 hA F hn hn6 ?_ _ 0 (Nat.zero_le _) (Nat.lt_succ_self _)
  refine v_aload_n F d_B_restart_28 rfl 0 rfl ?_
  refine v_iconst (v := 1) F d_B_restart_29 ki_1 ?_
  refine v_aload_n F d_B_restart_30 rfl 0 rfl ?_
  refine v_geti F fk_B_61 G19 rfl d_B_restart_31 ?_
  refine v_te (y := nI n) (by rw [cpF_other _ _ _ _ (by decide)]; exact hn) ?_
  refine v_ishl F d_B_restart_34 ?_
  refine v_te (y := nI (2 ^ n)) (bit6 _ (by omega)) ?_
  refine v_iconst (v := 1) F d_B_restart_35 ki_1 ?_
  refine v_isub F d_B_restart_36 ?_
  refine v_te (y := nI (2 ^ n - 1)) (nI_pred1 (p2_pos n)) ?_
  refine v_puti F fk_B_95 pk_B_left G19 rfl d_B_restart_37 ?_
  refine v_ns (fun σ2 eσ2 => ?_)
  refine v_aload_n F d_B_restart_40 rfl 0 rfl ?_
  refine v_iconst (v := 0) F d_B_restart_41 ki_0 ?_
  refine v_puti F fk_B_98 pk_B_weeks G19 rfl d_B_restart_42 ?_
  refine v_ns (fun σ3 eσ3 => ?_)
  refine v_aload_n F d_B_restart_45 rfl 0 rfl ?_
  refine v_iconst (v := 0) F d_B_restart_46 ki_0 ?_
  refine v_puti F fk_B_101 pk_B_money G19 rfl d_B_restart_47 ?_
  refine v_ns (fun σ4 eσ4 => ?_)
  refine v_aload_n F d_B_restart_50 rfl 0 rfl ?_
  refine v_iconst (v := 0) F d_B_restart_51 ki_0 ?_
  refine v_puti F fk_B_104 pk_B_stock G19 rfl d_B_restart_52 ?_
  refine v_ns (fun σ5 eσ5 => ?_)
  refine v_aload_n F d_B_restart_55 rfl 0 rfl ?_
  refine v_iconst (v := 0) F d_B_restart_56 ki_0 ?_
  refine v_putz F fk_B_107 pk_B_tried G19 rfl rfl rfl  d_B_restart_57 ?_
  refine v_ns (fun σ6 eσ6 => ?_)
  refine v_vret F hr d_B_restart_60 ?_
  simp [rsS, *]
abbrev b_B_enact : ByteArray := prog_2_method_16_code
abbrev y_B_enact : MethodName := ⟨"TakerBook$Band", "enact", "(II)V"⟩
theorem d_B_enact_0 : decode b_B_enact 0 = .ok (.iload_n 1, 1) := by decide +kernel
theorem d_B_enact_1 : decode b_B_enact 1 = .ok (.tableswitch 136 0 2 #[27, 95, 123], 27) := by decide +kernel
theorem d_B_enact_28 : decode b_B_enact 28 = .ok (.aload_n 0, 1) := by decide +kernel
theorem d_B_enact_29 : decode b_B_enact 29 = .ok (.dup, 1) := by decide +kernel
theorem d_B_enact_30 : decode b_B_enact 30 = .ok (.getfield 98, 3) := by decide +kernel
theorem d_B_enact_33 : decode b_B_enact 33 = .ok (.iconst 1, 1) := by decide +kernel
theorem d_B_enact_34 : decode b_B_enact 34 = .ok (.iadd, 1) := by decide +kernel
theorem d_B_enact_35 : decode b_B_enact 35 = .ok (.putfield 98, 3) := by decide +kernel
theorem d_B_enact_38 : decode b_B_enact 38 = .ok (.aload_n 0, 1) := by decide +kernel
theorem d_B_enact_39 : decode b_B_enact 39 = .ok (.aload_n 0, 1) := by decide +kernel
theorem d_B_enact_40 : decode b_B_enact 40 = .ok (.aload_n 0, 1) := by decide +kernel
theorem d_B_enact_41 : decode b_B_enact 41 = .ok (.getfield 95, 3) := by decide +kernel
theorem d_B_enact_44 : decode b_B_enact 44 = .ok (.invokevirtual 138, 3) := by decide +kernel
theorem d_B_enact_47 : decode b_B_enact 47 = .ok (.invokestatic 115, 3) := by decide +kernel
theorem d_B_enact_50 : decode b_B_enact 50 = .ok (.aload_n 0, 1) := by decide +kernel
theorem d_B_enact_51 : decode b_B_enact 51 = .ok (.getfield 74, 3) := by decide +kernel
theorem d_B_enact_54 : decode b_B_enact 54 = .ok (.if_icmp .lt 7, 3) := by decide +kernel
theorem d_B_enact_57 : decode b_B_enact 57 = .ok (.iconst 1, 1) := by decide +kernel
theorem d_B_enact_58 : decode b_B_enact 58 = .ok (.goto 4, 3) := by decide +kernel
theorem d_B_enact_61 : decode b_B_enact 61 = .ok (.iconst 0, 1) := by decide +kernel
theorem d_B_enact_62 : decode b_B_enact 62 = .ok (.putfield 107, 3) := by decide +kernel
theorem d_B_enact_65 : decode b_B_enact 65 = .ok (.aload_n 0, 1) := by decide +kernel
theorem d_B_enact_66 : decode b_B_enact 66 = .ok (.dup, 1) := by decide +kernel
theorem d_B_enact_67 : decode b_B_enact 67 = .ok (.getfield 104, 3) := by decide +kernel
theorem d_B_enact_70 : decode b_B_enact 70 = .ok (.aload_n 0, 1) := by decide +kernel
theorem d_B_enact_71 : decode b_B_enact 71 = .ok (.getfield 107, 3) := by decide +kernel
theorem d_B_enact_74 : decode b_B_enact 74 = .ok (.ifCond .eq 7, 3) := by decide +kernel
theorem d_B_enact_77 : decode b_B_enact 77 = .ok (.iconst 0, 1) := by decide +kernel
theorem d_B_enact_78 : decode b_B_enact 78 = .ok (.goto 11, 3) := by decide +kernel
theorem d_B_enact_81 : decode b_B_enact 81 = .ok (.aload_n 0, 1) := by decide +kernel
theorem d_B_enact_82 : decode b_B_enact 82 = .ok (.aload_n 0, 1) := by decide +kernel
theorem d_B_enact_83 : decode b_B_enact 83 = .ok (.getfield 95, 3) := by decide +kernel
theorem d_B_enact_86 : decode b_B_enact 86 = .ok (.invokevirtual 144, 3) := by decide +kernel
theorem d_B_enact_89 : decode b_B_enact 89 = .ok (.iadd, 1) := by decide +kernel
theorem d_B_enact_90 : decode b_B_enact 90 = .ok (.putfield 104, 3) := by decide +kernel
theorem d_B_enact_93 : decode b_B_enact 93 = .ok (.goto 72, 3) := by decide +kernel
theorem d_B_enact_96 : decode b_B_enact 96 = .ok (.aload_n 0, 1) := by decide +kernel
theorem d_B_enact_97 : decode b_B_enact 97 = .ok (.dup, 1) := by decide +kernel
theorem d_B_enact_98 : decode b_B_enact 98 = .ok (.getfield 104, 3) := by decide +kernel
theorem d_B_enact_101 : decode b_B_enact 101 = .ok (.iload_n 2, 1) := by decide +kernel
theorem d_B_enact_102 : decode b_B_enact 102 = .ok (.isub, 1) := by decide +kernel
theorem d_B_enact_103 : decode b_B_enact 103 = .ok (.putfield 104, 3) := by decide +kernel
theorem d_B_enact_106 : decode b_B_enact 106 = .ok (.aload_n 0, 1) := by decide +kernel
theorem d_B_enact_107 : decode b_B_enact 107 = .ok (.dup, 1) := by decide +kernel
theorem d_B_enact_108 : decode b_B_enact 108 = .ok (.getfield 101, 3) := by decide +kernel
theorem d_B_enact_111 : decode b_B_enact 111 = .ok (.iload_n 2, 1) := by decide +kernel
theorem d_B_enact_112 : decode b_B_enact 112 = .ok (.aload_n 0, 1) := by decide +kernel
theorem d_B_enact_113 : decode b_B_enact 113 = .ok (.getfield 68, 3) := by decide +kernel
theorem d_B_enact_116 : decode b_B_enact 116 = .ok (.imul, 1) := by decide +kernel
theorem d_B_enact_117 : decode b_B_enact 117 = .ok (.iadd, 1) := by decide +kernel
theorem d_B_enact_118 : decode b_B_enact 118 = .ok (.putfield 101, 3) := by decide +kernel
theorem d_B_enact_121 : decode b_B_enact 121 = .ok (.goto 44, 3) := by decide +kernel
theorem d_B_enact_124 : decode b_B_enact 124 = .ok (.aload_n 0, 1) := by decide +kernel
theorem d_B_enact_125 : decode b_B_enact 125 = .ok (.getfield 46, 3) := by decide +kernel
theorem d_B_enact_128 : decode b_B_enact 128 = .ok (.iload_n 2, 1) := by decide +kernel
theorem d_B_enact_129 : decode b_B_enact 129 = .ok (.dup2, 1) := by decide +kernel
theorem d_B_enact_130 : decode b_B_enact 130 = .ok (.iaload, 1) := by decide +kernel
theorem d_B_enact_131 : decode b_B_enact 131 = .ok (.iconst 1, 1) := by decide +kernel
theorem d_B_enact_132 : decode b_B_enact 132 = .ok (.iadd, 1) := by decide +kernel
theorem d_B_enact_133 : decode b_B_enact 133 = .ok (.iastore, 1) := by decide +kernel
theorem d_B_enact_134 : decode b_B_enact 134 = .ok (.goto 31, 3) := by decide +kernel
theorem d_B_enact_137 : decode b_B_enact 137 = .ok (.aload_n 0, 1) := by decide +kernel
theorem d_B_enact_138 : decode b_B_enact 138 = .ok (.dup, 1) := by decide +kernel
theorem d_B_enact_139 : decode b_B_enact 139 = .ok (.getfield 101, 3) := by decide +kernel
theorem d_B_enact_142 : decode b_B_enact 142 = .ok (.aload_n 0, 1) := by decide +kernel
theorem d_B_enact_143 : decode b_B_enact 143 = .ok (.iload_n 2, 1) := by decide +kernel
theorem d_B_enact_144 : decode b_B_enact 144 = .ok (.invokevirtual 141, 3) := by decide +kernel
theorem d_B_enact_147 : decode b_B_enact 147 = .ok (.iadd, 1) := by decide +kernel
theorem d_B_enact_148 : decode b_B_enact 148 = .ok (.putfield 101, 3) := by decide +kernel
theorem d_B_enact_151 : decode b_B_enact 151 = .ok (.aload_n 0, 1) := by decide +kernel
theorem d_B_enact_152 : decode b_B_enact 152 = .ok (.dup, 1) := by decide +kernel
theorem d_B_enact_153 : decode b_B_enact 153 = .ok (.getfield 95, 3) := by decide +kernel
theorem d_B_enact_156 : decode b_B_enact 156 = .ok (.iconst 1, 1) := by decide +kernel
theorem d_B_enact_157 : decode b_B_enact 157 = .ok (.iload_n 2, 1) := by decide +kernel
theorem d_B_enact_158 : decode b_B_enact 158 = .ok (.ishl, 1) := by decide +kernel
theorem d_B_enact_159 : decode b_B_enact 159 = .ok (.iconst (-1), 1) := by decide +kernel
theorem d_B_enact_160 : decode b_B_enact 160 = .ok (.ixor, 1) := by decide +kernel
theorem d_B_enact_161 : decode b_B_enact 161 = .ok (.iand, 1) := by decide +kernel
theorem d_B_enact_162 : decode b_B_enact 162 = .ok (.putfield 95, 3) := by decide +kernel
theorem d_B_enact_165 : decode b_B_enact 165 = .ok (.return_, 1) := by decide +kernel
theorem mo_B_enact : mok y_B_enact b_B_enact 3 none 2 := ⟨List.mem_of_getElem? (i := 669) (by decide +kernel), ⟨by decide +kernel, by decide +kernel, by decide +kernel⟩, List.mem_of_getElem? (i := 76) (by decide +kernel), by decide⟩
set_option maxHeartbeats 4000000 in
theorem c_B_enact0 (l : Launch) (u : Un) (hA : Ap u) (σ : St) {n G : Nat} {kd : Nat → Nat} (hb : bkOk σ n G kd) {L : Nat} (hL : σ.1 19 14 = nI L) (hL64 : L < 64) (x : Int32) : MTv l u y_B_enact b_B_enact 3 7 [.ref (u.2.1 19), .int 0, .int x] σ (fun σ' => σ' = enW σ G kd n L) := by
  refine MT_of hA rfl (by decide) (Nat.le_of_ble_eq_true rfl) (fun X hl F hr => ?_)
  subst hl
  refine v_to (ls' := [(0, .ref (u.2.1 19)), (1, .int 0), (2, .int x)]) rfl ?_
  obtain ⟨hn, hn6, hG, hG64, hkd, hk6⟩ := id hb
  refine v_iload_n F d_B_enact_0 rfl 1 rfl ?_
  refine v_tableIn (off := 27) F 28 d_B_enact_1 (by decide) (by decide) (by decide) rfl ?_
  refine v_aload_n F d_B_enact_28 rfl 0 rfl ?_
  refine v_dup F d_B_enact_29 rfl ?_
  refine v_geti F fk_B_98 G19 rfl d_B_enact_30 ?_
  refine v_iconst (v := 1) F d_B_enact_33 ki_1 ?_
  refine v_iadd F d_B_enact_34 ?_
  refine v_puti F fk_B_98 pk_B_weeks G19 rfl d_B_enact_35 ?_
  refine v_ns (fun σ1 eσ1 => ?_)
  have hb1 : bkOk σ1 n G kd := bkOk_of hb (by simp_all [uI, upd]) (by simp_all [uI, upd]) (by simp_all [uI, upd])
  have hL1 : σ1.1 19 14 = nI L := by simp_all [uI, upd]
  refine v_aload_n F d_B_enact_38 rfl 0 rfl ?_
  refine v_aload_n F d_B_enact_39 rfl 0 rfl ?_
  refine v_aload_n F d_B_enact_40 rfl 0 rfl ?_
  refine v_geti F fk_B_95 G19 rfl d_B_enact_41 ?_
  refine v_te (y := nI L) hL1 ?_
  refine v_runi (r_V F (c_B_talkers X.2.1 u hA σ1 hb1 L (by omega)) mo_B_talkers st_B_138 rc_19 (by decide) rfl (Nat.le_of_ble_eq_true rfl) d_B_enact_44) (fun r2 σ3 q4 => ?_)
  obtain ⟨rfl, rfl⟩ := q4
  refine v_runi (r_S F (c_I_bitCount X.2.1 u hA σ1 (mkN (tkS σ1 G kd L) n) (mkN_64 _ hn6)) mo_I_bitCount st_B_115 (by decide) rfl (Nat.le_of_ble_eq_true rfl) d_B_enact_47) (fun r5 σ6 q7 => ?_)
  obtain ⟨rfl, rfl⟩ := q7
  refine v_aload_n F d_B_enact_50 rfl 0 rfl ?_
  refine v_geti F fk_B_74 G19 rfl d_B_enact_51 ?_
  refine v_icmp_lt F 61 d_B_enact_54 rfl (fun h54 => ?_) (fun h54 => ?_)
  · skip
    refine v_iconst (v := 0) F d_B_enact_61 ki_0 ?_
    refine v_putz F fk_B_107 pk_B_tried G19 rfl rfl rfl  d_B_enact_62 ?_
    refine v_ns (fun σ8 eσ8 => ?_)
    refine v_aload_n F d_B_enact_65 rfl 0 rfl ?_
    refine v_dup F d_B_enact_66 rfl ?_
    refine v_geti F fk_B_104 G19 rfl d_B_enact_67 ?_
    refine v_aload_n F d_B_enact_70 rfl 0 rfl ?_
    refine v_geti F fk_B_107 G19 rfl d_B_enact_71 ?_
    refine v_if_eq F 81 d_B_enact_74 rfl (fun h74 => ?_) (fun h74 => ?_)
    · skip
      have hb2 : bkOk σ8 n G kd := bkOk_of hb (by simp_all [uI, upd]) (by simp_all [uI, upd]) (by simp_all [uI, upd])
      have hL2 : σ8.1 19 14 = nI L := by simp_all [uI, upd]
      refine v_aload_n F d_B_enact_81 rfl 0 rfl ?_
      refine v_aload_n F d_B_enact_82 rfl 0 rfl ?_
      refine v_geti F fk_B_95 G19 rfl d_B_enact_83 ?_
      refine v_te (y := nI L) hL2 ?_
      refine v_runi (r_V F (c_B_lootOfAll X.2.1 u hA σ8 hb2 L (by omega)) mo_B_lootOfAll st_B_144 rc_19 (by decide) rfl (Nat.le_of_ble_eq_true rfl) d_B_enact_86) (fun r9 σ10 q11 => ?_)
      obtain ⟨rfl, rfl⟩ := q11
      refine v_iadd F d_B_enact_89 ?_
      refine v_puti F fk_B_104 pk_B_stock G19 rfl d_B_enact_90 ?_
      refine v_ns (fun σ12 eσ12 => ?_)
      refine v_goto F 165 d_B_enact_93 rfl ?_
      refine v_vret F hr d_B_enact_165 ?_
      have e5 : σ.1 19 12 ≤ nI (pcN (mkN (tkS σ G kd L) n)) ∨ ¬ σ.1 19 12 ≤ nI (pcN (mkN (tkS σ G kd L) n)) := Decidable.em _
      rcases e5 with e5 | e5
      · first | (rw [enW, if_pos e5, if_pos e5]; simp_all [uI, upd, tkS]; done) | (exfalso; simp_all [uI, upd, tkS]; grind)
      · first | (rw [enW, if_neg e5, if_neg e5]; simp_all [uI, upd, tkS]; done) | (exfalso; simp_all [uI, upd, tkS]; grind)
    · skip
      refine v_iconst (v := 0) F d_B_enact_77 ki_0 ?_
      refine v_goto F 89 d_B_enact_78 rfl ?_
      refine v_iadd F d_B_enact_89 ?_
      refine v_puti F fk_B_104 pk_B_stock G19 rfl d_B_enact_90 ?_
      refine v_ns (fun σ13 eσ13 => ?_)
      refine v_goto F 165 d_B_enact_93 rfl ?_
      refine v_vret F hr d_B_enact_165 ?_
      have e5 : σ.1 19 12 ≤ nI (pcN (mkN (tkS σ G kd L) n)) ∨ ¬ σ.1 19 12 ≤ nI (pcN (mkN (tkS σ G kd L) n)) := Decidable.em _
      rcases e5 with e5 | e5
      · first | (rw [enW, if_pos e5, if_pos e5]; simp_all [uI, upd, tkS]; done) | (exfalso; simp_all [uI, upd, tkS]; grind)
      · first | (rw [enW, if_neg e5, if_neg e5]; simp_all [uI, upd, tkS]; done) | (exfalso; simp_all [uI, upd, tkS]; grind)
  · skip
    refine v_iconst (v := 1) F d_B_enact_57 ki_1 ?_
    refine v_goto F 62 d_B_enact_58 rfl ?_
    refine v_putz F fk_B_107 pk_B_tried G19 rfl rfl rfl  d_B_enact_62 ?_
    refine v_ns (fun σ14 eσ14 => ?_)
    refine v_aload_n F d_B_enact_65 rfl 0 rfl ?_
    refine v_dup F d_B_enact_66 rfl ?_
    refine v_geti F fk_B_104 G19 rfl d_B_enact_67 ?_
    refine v_aload_n F d_B_enact_70 rfl 0 rfl ?_
    refine v_geti F fk_B_107 G19 rfl d_B_enact_71 ?_
    refine v_if_eq F 81 d_B_enact_74 rfl (fun h74 => ?_) (fun h74 => ?_)
    · skip
      have hb2 : bkOk σ14 n G kd := bkOk_of hb (by simp_all [uI, upd]) (by simp_all [uI, upd]) (by simp_all [uI, upd])
      have hL2 : σ14.1 19 14 = nI L := by simp_all [uI, upd]
      refine v_aload_n F d_B_enact_81 rfl 0 rfl ?_
      refine v_aload_n F d_B_enact_82 rfl 0 rfl ?_
      refine v_geti F fk_B_95 G19 rfl d_B_enact_83 ?_
      refine v_te (y := nI L) hL2 ?_
      refine v_runi (r_V F (c_B_lootOfAll X.2.1 u hA σ14 hb2 L (by omega)) mo_B_lootOfAll st_B_144 rc_19 (by decide) rfl (Nat.le_of_ble_eq_true rfl) d_B_enact_86) (fun r15 σ16 q17 => ?_)
      obtain ⟨rfl, rfl⟩ := q17
      refine v_iadd F d_B_enact_89 ?_
      refine v_puti F fk_B_104 pk_B_stock G19 rfl d_B_enact_90 ?_
      refine v_ns (fun σ18 eσ18 => ?_)
      refine v_goto F 165 d_B_enact_93 rfl ?_
      refine v_vret F hr d_B_enact_165 ?_
      have e5 : σ.1 19 12 ≤ nI (pcN (mkN (tkS σ G kd L) n)) ∨ ¬ σ.1 19 12 ≤ nI (pcN (mkN (tkS σ G kd L) n)) := Decidable.em _
      rcases e5 with e5 | e5
      · first | (rw [enW, if_pos e5, if_pos e5]; simp_all [uI, upd, tkS]; done) | (exfalso; simp_all [uI, upd, tkS]; grind)
      · first | (rw [enW, if_neg e5, if_neg e5]; simp_all [uI, upd, tkS]; done) | (exfalso; simp_all [uI, upd, tkS]; grind)
    · skip
      refine v_iconst (v := 0) F d_B_enact_77 ki_0 ?_
      refine v_goto F 89 d_B_enact_78 rfl ?_
      refine v_iadd F d_B_enact_89 ?_
      refine v_puti F fk_B_104 pk_B_stock G19 rfl d_B_enact_90 ?_
      refine v_ns (fun σ19 eσ19 => ?_)
      refine v_goto F 165 d_B_enact_93 rfl ?_
      refine v_vret F hr d_B_enact_165 ?_
      have e5 : σ.1 19 12 ≤ nI (pcN (mkN (tkS σ G kd L) n)) ∨ ¬ σ.1 19 12 ≤ nI (pcN (mkN (tkS σ G kd L) n)) := Decidable.em _
      rcases e5 with e5 | e5
      · first | (rw [enW, if_pos e5, if_pos e5]; simp_all [uI, upd, tkS]; done) | (exfalso; simp_all [uI, upd, tkS]; grind)
      · first | (rw [enW, if_neg e5, if_neg e5]; simp_all [uI, upd, tkS]; done) | (exfalso; simp_all [uI, upd, tkS]; grind)
set_option maxHeartbeats 4000000 in
theorem c_B_enact1 (l : Launch) (u : Un) (hA : Ap u) (σ : St) (x : Int32) : MTv l u y_B_enact b_B_enact 3 7 [.ref (u.2.1 19), .int 1, .int x] σ (fun σ' => σ' = enG σ x) := by
  refine MT_of hA rfl (by decide) (Nat.le_of_ble_eq_true rfl) (fun X hl F hr => ?_)
  subst hl
  refine v_to (ls' := [(0, .ref (u.2.1 19)), (1, .int 1), (2, .int x)]) rfl ?_
  refine v_iload_n F d_B_enact_0 rfl 1 rfl ?_
  refine v_tableIn (off := 95) F 96 d_B_enact_1 (by decide) (by decide) (by decide) rfl ?_
  refine v_aload_n F d_B_enact_96 rfl 0 rfl ?_
  refine v_dup F d_B_enact_97 rfl ?_
  refine v_geti F fk_B_104 G19 rfl d_B_enact_98 ?_
  refine v_iload_n F d_B_enact_101 rfl 2 rfl ?_
  refine v_isub F d_B_enact_102 ?_
  refine v_puti F fk_B_104 pk_B_stock G19 rfl d_B_enact_103 ?_
  refine v_ns (fun σ1 eσ1 => ?_)
  refine v_aload_n F d_B_enact_106 rfl 0 rfl ?_
  refine v_dup F d_B_enact_107 rfl ?_
  refine v_geti F fk_B_101 G19 rfl d_B_enact_108 ?_
  refine v_iload_n F d_B_enact_111 rfl 2 rfl ?_
  refine v_aload_n F d_B_enact_112 rfl 0 rfl ?_
  refine v_geti F fk_B_68 G19 rfl d_B_enact_113 ?_
  refine v_imul F d_B_enact_116 ?_
  refine v_iadd F d_B_enact_117 ?_
  refine v_puti F fk_B_101 pk_B_money G19 rfl d_B_enact_118 ?_
  refine v_ns (fun σ2 eσ2 => ?_)
  refine v_goto F 165 d_B_enact_121 rfl ?_
  refine v_vret F hr d_B_enact_165 ?_
  simp_all [enG, uI, upd]
set_option maxHeartbeats 4000000 in
theorem c_B_enact2 (l : Launch) (u : Un) (hA : Ap u) (σ : St) (i : Nat) (hi : i < 6) : MTv l u y_B_enact b_B_enact 3 7 [.ref (u.2.1 19), .int 2, .int (nI i)] σ (fun σ' => σ' = enC σ i) := by
  refine MT_of hA rfl (by decide) (Nat.le_of_ble_eq_true rfl) (fun X hl F hr => ?_)
  subst hl
  refine v_to (ls' := [(0, .ref (u.2.1 19)), (1, .int 2), (2, .int (nI i))]) rfl ?_
  refine v_iload_n F d_B_enact_0 rfl 1 rfl ?_
  refine v_tableIn (off := 123) F 124 d_B_enact_1 (by decide) (by decide) (by decide) rfl ?_
  refine v_aload_n F d_B_enact_124 rfl 0 rfl ?_
  refine v_getr (r := 31) F fk_B_46 G19 rfl d_B_enact_125 ?_
  refine v_iload_n F d_B_enact_128 rfl 2 rfl ?_
  refine v_dup2_11 F d_B_enact_129 rfl rfl ?_
  refine v_ial F i G31 rfl (by omega) d_B_enact_130 ?_
  refine v_iconst (v := 1) F d_B_enact_131 ki_1 ?_
  refine v_iadd F d_B_enact_132 ?_
  refine v_ias F i G31 rfl (by omega) d_B_enact_133 ?_
  refine v_ns (fun σ1 eσ1 => ?_)
  refine v_goto F 165 d_B_enact_134 rfl ?_
  refine v_vret F hr d_B_enact_165 ?_
  simp_all [enC]
set_option maxHeartbeats 4000000 in
theorem c_B_enact3 (l : Launch) (u : Un) (hA : Ap u) (σ : St) {n G : Nat} {kd : Nat → Nat} (hb : bkOk σ n G kd) {L : Nat} (hL : σ.1 19 14 = nI L) (hL64 : L < 64) (i : Nat) (hi : i < n) : MTv l u y_B_enact b_B_enact 3 7 [.ref (u.2.1 19), .int 3, .int (nI i)] σ (fun σ' => σ' = enH σ kd i L) := by
  refine MT_of hA rfl (by decide) (Nat.le_of_ble_eq_true rfl) (fun X hl F hr => ?_)
  subst hl
  refine v_to (ls' := [(0, .ref (u.2.1 19)), (1, .int 3), (2, .int (nI i))]) rfl ?_
  obtain ⟨hn, hn6, hG, hG64, hkd, hk6⟩ := id hb
  refine v_iload_n F d_B_enact_0 rfl 1 rfl ?_
  refine v_tableOut F 137 d_B_enact_1 (by decide) rfl ?_
  refine v_aload_n F d_B_enact_137 rfl 0 rfl ?_
  refine v_dup F d_B_enact_138 rfl ?_
  refine v_geti F fk_B_101 G19 rfl d_B_enact_139 ?_
  refine v_aload_n F d_B_enact_142 rfl 0 rfl ?_
  refine v_iload_n F d_B_enact_143 rfl 2 rfl ?_
  refine v_runi (r_V F (c_B_priceOf X.2.1 u hA σ hb i (by omega)) mo_B_priceOf st_B_141 rc_19 (by decide) rfl (Nat.le_of_ble_eq_true rfl) d_B_enact_144) (fun r1 σ2 q3 => ?_)
  obtain ⟨rfl, rfl⟩ := q3
  refine v_iadd F d_B_enact_147 ?_
  refine v_puti F fk_B_101 pk_B_money G19 rfl d_B_enact_148 ?_
  refine v_ns (fun σ4 eσ4 => ?_)
  refine v_aload_n F d_B_enact_151 rfl 0 rfl ?_
  refine v_dup F d_B_enact_152 rfl ?_
  refine v_geti F fk_B_95 G19 rfl d_B_enact_153 ?_
  refine v_te (y := nI L) (by simp_all [uI, upd]) ?_
  refine v_iconst (v := 1) F d_B_enact_156 ki_1 ?_
  refine v_iload_n F d_B_enact_157 rfl 2 rfl ?_
  refine v_ishl F d_B_enact_158 ?_
  refine v_iconst (v := (-1)) F d_B_enact_159 ki_m1 ?_
  refine v_ixor F d_B_enact_160 ?_
  refine v_iand F d_B_enact_161 ?_
  refine v_te (y := nI (L &&& (63 ^^^ 2 ^ i))) (mask6 _ hL64 _ (by omega)) ?_
  refine v_puti F fk_B_95 pk_B_left G19 rfl d_B_enact_162 ?_
  refine v_ns (fun σ5 eσ5 => ?_)
  refine v_vret F hr d_B_enact_165 ?_
  simp_all [enH, uI, upd]
abbrev b_B_tell : ByteArray := prog_2_method_17_code
abbrev y_B_tell : MethodName := ⟨"TakerBook$Band", "tell", "(II)I"⟩
theorem d_B_tell_0 : decode b_B_tell 0 = .ok (.iload_n 2, 1) := by decide +kernel
theorem d_B_tell_1 : decode b_B_tell 1 = .ok (.tableswitch 122 0 6 #[43, 50, 57, 64, 71, 81, 105], 43) := by decide +kernel
theorem d_B_tell_44 : decode b_B_tell 44 = .ok (.aload_n 0, 1) := by decide +kernel
theorem d_B_tell_45 : decode b_B_tell 45 = .ok (.getfield 33, 3) := by decide +kernel
theorem d_B_tell_48 : decode b_B_tell 48 = .ok (.iload_n 1, 1) := by decide +kernel
theorem d_B_tell_49 : decode b_B_tell 49 = .ok (.iaload, 1) := by decide +kernel
theorem d_B_tell_50 : decode b_B_tell 50 = .ok (.ireturn, 1) := by decide +kernel
theorem d_B_tell_51 : decode b_B_tell 51 = .ok (.aload_n 0, 1) := by decide +kernel
theorem d_B_tell_52 : decode b_B_tell 52 = .ok (.getfield 37, 3) := by decide +kernel
theorem d_B_tell_55 : decode b_B_tell 55 = .ok (.iload_n 1, 1) := by decide +kernel
theorem d_B_tell_56 : decode b_B_tell 56 = .ok (.iaload, 1) := by decide +kernel
theorem d_B_tell_57 : decode b_B_tell 57 = .ok (.ireturn, 1) := by decide +kernel
theorem d_B_tell_58 : decode b_B_tell 58 = .ok (.aload_n 0, 1) := by decide +kernel
theorem d_B_tell_59 : decode b_B_tell 59 = .ok (.getfield 40, 3) := by decide +kernel
theorem d_B_tell_62 : decode b_B_tell 62 = .ok (.iload_n 1, 1) := by decide +kernel
theorem d_B_tell_63 : decode b_B_tell 63 = .ok (.iaload, 1) := by decide +kernel
theorem d_B_tell_64 : decode b_B_tell 64 = .ok (.ireturn, 1) := by decide +kernel
theorem d_B_tell_65 : decode b_B_tell 65 = .ok (.aload_n 0, 1) := by decide +kernel
theorem d_B_tell_66 : decode b_B_tell 66 = .ok (.getfield 46, 3) := by decide +kernel
theorem d_B_tell_69 : decode b_B_tell 69 = .ok (.iload_n 1, 1) := by decide +kernel
theorem d_B_tell_70 : decode b_B_tell 70 = .ok (.iaload, 1) := by decide +kernel
theorem d_B_tell_71 : decode b_B_tell 71 = .ok (.ireturn, 1) := by decide +kernel
theorem d_B_tell_72 : decode b_B_tell 72 = .ok (.aload_n 0, 1) := by decide +kernel
theorem d_B_tell_73 : decode b_B_tell 73 = .ok (.iload_n 1, 1) := by decide +kernel
theorem d_B_tell_74 : decode b_B_tell 74 = .ok (.aload_n 0, 1) := by decide +kernel
theorem d_B_tell_75 : decode b_B_tell 75 = .ok (.getfield 95, 3) := by decide +kernel
theorem d_B_tell_78 : decode b_B_tell 78 = .ok (.invokevirtual 135, 3) := by decide +kernel
theorem d_B_tell_81 : decode b_B_tell 81 = .ok (.ireturn, 1) := by decide +kernel
theorem d_B_tell_82 : decode b_B_tell 82 = .ok (.aload_n 0, 1) := by decide +kernel
theorem d_B_tell_83 : decode b_B_tell 83 = .ok (.iload_n 1, 1) := by decide +kernel
theorem d_B_tell_84 : decode b_B_tell 84 = .ok (.aload_n 0, 1) := by decide +kernel
theorem d_B_tell_85 : decode b_B_tell 85 = .ok (.getfield 46, 3) := by decide +kernel
theorem d_B_tell_88 : decode b_B_tell 88 = .ok (.iload_n 1, 1) := by decide +kernel
theorem d_B_tell_89 : decode b_B_tell 89 = .ok (.iaload, 1) := by decide +kernel
theorem d_B_tell_90 : decode b_B_tell 90 = .ok (.aload_n 0, 1) := by decide +kernel
theorem d_B_tell_91 : decode b_B_tell 91 = .ok (.getfield 95, 3) := by decide +kernel
theorem d_B_tell_94 : decode b_B_tell 94 = .ok (.invokevirtual 147, 3) := by decide +kernel
theorem d_B_tell_97 : decode b_B_tell 97 = .ok (.ifCond .eq 7, 3) := by decide +kernel
theorem d_B_tell_100 : decode b_B_tell 100 = .ok (.iconst 1, 1) := by decide +kernel
theorem d_B_tell_101 : decode b_B_tell 101 = .ok (.goto 4, 3) := by decide +kernel
theorem d_B_tell_104 : decode b_B_tell 104 = .ok (.iconst 0, 1) := by decide +kernel
theorem d_B_tell_105 : decode b_B_tell 105 = .ok (.ireturn, 1) := by decide +kernel
theorem d_B_tell_106 : decode b_B_tell 106 = .ok (.iload_n 1, 1) := by decide +kernel
theorem d_B_tell_107 : decode b_B_tell 107 = .ok (.aload_n 0, 1) := by decide +kernel
theorem d_B_tell_108 : decode b_B_tell 108 = .ok (.getfield 95, 3) := by decide +kernel
theorem d_B_tell_111 : decode b_B_tell 111 = .ok (.invokestatic 111, 3) := by decide +kernel
theorem d_B_tell_114 : decode b_B_tell 114 = .ok (.ifCond .eq 7, 3) := by decide +kernel
theorem d_B_tell_117 : decode b_B_tell 117 = .ok (.iconst 1, 1) := by decide +kernel
theorem d_B_tell_118 : decode b_B_tell 118 = .ok (.goto 4, 3) := by decide +kernel
theorem d_B_tell_121 : decode b_B_tell 121 = .ok (.iconst 0, 1) := by decide +kernel
theorem d_B_tell_122 : decode b_B_tell 122 = .ok (.ireturn, 1) := by decide +kernel
theorem d_B_tell_123 : decode b_B_tell 123 = .ok (.aload_n 0, 1) := by decide +kernel
theorem d_B_tell_124 : decode b_B_tell 124 = .ok (.iload_n 1, 1) := by decide +kernel
theorem d_B_tell_125 : decode b_B_tell 125 = .ok (.invokevirtual 141, 3) := by decide +kernel
theorem d_B_tell_128 : decode b_B_tell 128 = .ok (.ireturn, 1) := by decide +kernel
theorem mo_B_tell : mok y_B_tell b_B_tell 3 (some .int) 2 := ⟨List.mem_of_getElem? (i := 546) (by decide +kernel), ⟨by decide +kernel, by decide +kernel, by decide +kernel⟩, List.mem_of_getElem? (i := 76) (by decide +kernel), by decide⟩
set_option maxHeartbeats 4000000 in
theorem c_B_tell (l : Launch) (u : Un) (hA : Ap u) (σ : St) {n G : Nat} {kd : Nat → Nat} (hb : bkOk σ n G kd) {L : Nat} (hL : σ.1 19 14 = nI L) (hL64 : L < 64) (i w : Nat) (hi : i < n) (hw : w < 8) : MTi l u y_B_tell b_B_tell 3 .int 6 [.ref (u.2.1 19), .int (nI i), .int (nI w)] σ (fun ans σ' => tlS σ G kd L i w = ans ∧ σ = σ') := by
  refine MT_of hA rfl (by decide) (Nat.le_of_ble_eq_true rfl) (fun X hl F hr => ?_)
  subst hl
  refine v_to (ls' := [(0, .ref (u.2.1 19)), (1, .int (nI i)), (2, .int (nI w))]) rfl ?_
  obtain ⟨hn, hn6, hG, hG64, hkd, hk6⟩ := id hb
  refine v_iload_n F d_B_tell_0 rfl 2 rfl ?_
  rcases (show w = 0 ∨ w = 1 ∨ w = 2 ∨ w = 3 ∨ w = 4 ∨ w = 5 ∨ w = 6 ∨ w = 7 from by omega) with hs | hs | hs | hs | hs | hs | hs | hs
  · refine v_te (y := 0) (show nI w = 0 from by rw [hs]; rfl) ?_
    refine v_tableIn (off := 43) F 44 d_B_tell_1 (by decide) (by decide) (by decide) rfl ?_
    refine v_aload_n F d_B_tell_44 rfl 0 rfl ?_
    refine v_getr (r := 27) F fk_B_33 G19 rfl d_B_tell_45 ?_
    refine v_iload_n F d_B_tell_48 rfl 1 rfl ?_
    refine v_ial F i G27 rfl (by omega) d_B_tell_49 ?_
    refine v_te (y := nI (kd i)) (hkd _ (by omega)) ?_
    refine v_iret F hr rfl d_B_tell_50 ?_
    subst hs; exact ⟨by first | rfl | (simp_all [tlS, bI]; done), rfl⟩
  · refine v_te (y := 1) (show nI w = 1 from by rw [hs]; rfl) ?_
    refine v_tableIn (off := 50) F 51 d_B_tell_1 (by decide) (by decide) (by decide) rfl ?_
    refine v_aload_n F d_B_tell_51 rfl 0 rfl ?_
    refine v_getr (r := 28) F fk_B_37 G19 rfl d_B_tell_52 ?_
    refine v_iload_n F d_B_tell_55 rfl 1 rfl ?_
    refine v_ial F i G28 rfl (by omega) d_B_tell_56 ?_
    refine v_iret F hr rfl d_B_tell_57 ?_
    subst hs; exact ⟨by first | rfl | (simp_all [tlS, bI]; done), rfl⟩
  · refine v_te (y := 2) (show nI w = 2 from by rw [hs]; rfl) ?_
    refine v_tableIn (off := 57) F 58 d_B_tell_1 (by decide) (by decide) (by decide) rfl ?_
    refine v_aload_n F d_B_tell_58 rfl 0 rfl ?_
    refine v_getr (r := 29) F fk_B_40 G19 rfl d_B_tell_59 ?_
    refine v_iload_n F d_B_tell_62 rfl 1 rfl ?_
    refine v_ial F i G29 rfl (by omega) d_B_tell_63 ?_
    refine v_iret F hr rfl d_B_tell_64 ?_
    subst hs; exact ⟨by first | rfl | (simp_all [tlS, bI]; done), rfl⟩
  · refine v_te (y := 3) (show nI w = 3 from by rw [hs]; rfl) ?_
    refine v_tableIn (off := 64) F 65 d_B_tell_1 (by decide) (by decide) (by decide) rfl ?_
    refine v_aload_n F d_B_tell_65 rfl 0 rfl ?_
    refine v_getr (r := 31) F fk_B_46 G19 rfl d_B_tell_66 ?_
    refine v_iload_n F d_B_tell_69 rfl 1 rfl ?_
    refine v_ial F i G31 rfl (by omega) d_B_tell_70 ?_
    refine v_iret F hr rfl d_B_tell_71 ?_
    subst hs; exact ⟨by first | rfl | (simp_all [tlS, bI]; done), rfl⟩
  · refine v_te (y := 4) (show nI w = 4 from by rw [hs]; rfl) ?_
    refine v_tableIn (off := 71) F 72 d_B_tell_1 (by decide) (by decide) (by decide) rfl ?_
    refine v_aload_n F d_B_tell_72 rfl 0 rfl ?_
    refine v_iload_n F d_B_tell_73 rfl 1 rfl ?_
    refine v_aload_n F d_B_tell_74 rfl 0 rfl ?_
    refine v_geti F fk_B_95 G19 rfl d_B_tell_75 ?_
    refine v_te (y := nI L) hL ?_
    refine v_runi (r_V F (c_B_lootOf X.2.1 u hA σ hb i L (by omega) (by omega)) mo_B_lootOf st_B_135 rc_19 (by decide) rfl (Nat.le_of_ble_eq_true rfl) d_B_tell_78) (fun r1 σ2 q3 => ?_)
    obtain ⟨rfl, rfl⟩ := q3
    refine v_iret F hr rfl d_B_tell_81 ?_
    subst hs; exact ⟨by first | rfl | (simp_all [tlS, bI]; done), rfl⟩
  · refine v_te (y := 5) (show nI w = 5 from by rw [hs]; rfl) ?_
    refine v_tableIn (off := 81) F 82 d_B_tell_1 (by decide) (by decide) (by decide) rfl ?_
    refine v_aload_n F d_B_tell_82 rfl 0 rfl ?_
    refine v_iload_n F d_B_tell_83 rfl 1 rfl ?_
    refine v_aload_n F d_B_tell_84 rfl 0 rfl ?_
    refine v_getr (r := 31) F fk_B_46 G19 rfl d_B_tell_85 ?_
    refine v_iload_n F d_B_tell_88 rfl 1 rfl ?_
    refine v_ial F i G31 rfl (by omega) d_B_tell_89 ?_
    refine v_aload_n F d_B_tell_90 rfl 0 rfl ?_
    refine v_geti F fk_B_95 G19 rfl d_B_tell_91 ?_
    refine v_te (y := nI L) hL ?_
    refine v_runi (r_V F (c_B_talksWith X.2.1 u hA σ hb i L (σ.1 31 i) (by omega) (by omega)) mo_B_talksWith st_B_147 rc_19 (by decide) rfl (Nat.le_of_ble_eq_true rfl) d_B_tell_94) (fun r4 σ5 q6 => ?_)
    obtain ⟨rfl, rfl⟩ := q6
    refine v_bt F 104 d_B_tell_97 rfl (fun h97 => ?_) (fun h97 => ?_)
    · skip
      refine v_iconst (v := 0) F d_B_tell_104 ki_0 ?_
      refine v_iret F hr rfl d_B_tell_105 ?_
      subst hs; exact ⟨by first | rfl | (simp_all [tlS, bI]; done), rfl⟩
    · skip
      refine v_iconst (v := 1) F d_B_tell_100 ki_1 ?_
      refine v_goto F 105 d_B_tell_101 rfl ?_
      refine v_iret F hr rfl d_B_tell_105 ?_
      subst hs; exact ⟨by first | rfl | (simp_all [tlS, bI]; done), rfl⟩
  · refine v_te (y := 6) (show nI w = 6 from by rw [hs]; rfl) ?_
    refine v_tableIn (off := 105) F 106 d_B_tell_1 (by decide) (by decide) (by decide) rfl ?_
    refine v_iload_n F d_B_tell_106 rfl 1 rfl ?_
    refine v_aload_n F d_B_tell_107 rfl 0 rfl ?_
    refine v_geti F fk_B_95 G19 rfl d_B_tell_108 ?_
    refine v_te (y := nI L) hL ?_
    refine v_runi (r_N F (c_T_isIn2 X.2.1 u hA σ i L (by omega) (by omega)) mo_T_isIn st_B_111 (by decide) rfl (Nat.le_of_ble_eq_true rfl) d_B_tell_111) (fun r7 σ8 q9 => ?_)
    obtain ⟨rfl, rfl⟩ := q9
    refine v_bt F 121 d_B_tell_114 rfl (fun h114 => ?_) (fun h114 => ?_)
    · skip
      refine v_iconst (v := 0) F d_B_tell_121 ki_0 ?_
      refine v_iret F hr rfl d_B_tell_122 ?_
      subst hs; exact ⟨by first | rfl | (simp_all [tlS, bI]; done), rfl⟩
    · skip
      refine v_iconst (v := 1) F d_B_tell_117 ki_1 ?_
      refine v_goto F 122 d_B_tell_118 rfl ?_
      refine v_iret F hr rfl d_B_tell_122 ?_
      subst hs; exact ⟨by first | rfl | (simp_all [tlS, bI]; done), rfl⟩
  · refine v_te (y := 7) (show nI w = 7 from by rw [hs]; rfl) ?_
    refine v_tableOut F 123 d_B_tell_1 (by decide) rfl ?_
    refine v_aload_n F d_B_tell_123 rfl 0 rfl ?_
    refine v_iload_n F d_B_tell_124 rfl 1 rfl ?_
    refine v_runi (r_V F (c_B_priceOf X.2.1 u hA σ hb i (by omega)) mo_B_priceOf st_B_141 rc_19 (by decide) rfl (Nat.le_of_ble_eq_true rfl) d_B_tell_125) (fun r10 σ11 q12 => ?_)
    obtain ⟨rfl, rfl⟩ := q12
    refine v_iret F hr rfl d_B_tell_128 ?_
    subst hs; exact ⟨by first | rfl | (simp_all [tlS, bI]; done), rfl⟩
abbrev b_B_markOf : ByteArray := prog_2_method_18_code
abbrev y_B_markOf : MethodName := ⟨"TakerBook$Band", "markOf", "(II)I"⟩
theorem d_B_markOf_0 : decode b_B_markOf 0 = .ok (.iload_n 2, 1) := by decide +kernel
theorem d_B_markOf_1 : decode b_B_markOf 1 = .ok (.tableswitch 75 1 4 #[31, 49, 56, 66], 31) := by decide +kernel
theorem d_B_markOf_32 : decode b_B_markOf 32 = .ok (.aload_n 0, 1) := by decide +kernel
theorem d_B_markOf_33 : decode b_B_markOf 33 = .ok (.aload_n 0, 1) := by decide +kernel
theorem d_B_markOf_34 : decode b_B_markOf 34 = .ok (.getfield 95, 3) := by decide +kernel
theorem d_B_markOf_37 : decode b_B_markOf 37 = .ok (.invokevirtual 138, 3) := by decide +kernel
theorem d_B_markOf_40 : decode b_B_markOf 40 = .ok (.iconst 1, 1) := by decide +kernel
theorem d_B_markOf_41 : decode b_B_markOf 41 = .ok (.iload_n 1, 1) := by decide +kernel
theorem d_B_markOf_42 : decode b_B_markOf 42 = .ok (.ishl, 1) := by decide +kernel
theorem d_B_markOf_43 : decode b_B_markOf 43 = .ok (.iconst (-1), 1) := by decide +kernel
theorem d_B_markOf_44 : decode b_B_markOf 44 = .ok (.ixor, 1) := by decide +kernel
theorem d_B_markOf_45 : decode b_B_markOf 45 = .ok (.iand, 1) := by decide +kernel
theorem d_B_markOf_46 : decode b_B_markOf 46 = .ok (.invokestatic 115, 3) := by decide +kernel
theorem d_B_markOf_49 : decode b_B_markOf 49 = .ok (.ireturn, 1) := by decide +kernel
theorem d_B_markOf_50 : decode b_B_markOf 50 = .ok (.aload_n 0, 1) := by decide +kernel
theorem d_B_markOf_51 : decode b_B_markOf 51 = .ok (.getfield 98, 3) := by decide +kernel
theorem d_B_markOf_54 : decode b_B_markOf 54 = .ok (.iconst 1, 1) := by decide +kernel
theorem d_B_markOf_55 : decode b_B_markOf 55 = .ok (.iadd, 1) := by decide +kernel
theorem d_B_markOf_56 : decode b_B_markOf 56 = .ok (.ireturn, 1) := by decide +kernel
theorem d_B_markOf_57 : decode b_B_markOf 57 = .ok (.aload_n 0, 1) := by decide +kernel
theorem d_B_markOf_58 : decode b_B_markOf 58 = .ok (.iload_n 1, 1) := by decide +kernel
theorem d_B_markOf_59 : decode b_B_markOf 59 = .ok (.aload_n 0, 1) := by decide +kernel
theorem d_B_markOf_60 : decode b_B_markOf 60 = .ok (.getfield 95, 3) := by decide +kernel
theorem d_B_markOf_63 : decode b_B_markOf 63 = .ok (.invokevirtual 121, 3) := by decide +kernel
theorem d_B_markOf_66 : decode b_B_markOf 66 = .ok (.ireturn, 1) := by decide +kernel
theorem d_B_markOf_67 : decode b_B_markOf 67 = .ok (.iconst 2, 1) := by decide +kernel
theorem d_B_markOf_68 : decode b_B_markOf 68 = .ok (.aload_n 0, 1) := by decide +kernel
theorem d_B_markOf_69 : decode b_B_markOf 69 = .ok (.getfield 46, 3) := by decide +kernel
theorem d_B_markOf_72 : decode b_B_markOf 72 = .ok (.iload_n 1, 1) := by decide +kernel
theorem d_B_markOf_73 : decode b_B_markOf 73 = .ok (.iaload, 1) := by decide +kernel
theorem d_B_markOf_74 : decode b_B_markOf 74 = .ok (.isub, 1) := by decide +kernel
theorem d_B_markOf_75 : decode b_B_markOf 75 = .ok (.ireturn, 1) := by decide +kernel
theorem d_B_markOf_76 : decode b_B_markOf 76 = .ok (.iconst 0, 1) := by decide +kernel
theorem d_B_markOf_77 : decode b_B_markOf 77 = .ok (.aload_n 0, 1) := by decide +kernel
theorem d_B_markOf_78 : decode b_B_markOf 78 = .ok (.getfield 71, 3) := by decide +kernel
theorem d_B_markOf_81 : decode b_B_markOf 81 = .ok (.iconst 1, 1) := by decide +kernel
theorem d_B_markOf_82 : decode b_B_markOf 82 = .ok (.iadd, 1) := by decide +kernel
theorem d_B_markOf_83 : decode b_B_markOf 83 = .ok (.aload_n 0, 1) := by decide +kernel
theorem d_B_markOf_84 : decode b_B_markOf 84 = .ok (.getfield 40, 3) := by decide +kernel
theorem d_B_markOf_87 : decode b_B_markOf 87 = .ok (.iload_n 1, 1) := by decide +kernel
theorem d_B_markOf_88 : decode b_B_markOf 88 = .ok (.iaload, 1) := by decide +kernel
theorem d_B_markOf_89 : decode b_B_markOf 89 = .ok (.isub, 1) := by decide +kernel
theorem d_B_markOf_90 : decode b_B_markOf 90 = .ok (.iconst 2, 1) := by decide +kernel
theorem d_B_markOf_91 : decode b_B_markOf 91 = .ok (.isub, 1) := by decide +kernel
theorem d_B_markOf_92 : decode b_B_markOf 92 = .ok (.invokestatic 151, 3) := by decide +kernel
theorem d_B_markOf_95 : decode b_B_markOf 95 = .ok (.ireturn, 1) := by decide +kernel
theorem mo_B_markOf : mok y_B_markOf b_B_markOf 3 (some .int) 2 := ⟨List.mem_of_getElem? (i := 644) (by decide +kernel), ⟨by decide +kernel, by decide +kernel, by decide +kernel⟩, List.mem_of_getElem? (i := 76) (by decide +kernel), by decide⟩
set_option maxHeartbeats 4000000 in
theorem c_B_markOf (l : Launch) (u : Un) (hA : Ap u) (σ : St) {n G : Nat} {kd : Nat → Nat} (hb : bkOk σ n G kd) {L : Nat} (hL : σ.1 19 14 = nI L) (hL64 : L < 64) (i w : Nat) (hi : i < n) (hw0 : 0 < w) (hw : w < 6) : MTi l u y_B_markOf b_B_markOf 3 .int 6 [.ref (u.2.1 19), .int (nI i), .int (nI w)] σ (fun ans σ' => mkS σ G kd n L i w = ans ∧ σ = σ') := by
  refine MT_of hA rfl (by decide) (Nat.le_of_ble_eq_true rfl) (fun X hl F hr => ?_)
  subst hl
  refine v_to (ls' := [(0, .ref (u.2.1 19)), (1, .int (nI i)), (2, .int (nI w))]) rfl ?_
  obtain ⟨hn, hn6, hG, hG64, hkd, hk6⟩ := id hb
  refine v_iload_n F d_B_markOf_0 rfl 2 rfl ?_
  rcases (show w = 0 ∨ w = 1 ∨ w = 2 ∨ w = 3 ∨ w = 4 ∨ w = 5 from by omega) with hs | hs | hs | hs | hs | hs
  · refine v_te (y := 0) (show nI w = 0 from by rw [hs]; rfl) ?_
    refine v_tableOut F 76 d_B_markOf_1 (by decide) rfl ?_
    refine v_iconst (v := 0) F d_B_markOf_76 ki_0 ?_
    refine v_aload_n F d_B_markOf_77 rfl 0 rfl ?_
    refine v_geti F fk_B_71 G19 rfl d_B_markOf_78 ?_
    refine v_iconst (v := 1) F d_B_markOf_81 ki_1 ?_
    refine v_iadd F d_B_markOf_82 ?_
    refine v_aload_n F d_B_markOf_83 rfl 0 rfl ?_
    refine v_getr (r := 29) F fk_B_40 G19 rfl d_B_markOf_84 ?_
    refine v_iload_n F d_B_markOf_87 rfl 1 rfl ?_
    refine v_ial F i G29 rfl (by omega) d_B_markOf_88 ?_
    refine v_isub F d_B_markOf_89 ?_
    refine v_iconst (v := 2) F d_B_markOf_90 ki_2 ?_
    refine v_isub F d_B_markOf_91 ?_
    refine v_mmax F (List.mem_of_getElem? (i := 649) (by decide +kernel)) (Nat.le_of_ble_eq_true rfl) (by decide) d_B_markOf_92 ?_
    refine v_iret F hr rfl d_B_markOf_95 ?_
    first | (exfalso; omega) | (subst hs; exact ⟨by first | rfl | (simp_all [mkS]; done), rfl⟩)
  · refine v_te (y := 1) (show nI w = 1 from by rw [hs]; rfl) ?_
    refine v_tableIn (off := 31) F 32 d_B_markOf_1 (by decide) (by decide) (by decide) rfl ?_
    refine v_aload_n F d_B_markOf_32 rfl 0 rfl ?_
    refine v_aload_n F d_B_markOf_33 rfl 0 rfl ?_
    refine v_geti F fk_B_95 G19 rfl d_B_markOf_34 ?_
    refine v_te (y := nI L) hL ?_
    refine v_runi (r_V F (c_B_talkers X.2.1 u hA σ hb L (by omega)) mo_B_talkers st_B_138 rc_19 (by decide) rfl (Nat.le_of_ble_eq_true rfl) d_B_markOf_37) (fun r1 σ2 q3 => ?_)
    obtain ⟨rfl, rfl⟩ := q3
    refine v_iconst (v := 1) F d_B_markOf_40 ki_1 ?_
    refine v_iload_n F d_B_markOf_41 rfl 1 rfl ?_
    refine v_ishl F d_B_markOf_42 ?_
    refine v_iconst (v := (-1)) F d_B_markOf_43 ki_m1 ?_
    refine v_ixor F d_B_markOf_44 ?_
    refine v_iand F d_B_markOf_45 ?_
    refine v_te (y := nI (mkN (tkS σ G kd L) n &&& (63 ^^^ 2 ^ i))) (mask6 _ (mkN_64 _ hn6) _ (by omega)) ?_
    refine v_runi (r_S F (c_I_bitCount X.2.1 u hA σ (mkN (tkS σ G kd L) n &&& (63 ^^^ 2 ^ i)) (and_lt (mkN_64 _ hn6))) mo_I_bitCount st_B_115 (by decide) rfl (Nat.le_of_ble_eq_true rfl) d_B_markOf_46) (fun r4 σ5 q6 => ?_)
    obtain ⟨rfl, rfl⟩ := q6
    refine v_iret F hr rfl d_B_markOf_49 ?_
    first | (exfalso; omega) | (subst hs; exact ⟨by first | rfl | (simp_all [mkS]; done), rfl⟩)
  · refine v_te (y := 2) (show nI w = 2 from by rw [hs]; rfl) ?_
    refine v_tableIn (off := 49) F 50 d_B_markOf_1 (by decide) (by decide) (by decide) rfl ?_
    refine v_aload_n F d_B_markOf_50 rfl 0 rfl ?_
    refine v_geti F fk_B_98 G19 rfl d_B_markOf_51 ?_
    refine v_iconst (v := 1) F d_B_markOf_54 ki_1 ?_
    refine v_iadd F d_B_markOf_55 ?_
    refine v_iret F hr rfl d_B_markOf_56 ?_
    first | (exfalso; omega) | (subst hs; exact ⟨by first | rfl | (simp_all [mkS]; done), rfl⟩)
  · refine v_te (y := 3) (show nI w = 3 from by rw [hs]; rfl) ?_
    refine v_tableIn (off := 56) F 57 d_B_markOf_1 (by decide) (by decide) (by decide) rfl ?_
    refine v_aload_n F d_B_markOf_57 rfl 0 rfl ?_
    refine v_iload_n F d_B_markOf_58 rfl 1 rfl ?_
    refine v_aload_n F d_B_markOf_59 rfl 0 rfl ?_
    refine v_geti F fk_B_95 G19 rfl d_B_markOf_60 ?_
    refine v_te (y := nI L) hL ?_
    refine v_runi (r_V F (c_B_others X.2.1 u hA σ hb i L (by omega) (by omega)) mo_B_others st_B_121 rc_19 (by decide) rfl (Nat.le_of_ble_eq_true rfl) d_B_markOf_63) (fun r7 σ8 q9 => ?_)
    obtain ⟨rfl, rfl⟩ := q9
    refine v_iret F hr rfl d_B_markOf_66 ?_
    first | (exfalso; omega) | (subst hs; exact ⟨by first | rfl | (simp_all [mkS]; done), rfl⟩)
  · refine v_te (y := 4) (show nI w = 4 from by rw [hs]; rfl) ?_
    refine v_tableIn (off := 66) F 67 d_B_markOf_1 (by decide) (by decide) (by decide) rfl ?_
    refine v_iconst (v := 2) F d_B_markOf_67 ki_2 ?_
    refine v_aload_n F d_B_markOf_68 rfl 0 rfl ?_
    refine v_getr (r := 31) F fk_B_46 G19 rfl d_B_markOf_69 ?_
    refine v_iload_n F d_B_markOf_72 rfl 1 rfl ?_
    refine v_ial F i G31 rfl (by omega) d_B_markOf_73 ?_
    refine v_isub F d_B_markOf_74 ?_
    refine v_iret F hr rfl d_B_markOf_75 ?_
    first | (exfalso; omega) | (subst hs; exact ⟨by first | rfl | (simp_all [mkS]; done), rfl⟩)
  · refine v_te (y := 5) (show nI w = 5 from by rw [hs]; rfl) ?_
    refine v_tableOut F 76 d_B_markOf_1 (by decide) rfl ?_
    refine v_iconst (v := 0) F d_B_markOf_76 ki_0 ?_
    refine v_aload_n F d_B_markOf_77 rfl 0 rfl ?_
    refine v_geti F fk_B_71 G19 rfl d_B_markOf_78 ?_
    refine v_iconst (v := 1) F d_B_markOf_81 ki_1 ?_
    refine v_iadd F d_B_markOf_82 ?_
    refine v_aload_n F d_B_markOf_83 rfl 0 rfl ?_
    refine v_getr (r := 29) F fk_B_40 G19 rfl d_B_markOf_84 ?_
    refine v_iload_n F d_B_markOf_87 rfl 1 rfl ?_
    refine v_ial F i G29 rfl (by omega) d_B_markOf_88 ?_
    refine v_isub F d_B_markOf_89 ?_
    refine v_iconst (v := 2) F d_B_markOf_90 ki_2 ?_
    refine v_isub F d_B_markOf_91 ?_
    refine v_mmax F (List.mem_of_getElem? (i := 649) (by decide +kernel)) (Nat.le_of_ble_eq_true rfl) (by decide) d_B_markOf_92 ?_
    refine v_iret F hr rfl d_B_markOf_95 ?_
    first | (exfalso; omega) | (subst hs; exact ⟨by first | rfl | (simp_all [mkS]; done), rfl⟩)
abbrev b_B_power : ByteArray := prog_2_method_21_code
abbrev y_B_power : MethodName := ⟨"TakerBook$Band", "power", "(II)J"⟩
theorem d_B_power_0 : decode b_B_power 0 = .ok (.lconst 1, 1) := by decide +kernel
theorem d_B_power_1 : decode b_B_power 1 = .ok (.lstore_n 2, 1) := by decide +kernel
theorem d_B_power_2 : decode b_B_power 2 = .ok (.iconst 0, 1) := by decide +kernel
theorem d_B_power_3 : decode b_B_power 3 = .ok (.istore 4, 2) := by decide +kernel
theorem d_B_power_5 : decode b_B_power 5 = .ok (.iload 4, 2) := by decide +kernel
theorem d_B_power_7 : decode b_B_power 7 = .ok (.iload_n 1, 1) := by decide +kernel
theorem d_B_power_8 : decode b_B_power 8 = .ok (.if_icmp .ge 14, 3) := by decide +kernel
theorem d_B_power_11 : decode b_B_power 11 = .ok (.lload_n 2, 1) := by decide +kernel
theorem d_B_power_12 : decode b_B_power 12 = .ok (.iload_n 0, 1) := by decide +kernel
theorem d_B_power_13 : decode b_B_power 13 = .ok (.i2l, 1) := by decide +kernel
theorem d_B_power_14 : decode b_B_power 14 = .ok (.lmul, 1) := by decide +kernel
theorem d_B_power_15 : decode b_B_power 15 = .ok (.lstore_n 2, 1) := by decide +kernel
theorem d_B_power_16 : decode b_B_power 16 = .ok (.iinc 4 1, 3) := by decide +kernel
theorem d_B_power_19 : decode b_B_power 19 = .ok (.goto (-14), 3) := by decide +kernel
theorem d_B_power_22 : decode b_B_power 22 = .ok (.lload_n 2, 1) := by decide +kernel
theorem d_B_power_23 : decode b_B_power 23 = .ok (.lreturn, 1) := by decide +kernel
theorem mo_B_power : mok y_B_power b_B_power 5 (some .long) 2 := ⟨List.mem_of_getElem? (i := 913) (by decide +kernel), ⟨by decide +kernel, by decide +kernel, by decide +kernel⟩, List.mem_of_getElem? (i := 76) (by decide +kernel), by decide⟩
set_option maxHeartbeats 4000000 in
theorem L_B_power_5 {X : FX} {u : Un} (hA : Ap u) {Q : State → Prop} (F : Fr X u "TakerBook$Band" b_B_power 5) {σ : St} {p : Int32} {t : Nat} (ht : t ≤ 6) (k : V X u 0 5 Q 22 [(0, .int p), (1, .int (nI t)), (2, .long (pwL p.toInt64 t)), (4, .int (nI t))] [] (σ)) : ∀ (nn i : Nat), i ≤ t → t - i < nn → V X u 0 5 Q 5 [(0, .int p), (1, .int (nI t)), (2, .long (pwL p.toInt64 i)), (4, .int (nI i))] [] (σ) := by
  intro nn
  induction nn with
  | zero =>
    intro i h1 h2
    exact absurd h2 (Nat.not_lt_zero _)
  | succ nn ih =>
    intro i hii hnn
    refine v_iload F d_B_power_5 3 rfl ?_
    refine v_iload_n F d_B_power_7 rfl 1 rfl ?_
    refine v_icmp_ge F 22 d_B_power_8 rfl (fun h8 => ?_) (fun h8 => ?_)
    · skip
      have h8 : t ≤ i := (nI_leI (a := t) (b := i) (by omega) (by omega)).mp h8
      have he : i = t := by omega
      subst he
      exact k
    · skip
      have h8 : ¬ t ≤ i := fun q => h8 ((nI_leI (a := t) (b := i) (by omega) (by omega)).mpr q)
      refine v_lload_n F d_B_power_11 rfl 2 rfl ?_
      refine v_iload_n F d_B_power_12 rfl 0 rfl ?_
      refine v_i2l F d_B_power_13 ?_
      refine v_lmul F d_B_power_14 ?_
      refine v_nl (fun x1 ex1 => ?_)
      refine v_lstore_n (ls' := [(2, .long x1), (0, .int p), (1, .int (nI t)), (4, .int (nI i))]) F d_B_power_15 rfl (by decide) rfl ?_
      refine v_iinc (v := nI (i + 1)) (ls' := [(4, .int (nI (i + 1))), (2, .long x1), (0, .int p), (1, .int (nI t))]) F d_B_power_16 (j := 3) rfl (nI_inc _) (by decide) rfl ?_
      refine v_goto F 5 d_B_power_19 rfl ?_
      refine v_sub [2, 3, 1, 0] (ls' := [(0, .int p), (1, .int (nI t)), (2, .long x1), (4, .int (nI (i + 1)))]) rfl ?_
      have g2 : x1 = (pwL p.toInt64 (i + 1)) := (by first | rfl | (simp [pwL, *]; done) | (simp_all [pwL]; done) | grind [pwL])
      refine v_to (ls' := [(0, .int p), (1, .int (nI t)), (2, .long (pwL p.toInt64 (i + 1))), (4, .int (nI (i + 1)))]) (by first | rfl | rw [g2] | simp_all) ?_
      exact ih (i + 1) (by omega) (by omega)
set_option maxHeartbeats 4000000 in
theorem c_B_power (l : Launch) (u : Un) (hA : Ap u) (σ : St) (p : Int32) (t : Nat) (ht : t ≤ 6) : MTl l u y_B_power b_B_power 5 0 [.int p, .int (nI t)] σ (fun ans σ' => pwL p.toInt64 t = ans ∧ σ = σ') := by
  refine MT_of hA rfl (by decide) (Nat.le_of_ble_eq_true rfl) (fun X hl F hr => ?_)
  subst hl
  refine v_to (ls' := [(0, .int p), (1, .int (nI t))]) rfl ?_
  refine v_lconst (v := 1) F d_B_power_0 rfl ?_
  refine v_lstore_n (ls' := [(2, .long 1), (0, .int p), (1, .int (nI t))]) F d_B_power_1 rfl (by decide) rfl ?_
  refine v_iconst (v := 0) F d_B_power_2 ki_0 ?_
  refine v_istore (ls' := [(4, .int 0), (2, .long 1), (0, .int p), (1, .int (nI t))]) F d_B_power_3 (by decide) rfl ?_
  refine v_sub [2, 3, 1, 0] (ls' := [(0, .int p), (1, .int (nI t)), (2, .long 1), (4, .int 0)]) rfl ?_
  have g1 : 1 = (pwL p.toInt64 0) := (by first | rfl | (simp [pwL, *]; done) | (simp_all [pwL]; done) | grind [pwL])
  have g2 : 0 = (nI 0) := (by first | rfl | (simp [pwL, *]; done) | (simp_all [pwL]; done) | grind [pwL])
  refine v_to (ls' := [(0, .int p), (1, .int (nI t)), (2, .long (pwL p.toInt64 0)), (4, .int (nI 0))]) (by first | rfl | rw [g1, g2] | simp_all) ?_
  refine L_B_power_5 hA F ht ?_ _ 0 (Nat.zero_le _) (Nat.lt_succ_self _)
  refine v_lload_n F d_B_power_22 rfl 2 rfl ?_
  refine v_lret F hr d_B_power_23 ?_
  exact ⟨rfl, rfl⟩
abbrev b_B_untriedOfAll : ByteArray := prog_2_method_19_code
abbrev y_B_untriedOfAll : MethodName := ⟨"TakerBook$Band", "untriedOfAll", "(I)J"⟩
theorem d_B_untriedOfAll_0 : decode b_B_untriedOfAll 0 = .ok (.aload_n 0, 1) := by decide +kernel
theorem d_B_untriedOfAll_1 : decode b_B_untriedOfAll 1 = .ok (.aload_n 0, 1) := by decide +kernel
theorem d_B_untriedOfAll_2 : decode b_B_untriedOfAll 2 = .ok (.getfield 95, 3) := by decide +kernel
theorem d_B_untriedOfAll_5 : decode b_B_untriedOfAll 5 = .ok (.invokevirtual 138, 3) := by decide +kernel
theorem d_B_untriedOfAll_8 : decode b_B_untriedOfAll 8 = .ok (.invokestatic 115, 3) := by decide +kernel
theorem d_B_untriedOfAll_11 : decode b_B_untriedOfAll 11 = .ok (.istore_n 2, 1) := by decide +kernel
theorem d_B_untriedOfAll_12 : decode b_B_untriedOfAll 12 = .ok (.lconst 0, 1) := by decide +kernel
theorem d_B_untriedOfAll_13 : decode b_B_untriedOfAll 13 = .ok (.lstore_n 3, 1) := by decide +kernel
theorem d_B_untriedOfAll_14 : decode b_B_untriedOfAll 14 = .ok (.iconst 0, 1) := by decide +kernel
theorem d_B_untriedOfAll_15 : decode b_B_untriedOfAll 15 = .ok (.istore 5, 2) := by decide +kernel
theorem d_B_untriedOfAll_17 : decode b_B_untriedOfAll 17 = .ok (.iload 5, 2) := by decide +kernel
theorem d_B_untriedOfAll_19 : decode b_B_untriedOfAll 19 = .ok (.iconst 1, 1) := by decide +kernel
theorem d_B_untriedOfAll_20 : decode b_B_untriedOfAll 20 = .ok (.iload_n 2, 1) := by decide +kernel
theorem d_B_untriedOfAll_21 : decode b_B_untriedOfAll 21 = .ok (.ishl, 1) := by decide +kernel
theorem d_B_untriedOfAll_22 : decode b_B_untriedOfAll 22 = .ok (.if_icmp .ge 48, 3) := by decide +kernel
theorem d_B_untriedOfAll_25 : decode b_B_untriedOfAll 25 = .ok (.iload 5, 2) := by decide +kernel
theorem d_B_untriedOfAll_27 : decode b_B_untriedOfAll 27 = .ok (.invokestatic 115, 3) := by decide +kernel
theorem d_B_untriedOfAll_30 : decode b_B_untriedOfAll 30 = .ok (.istore 6, 2) := by decide +kernel
theorem d_B_untriedOfAll_32 : decode b_B_untriedOfAll 32 = .ok (.iload_n 2, 1) := by decide +kernel
theorem d_B_untriedOfAll_33 : decode b_B_untriedOfAll 33 = .ok (.iload 6, 2) := by decide +kernel
theorem d_B_untriedOfAll_35 : decode b_B_untriedOfAll 35 = .ok (.isub, 1) := by decide +kernel
theorem d_B_untriedOfAll_36 : decode b_B_untriedOfAll 36 = .ok (.aload_n 0, 1) := by decide +kernel
theorem d_B_untriedOfAll_37 : decode b_B_untriedOfAll 37 = .ok (.getfield 74, 3) := by decide +kernel
theorem d_B_untriedOfAll_40 : decode b_B_untriedOfAll 40 = .ok (.if_icmp .ge 24, 3) := by decide +kernel
theorem d_B_untriedOfAll_43 : decode b_B_untriedOfAll 43 = .ok (.lload_n 3, 1) := by decide +kernel
theorem d_B_untriedOfAll_44 : decode b_B_untriedOfAll 44 = .ok (.iload_n 1, 1) := by decide +kernel
theorem d_B_untriedOfAll_45 : decode b_B_untriedOfAll 45 = .ok (.iload 6, 2) := by decide +kernel
theorem d_B_untriedOfAll_47 : decode b_B_untriedOfAll 47 = .ok (.invokestatic 156, 3) := by decide +kernel
theorem d_B_untriedOfAll_50 : decode b_B_untriedOfAll 50 = .ok (.bipush 12, 2) := by decide +kernel
theorem d_B_untriedOfAll_52 : decode b_B_untriedOfAll 52 = .ok (.iload_n 1, 1) := by decide +kernel
theorem d_B_untriedOfAll_53 : decode b_B_untriedOfAll 53 = .ok (.isub, 1) := by decide +kernel
theorem d_B_untriedOfAll_54 : decode b_B_untriedOfAll 54 = .ok (.iload_n 2, 1) := by decide +kernel
theorem d_B_untriedOfAll_55 : decode b_B_untriedOfAll 55 = .ok (.iload 6, 2) := by decide +kernel
theorem d_B_untriedOfAll_57 : decode b_B_untriedOfAll 57 = .ok (.isub, 1) := by decide +kernel
theorem d_B_untriedOfAll_58 : decode b_B_untriedOfAll 58 = .ok (.invokestatic 156, 3) := by decide +kernel
theorem d_B_untriedOfAll_61 : decode b_B_untriedOfAll 61 = .ok (.lmul, 1) := by decide +kernel
theorem d_B_untriedOfAll_62 : decode b_B_untriedOfAll 62 = .ok (.ladd, 1) := by decide +kernel
theorem d_B_untriedOfAll_63 : decode b_B_untriedOfAll 63 = .ok (.lstore_n 3, 1) := by decide +kernel
theorem d_B_untriedOfAll_64 : decode b_B_untriedOfAll 64 = .ok (.iinc 5 1, 3) := by decide +kernel
theorem d_B_untriedOfAll_67 : decode b_B_untriedOfAll 67 = .ok (.goto (-50), 3) := by decide +kernel
theorem d_B_untriedOfAll_70 : decode b_B_untriedOfAll 70 = .ok (.lload_n 3, 1) := by decide +kernel
theorem d_B_untriedOfAll_71 : decode b_B_untriedOfAll 71 = .ok (.lreturn, 1) := by decide +kernel
theorem mo_B_untriedOfAll : mok y_B_untriedOfAll b_B_untriedOfAll 7 (some .long) 1 := ⟨List.mem_of_getElem? (i := 910) (by decide +kernel), ⟨by decide +kernel, by decide +kernel, by decide +kernel⟩, List.mem_of_getElem? (i := 76) (by decide +kernel), by decide⟩
set_option maxHeartbeats 4000000 in
theorem L_B_untriedOfAll_17 {X : FX} {u : Un} (hA : Ap u) {Q : State → Prop} (F : Fr X u "TakerBook$Band" b_B_untriedOfAll 7) {σ : St} {p : Int32} {t : Nat} (ht : t ≤ 6) (k : V X u 6 7 Q 70 [(0, .ref (u.2.1 19)), (1, .int p), (2, .int (nI t)), (3, .long (utL (σ.1 19 12) p t ((2 ^ t)))), (5, .int (nI ((2 ^ t))))] [] (σ)) : ∀ (nn s : Nat), s ≤ (2 ^ t) → (2 ^ t) - s < nn → V X u 6 7 Q 17 [(0, .ref (u.2.1 19)), (1, .int p), (2, .int (nI t)), (3, .long (utL (σ.1 19 12) p t s)), (5, .int (nI s))] [] (σ) := by
  intro nn
  induction nn with
  | zero =>
    intro s h1 h2
    exact absurd h2 (Nat.not_lt_zero _)
  | succ nn ih =>
    intro s hii hnn
    have h64 := p2_le ht
    refine v_iload F d_B_untriedOfAll_17 4 rfl ?_
    refine v_iconst (v := 1) F d_B_untriedOfAll_19 ki_1 ?_
    refine v_iload_n F d_B_untriedOfAll_20 rfl 2 rfl ?_
    refine v_ishl F d_B_untriedOfAll_21 ?_
    refine v_te (y := nI (2 ^ t)) (bit6 _ (by omega)) ?_
    refine v_icmp_ge F 70 d_B_untriedOfAll_22 rfl (fun h22 => ?_) (fun h22 => ?_)
    · skip
      have h22 : 2 ^ t ≤ s := (nI_leI (a := 2 ^ t) (b := s) (by omega) (by omega)).mp h22
      have he : s = (2 ^ t) := by omega
      subst he
      exact k
    · skip
      have h22 : ¬ 2 ^ t ≤ s := fun q => h22 ((nI_leI (a := 2 ^ t) (b := s) (by omega) (by omega)).mpr q)
      have hps := pc_lt2 t (by omega) s (by omega)
      refine v_iload F d_B_untriedOfAll_25 4 rfl ?_
      refine v_runi (r_S F (c_I_bitCount X.2.1 u hA σ s (by omega)) mo_I_bitCount st_B_115 (by decide) rfl (Nat.le_of_ble_eq_true rfl) d_B_untriedOfAll_27) (fun r1 σ2 q3 => ?_)
      obtain ⟨rfl, rfl⟩ := q3
      refine v_istore (ls' := [(6, .int (nI (pcN s))), (0, .ref (u.2.1 19)), (1, .int p), (2, .int (nI t)), (3, .long (utL (σ.1 19 12) p t s)), (5, .int (nI s))]) F d_B_untriedOfAll_30 (by decide) rfl ?_
      refine v_iload_n F d_B_untriedOfAll_32 rfl 3 rfl ?_
      refine v_iload F d_B_untriedOfAll_33 0 rfl ?_
      refine v_isub F d_B_untriedOfAll_35 ?_
      refine v_te (y := nI (t - pcN s)) (pk_sub (by omega)) ?_
      refine v_aload_n F d_B_untriedOfAll_36 rfl 1 rfl ?_
      refine v_geti F fk_B_74 G19 rfl d_B_untriedOfAll_37 ?_
      refine v_icmp_ge F 64 d_B_untriedOfAll_40 rfl (fun h40 => ?_) (fun h40 => ?_)
      · skip
        refine v_iinc (v := nI (s + 1)) (ls' := [(5, .int (nI (s + 1))), (6, .int (nI (pcN s))), (0, .ref (u.2.1 19)), (1, .int p), (2, .int (nI t)), (3, .long (utL (σ.1 19 12) p t s))]) F d_B_untriedOfAll_64 (j := 5) rfl (nI_inc _) (by decide) rfl ?_
        refine v_goto F 17 d_B_untriedOfAll_67 rfl ?_
        refine v_sub [2, 3, 4, 5, 0] (ls' := [(0, .ref (u.2.1 19)), (1, .int p), (2, .int (nI t)), (3, .long (utL (σ.1 19 12) p t s)), (5, .int (nI (s + 1)))]) rfl ?_
        have g4 : (utL (σ.1 19 12) p t s) = (utL (σ.1 19 12) p t (s + 1)) := (by first | rfl | (simp [utL, *]; done) | (simp_all [utL]; done) | grind [utL])
        refine v_to (ls' := [(0, .ref (u.2.1 19)), (1, .int p), (2, .int (nI t)), (3, .long (utL (σ.1 19 12) p t (s + 1))), (5, .int (nI (s + 1)))]) (by first | rfl | rw [g4] | simp_all) ?_
        exact ih (s + 1) (by omega) (by omega)
      · skip
        refine v_lload_n F d_B_untriedOfAll_43 rfl 4 rfl ?_
        refine v_iload_n F d_B_untriedOfAll_44 rfl 2 rfl ?_
        refine v_iload F d_B_untriedOfAll_45 0 rfl ?_
        refine v_runl (r_S F (c_B_power X.2.1 u hA σ p (pcN s) (by omega)) mo_B_power st_B_156 (by decide) rfl (Nat.le_of_ble_eq_true rfl) d_B_untriedOfAll_47) (fun r5 σ6 q7 => ?_)
        obtain ⟨rfl, rfl⟩ := q7
        refine v_bipush (v := 12) F d_B_untriedOfAll_50 kb_12 ?_
        refine v_iload_n F d_B_untriedOfAll_52 rfl 2 rfl ?_
        refine v_isub F d_B_untriedOfAll_53 ?_
        refine v_iload_n F d_B_untriedOfAll_54 rfl 3 rfl ?_
        refine v_iload F d_B_untriedOfAll_55 0 rfl ?_
        refine v_isub F d_B_untriedOfAll_57 ?_
        refine v_te (y := nI (t - pcN s)) (pk_sub (by omega)) ?_
        refine v_runl (r_S F (c_B_power X.2.1 u hA σ (12 - p) (t - pcN s) (by omega)) mo_B_power st_B_156 (by decide) rfl (Nat.le_of_ble_eq_true rfl) d_B_untriedOfAll_58) (fun r8 σ9 q10 => ?_)
        obtain ⟨rfl, rfl⟩ := q10
        refine v_lmul F d_B_untriedOfAll_61 ?_
        refine v_ladd F d_B_untriedOfAll_62 ?_
        refine v_nl (fun x11 ex11 => ?_)
        refine v_lstore_n (ls' := [(3, .long x11), (6, .int (nI (pcN s))), (0, .ref (u.2.1 19)), (1, .int p), (2, .int (nI t)), (5, .int (nI s))]) F d_B_untriedOfAll_63 rfl (by decide) rfl ?_
        refine v_iinc (v := nI (s + 1)) (ls' := [(5, .int (nI (s + 1))), (3, .long x11), (6, .int (nI (pcN s))), (0, .ref (u.2.1 19)), (1, .int p), (2, .int (nI t))]) F d_B_untriedOfAll_64 (j := 5) rfl (nI_inc _) (by decide) rfl ?_
        refine v_goto F 17 d_B_untriedOfAll_67 rfl ?_
        refine v_sub [3, 4, 5, 1, 0] (ls' := [(0, .ref (u.2.1 19)), (1, .int p), (2, .int (nI t)), (3, .long x11), (5, .int (nI (s + 1)))]) rfl ?_
        have g12 : x11 = (utL (σ.1 19 12) p t (s + 1)) := (by first | rfl | (simp [utL, *]; done) | (simp_all [utL]; done) | grind [utL])
        refine v_to (ls' := [(0, .ref (u.2.1 19)), (1, .int p), (2, .int (nI t)), (3, .long (utL (σ.1 19 12) p t (s + 1))), (5, .int (nI (s + 1)))]) (by first | rfl | rw [g12] | simp_all) ?_
        exact ih (s + 1) (by omega) (by omega)
set_option maxHeartbeats 4000000 in
theorem c_B_untriedOfAll (l : Launch) (u : Un) (hA : Ap u) (σ : St) {n G : Nat} {kd : Nat → Nat} (hb : bkOk σ n G kd) {L : Nat} (hL : σ.1 19 14 = nI L) (hL64 : L < 64) (p : Int32) : MTl l u y_B_untriedOfAll b_B_untriedOfAll 7 6 [.ref (u.2.1 19), .int p] σ (fun ans σ' => utL (σ.1 19 12) p (pcN (mkN (tkS σ G kd L) n)) (2 ^ pcN (mkN (tkS σ G kd L) n)) = ans ∧ σ = σ') := by
  refine MT_of hA rfl (by decide) (Nat.le_of_ble_eq_true rfl) (fun X hl F hr => ?_)
  subst hl
  refine v_to (ls' := [(0, .ref (u.2.1 19)), (1, .int p)]) rfl ?_
  obtain ⟨hn, hn6, hG, hG64, hkd, hk6⟩ := id hb
  refine v_aload_n F d_B_untriedOfAll_0 rfl 0 rfl ?_
  refine v_aload_n F d_B_untriedOfAll_1 rfl 0 rfl ?_
  refine v_geti F fk_B_95 G19 rfl d_B_untriedOfAll_2 ?_
  refine v_te (y := nI L) hL ?_
  refine v_runi (r_V F (c_B_talkers X.2.1 u hA σ hb L (by omega)) mo_B_talkers st_B_138 rc_19 (by decide) rfl (Nat.le_of_ble_eq_true rfl) d_B_untriedOfAll_5) (fun r1 σ2 q3 => ?_)
  obtain ⟨rfl, rfl⟩ := q3
  refine v_runi (r_S F (c_I_bitCount X.2.1 u hA σ (mkN (tkS σ G kd L) n) (mkN_64 _ hn6)) mo_I_bitCount st_B_115 (by decide) rfl (Nat.le_of_ble_eq_true rfl) d_B_untriedOfAll_8) (fun r4 σ5 q6 => ?_)
  obtain ⟨rfl, rfl⟩ := q6
  refine v_istore_n (ls' := [(2, .int (nI (pcN (mkN (tkS σ G kd L) n)))), (0, .ref (u.2.1 19)), (1, .int p)]) F d_B_untriedOfAll_11 rfl (by decide) rfl ?_
  refine v_lconst (v := 0) F d_B_untriedOfAll_12 rfl ?_
  refine v_lstore_n (ls' := [(3, .long 0), (2, .int (nI (pcN (mkN (tkS σ G kd L) n)))), (0, .ref (u.2.1 19)), (1, .int p)]) F d_B_untriedOfAll_13 rfl (by decide) rfl ?_
  refine v_iconst (v := 0) F d_B_untriedOfAll_14 ki_0 ?_
  refine v_istore (ls' := [(5, .int 0), (3, .long 0), (2, .int (nI (pcN (mkN (tkS σ G kd L) n)))), (0, .ref (u.2.1 19)), (1, .int p)]) F d_B_untriedOfAll_15 (by decide) rfl ?_
  obtain ⟨t, et⟩ : ∃ t, t = pcN (mkN (tkS σ G kd L) n) := ⟨_, rfl⟩
  have ht : t ≤ 6 := by rw [et]; exact pc_le _ (mkN_64 _ hn6)
  rw [← et]
  refine v_to (ls' := [(5, .int 0), (3, .long 0), (2, .int (nI t)), (0, .ref (u.2.1 19)), (1, .int p)]) (by rw [et]) ?_
  refine v_sub [3, 4, 2, 1, 0] (ls' := [(0, .ref (u.2.1 19)), (1, .int p), (2, .int (nI t)), (3, .long 0), (5, .int 0)]) rfl ?_
  have g7 : 0 = (utL (σ.1 19 12) p t 0) := (by first | rfl | (simp [utL, *]; done) | (simp_all [utL]; done) | grind [utL])
  have g8 : 0 = (nI 0) := (by first | rfl | (simp [utL, *]; done) | (simp_all [utL]; done) | grind [utL])
  refine v_to (ls' := [(0, .ref (u.2.1 19)), (1, .int p), (2, .int (nI t)), (3, .long (utL (σ.1 19 12) p t 0)), (5, .int (nI 0))]) (by first | rfl | rw [g7, g8] | simp_all) ?_
  refine L_B_untriedOfAll_17 hA F ht ?_ _ 0 (Nat.zero_le _) (Nat.lt_succ_self _)
  refine v_lload_n F d_B_untriedOfAll_70 rfl 3 rfl ?_
  refine v_lret F hr d_B_untriedOfAll_71 ?_
  exact ⟨by rw [et], rfl⟩
abbrev b_B_allOf : ByteArray := prog_2_method_20_code
abbrev y_B_allOf : MethodName := ⟨"TakerBook$Band", "allOf", "()J"⟩
theorem d_B_allOf_0 : decode b_B_allOf 0 = .ok (.bipush 12, 2) := by decide +kernel
theorem d_B_allOf_2 : decode b_B_allOf 2 = .ok (.aload_n 0, 1) := by decide +kernel
theorem d_B_allOf_3 : decode b_B_allOf 3 = .ok (.aload_n 0, 1) := by decide +kernel
theorem d_B_allOf_4 : decode b_B_allOf 4 = .ok (.getfield 95, 3) := by decide +kernel
theorem d_B_allOf_7 : decode b_B_allOf 7 = .ok (.invokevirtual 138, 3) := by decide +kernel
theorem d_B_allOf_10 : decode b_B_allOf 10 = .ok (.invokestatic 115, 3) := by decide +kernel
theorem d_B_allOf_13 : decode b_B_allOf 13 = .ok (.invokestatic 156, 3) := by decide +kernel
theorem d_B_allOf_16 : decode b_B_allOf 16 = .ok (.lreturn, 1) := by decide +kernel
theorem mo_B_allOf : mok y_B_allOf b_B_allOf 1 (some .long) 0 := ⟨List.mem_of_getElem? (i := 917) (by decide +kernel), ⟨by decide +kernel, by decide +kernel, by decide +kernel⟩, List.mem_of_getElem? (i := 76) (by decide +kernel), by decide⟩
set_option maxHeartbeats 4000000 in
theorem c_B_allOf (l : Launch) (u : Un) (hA : Ap u) (σ : St) {n G : Nat} {kd : Nat → Nat} (hb : bkOk σ n G kd) {L : Nat} (hL : σ.1 19 14 = nI L) (hL64 : L < 64) : MTl l u y_B_allOf b_B_allOf 1 6 [.ref (u.2.1 19)] σ (fun ans σ' => pwL (12 : Int32).toInt64 (pcN (mkN (tkS σ G kd L) n)) = ans ∧ σ = σ') := by
  refine MT_of hA rfl (by decide) (Nat.le_of_ble_eq_true rfl) (fun X hl F hr => ?_)
  subst hl
  refine v_to (ls' := [(0, .ref (u.2.1 19))]) rfl ?_
  obtain ⟨hn, hn6, hG, hG64, hkd, hk6⟩ := id hb
  refine v_bipush (v := 12) F d_B_allOf_0 kb_12 ?_
  refine v_aload_n F d_B_allOf_2 rfl 0 rfl ?_
  refine v_aload_n F d_B_allOf_3 rfl 0 rfl ?_
  refine v_geti F fk_B_95 G19 rfl d_B_allOf_4 ?_
  refine v_te (y := nI L) hL ?_
  refine v_runi (r_V F (c_B_talkers X.2.1 u hA σ hb L (by omega)) mo_B_talkers st_B_138 rc_19 (by decide) rfl (Nat.le_of_ble_eq_true rfl) d_B_allOf_7) (fun r1 σ2 q3 => ?_)
  obtain ⟨rfl, rfl⟩ := q3
  refine v_runi (r_S F (c_I_bitCount X.2.1 u hA σ (mkN (tkS σ G kd L) n) (mkN_64 _ hn6)) mo_I_bitCount st_B_115 (by decide) rfl (Nat.le_of_ble_eq_true rfl) d_B_allOf_10) (fun r4 σ5 q6 => ?_)
  obtain ⟨rfl, rfl⟩ := q6
  refine v_runl (r_S F (c_B_power X.2.1 u hA σ 12 (pcN (mkN (tkS σ G kd L) n)) (pc_le _ (mkN_64 _ hn6))) mo_B_power st_B_156 (by decide) rfl (Nat.le_of_ble_eq_true rfl) d_B_allOf_13) (fun r7 σ8 q9 => ?_)
  obtain ⟨rfl, rfl⟩ := q9
  refine v_lret F hr d_B_allOf_16 ?_
  exact ⟨rfl, rfl⟩
end
section
-- deeds
def stS (kd : Nat → Nat) (G n w a L : Nat) (σ : St) : St := match w with
  | 0 => enW σ G kd n L
  | 1 => enG σ (nI a)
  | 2 => enC σ a
  | _ => enH σ kd a L
def stL (w a L : Nat) : Nat := match w with
  | 0 => L
  | 1 => L
  | 2 => L
  | _ => L &&& (63 ^^^ 2 ^ a)
theorem stL_64 {w a L : Nat} (h : L < 64) : stL w a L < 64 := by
  unfold stL
  split <;> first | exact h | exact and_lt h
theorem stS_k (kd : Nat → Nat) (G n w a L : Nat) (σ : St) {k : Nat} (h1 : k ≠ 19) (h2 : k ≠ 31) : (stS kd G n w a L σ).1 k = σ.1 k := by
  unfold stS
  split <;> simp [enW, enG, enC, enH, uI, h1, h2]
theorem stS_f (kd : Nat → Nat) (G n w a L : Nat) (σ : St) {j : Nat} (h : j ≠ 14 ∧ j ≠ 15 ∧ j ≠ 16 ∧ j ≠ 17 ∧ j ≠ 18) : (stS kd G n w a L σ).1 19 j = σ.1 19 j := by
  obtain ⟨h1, h2, h3, h4, h5⟩ := h
  unfold stS
  split <;> simp [enW, enG, enC, enH, uI, upd, h1, h2, h3, h4, h5]
theorem stS_l (kd : Nat → Nat) (G n w a L : Nat) (σ : St) (h : σ.1 19 14 = nI L) : (stS kd G n w a L σ).1 19 14 = nI (stL w a L) := by
  unfold stS stL
  split <;> simp [enW, enG, enC, enH, uI, upd, h]
theorem stS_ok {kd : Nat → Nat} {G n w a L : Nat} {σ : St} (h : bkOk σ n G kd) : bkOk (stS kd G n w a L σ) n G kd := bkOk_of h (stS_f _ _ _ _ _ _ _ (by decide)) (stS_f _ _ _ _ _ _ _ (by decide)) (stS_k _ _ _ _ _ _ _ (by decide) (by decide))
def rpS (σ : St) (kd : Nat → Nat) (G n : Nat) (wN aN : Nat → Nat) : Nat → St × Nat
  | 0 => (rsS σ n, 2 ^ n - 1)
  | d + 1 => (stS kd G n (wN d) (aN d) (rpS σ kd G n wN aN d).2 (rpS σ kd G n wN aN d).1, stL (wN d) (aN d) (rpS σ kd G n wN aN d).2)
theorem rsS_k (σ : St) (n : Nat) {k : Nat} (h1 : k ≠ 19) (h2 : k ≠ 31) : (rsS σ n).1 k = σ.1 k := by simp [rsS, uI, h1, cpF_other _ _ _ _ h2]
theorem rsS_f (σ : St) (n : Nat) {j : Nat} (h : j ≠ 14 ∧ j ≠ 15 ∧ j ≠ 16 ∧ j ≠ 17 ∧ j ≠ 18) : (rsS σ n).1 19 j = σ.1 19 j := by
  obtain ⟨h1, h2, h3, h4, h5⟩ := h
  simp [rsS, uI, upd, h1, h2, h3, h4, h5, cpF_other _ _ _ _ (show 19 ≠ 31 by decide)]
theorem rsS_ok {σ : St} {n G : Nat} {kd : Nat → Nat} (h : bkOk σ n G kd) : bkOk (rsS σ n) n G kd := bkOk_of h (rsS_f _ _ (by decide)) (rsS_f _ _ (by decide)) (rsS_k _ _ (by decide) (by decide))
theorem rpS_facts {σ : St} {n G : Nat} {kd : Nat → Nat} (hb : bkOk σ n G kd) (wN aN : Nat → Nat) : ∀ d, bkOk (rpS σ kd G n wN aN d).1 n G kd ∧ (rpS σ kd G n wN aN d).1.1 19 14 = nI (rpS σ kd G n wN aN d).2 ∧ (rpS σ kd G n wN aN d).2 < 64 ∧ ∀ k, k ≠ 19 → k ≠ 31 → (rpS σ kd G n wN aN d).1.1 k = σ.1 k
  | 0 => by
    refine ⟨rsS_ok hb, by simp [rpS, rsS, uI, upd], ?_, fun k h1 h2 => rsS_k σ n h1 h2⟩
    have h1 := p2_64 hb.2.1
    have h2 := p2_pos n
    show 2 ^ n - 1 < 64
    omega
  | d + 1 => by
    obtain ⟨h1, h2, h3, h4⟩ := rpS_facts hb wN aN d
    exact ⟨stS_ok h1, stS_l _ _ _ _ _ _ _ h2, stL_64 h3, fun k h5 h6 => by rw [rpS, stS_k _ _ _ _ _ _ _ h5 h6, h4 k h5 h6]⟩
def addS (σ : St) (D : Nat) (w a : Int32) : St := uI (uI (uI σ 50 D w) 51 D a) 49 2 (nI (D + 1))
theorem addS_k (σ : St) (D : Nat) (w a : Int32) {k : Nat} (h : k ≠ 49 ∧ k ≠ 50 ∧ k ≠ 51) : (addS σ D w a).1 k = σ.1 k := by simp [addS, uI, h.1, h.2.1, h.2.2]
theorem addS_ok {σ : St} {n G : Nat} {kd : Nat → Nat} {D : Nat} {w a : Int32} (h : bkOk σ n G kd) : bkOk (addS σ D w a) n G kd := bkOk_of h (by rw [addS_k _ _ _ _ (by decide)]) (by rw [addS_k _ _ _ _ (by decide)]) (by rw [addS_k _ _ _ _ (by decide)])
def dwOk (σ : St) (n D : Nat) (wN aN : Nat → Nat) : Prop := ∀ d, d < D → σ.1 50 d = nI (wN d) ∧ σ.1 51 d = nI (aN d) ∧ wN d < 4 ∧ (2 ≤ wN d → aN d < n)
def dOk (p : Nat) : Prop := p = 49 ∨ p = 53 ∨ p = 56 ∨ p = 59
theorem gam_d {p : Nat} (h : dOk p) : Gam[p]? = some (.inr (.inr (4, [.inl (p + 1), .inl (p + 2), .inr false]))) := by rcases h with rfl | rfl | rfl | rfl <;> rfl
theorem gam_dw {p : Nat} (h : dOk p) : Gam[p + 1]? = some (.inl (.int, 40)) := by rcases h with rfl | rfl | rfl | rfl <;> rfl
theorem gam_do {p : Nat} (h : dOk p) : Gam[p + 2]? = some (.inl (.int, 40)) := by rcases h with rfl | rfl | rfl | rfl <;> rfl
theorem recv_d {p : Nat} (h : dOk p) : recv p "TakerBook$Deeds" := ⟨4, _, (R_D, F_D, 3), gam_d h, rfl, rfl⟩
theorem dOk_k {j : Nat} (h : j < 3) : dOk (53 + 3 * j) := by
  rcases j with _ | _ | _ | j
  · exact Or.inr (Or.inl rfl)
  · exact Or.inr (Or.inr (Or.inl rfl))
  · exact Or.inr (Or.inr (Or.inr rfl))
  · omega
theorem dOk_0 : dOk 49 := Or.inl rfl
def bcS (σ : St) (p q : Nat) : St := uI (uA (uA σ (p + 1) (va_cpy (σ.1 (q + 1)) (σ.1 (p + 1)) (0 : Int32).toNatClampNeg (0 : Int32).toNatClampNeg (40 : Int32).toNatClampNeg)) (p + 2) (va_cpy (σ.1 (q + 2)) (σ.1 (p + 2)) (0 : Int32).toNatClampNeg (0 : Int32).toNatClampNeg (40 : Int32).toNatClampNeg)) p 2 (σ.1 q 2)
theorem has_nat {i x : Int32} {n : Nat} (h : 0 ≤ i ∧ i < x) (hx : x = nI n) (hn : n ≤ 6) : ∃ j, j < n ∧ ix i = j ∧ i = nI j := by
  subst hx
  exact inR_nat (N := n) h rfl (by omega)
def tThief (σ : St) (G : Nat) (kd : Nat → Nat) (L : Nat) (i w : Int32) : Int32 × St := if ¬ (0 ≤ i ∧ i < σ.1 19 8) ∨ w < 0 ∨ 7 < w then (-1, σ) else (1, uI σ 0 12 (tlS σ G kd L (ix i) (ix w)))
def tMark (σ : St) (G : Nat) (kd : Nat → Nat) (n L : Nat) (i w : Int32) : Int32 × St := if ¬ (0 ≤ i ∧ i < σ.1 19 8) ∨ w ≤ 0 ∨ 6 ≤ w then (-1, σ) else if ofB (kd (ix i)) w = true then (mkS σ G kd n L (ix i) (ix w), σ) else (-3, tRef σ 3)
def opT (σ : St) : Prop := 0 < σ.1 19 8 ∧ σ.1 19 18 = 0
def tWeek (σ : St) (G : Nat) (kd : Nat → Nat) (n L D : Nat) : Int32 × St := if ¬ (0 < σ.1 19 8 ∧ σ.1 19 18 = 0) then (-4, σ) else if ¬ D < 40 then (-2, σ) else
  ((enW (addS σ D 0 0) G kd n L).1 19 17, uI (enW (addS σ D 0 0) G kd n L) 0 12 (if (enW (addS σ D 0 0) G kd n L).1 19 18 = 0 then 0 else 1))
def tBack (σ : St) (D : Nat) (m : Int32) : Int32 × St := if m < 1 ∨ 99 < m then (-1, σ) else if ¬ (0 < σ.1 19 8 ∧ σ.1 19 18 = 0) then (-4, σ) else if σ.1 19 17 < m then (-6, σ) else if ¬ D < 40 then (-2, σ) else
  ((enG (addS σ D 1 m) m).1 19 16, enG (addS σ D 1 m) m)
def tCross (σ : St) (L D : Nat) (i : Int32) : Int32 × St := if ¬ (0 ≤ i ∧ i < σ.1 19 8) then (-1, σ) else if ¬ σ.1 19 18 = 0 ∨ ¬ (L.testBit (ix i) = true ∧ σ.1 31 (ix i) < 2) then (-4, σ) else if ¬ D < 40 then (-2, σ) else
  ((enC (addS σ D 2 i) (ix i)).1 31 (ix i), enC (addS σ D 2 i) (ix i))
def tGive (σ : St) (kd : Nat → Nat) (L D : Nat) (i : Int32) : Int32 × St := if ¬ (0 ≤ i ∧ i < σ.1 19 8) then (-1, σ) else if ¬ σ.1 19 18 = 0 ∨ ¬ L.testBit (ix i) = true then (-4, σ) else if ¬ D < 40 then (-2, σ) else
  ((enH (addS σ D 3 i) kd (ix i) L).1 19 16, enH (addS σ D 3 i) kd (ix i) L)
theorem nI_nle40 {D : Nat} (h : D < 40) : ¬ (40 : Int32) ≤ nI D := fun q => absurd ((nI_leI (a := 40) (b := D) (by omega) (by omega)).mp q) (by omega)
end
section
theorem G49 : Gam[49]? = some (.inr (.inr (4, [.inl 50, .inl 51, .inr false]))) := rfl
theorem rc_49 : recv 49 "TakerBook$Deeds" := ⟨4, _, (R_D, F_D, 3), G49, rfl, rfl⟩
theorem fk_D_18 : fok "TakerBook$Deeds" 18 4 2 := ⟨(R_D, F_D, 3), rfl, by decide, List.mem_of_getElem? (i := 346) (by decide +kernel), rfl⟩
theorem fk_D_9 : fok "TakerBook$Deeds" 9 4 0 := ⟨(R_D, F_D, 3), rfl, by decide, List.mem_of_getElem? (i := 341) (by decide +kernel), rfl⟩
theorem G50 : Gam[50]? = some (.inl (.int, 40)) := rfl
theorem fk_D_15 : fok "TakerBook$Deeds" 15 4 1 := ⟨(R_D, F_D, 3), rfl, by decide, List.mem_of_getElem? (i := 343) (by decide +kernel), rfl⟩
theorem G51 : Gam[51]? = some (.inl (.int, 40)) := rfl
theorem pk_D_size : pok 4 2 .int := ⟨(R_D, F_D, 3), rfl, rfl, by decide +kernel⟩
theorem fk_T_57 : fok "TakerBook" 57 0 8 := ⟨(R_T, F_T, 15), rfl, by decide, List.mem_of_getElem? (i := 363) (by decide +kernel), rfl⟩
theorem st_T_342 : siteV "TakerBook" 342 ⟨"TakerBook$Deeds", "add", "(II)V"⟩ := ⟨List.mem_of_getElem? (i := 662) (by decide +kernel), List.mem_of_getElem? (i := 663) (by decide +kernel), List.mem_of_getElem? (i := 664) (by decide +kernel)⟩
theorem st_T_345 : siteV "TakerBook" 345 ⟨"TakerBook$Band", "enact", "(II)V"⟩ := ⟨List.mem_of_getElem? (i := 666) (by decide +kernel), List.mem_of_getElem? (i := 667) (by decide +kernel), List.mem_of_getElem? (i := 668) (by decide +kernel)⟩
theorem fk_T_72 : fok "TakerBook" 72 4 2 := ⟨(R_D, F_D, 3), rfl, by decide, List.mem_of_getElem? (i := 345) (by decide +kernel), rfl⟩
theorem fk_T_349 : fok "TakerBook" 349 4 0 := ⟨(R_D, F_D, 3), rfl, by decide, List.mem_of_getElem? (i := 342) (by decide +kernel), rfl⟩
theorem fk_T_352 : fok "TakerBook" 352 4 1 := ⟨(R_D, F_D, 3), rfl, by decide, List.mem_of_getElem? (i := 344) (by decide +kernel), rfl⟩
theorem st_T_346 : siteV "TakerBook" 346 ⟨"TakerBook$Band", "restart", "()V"⟩ := ⟨List.mem_of_getElem? (i := 699) (by decide +kernel), List.mem_of_getElem? (i := 532) (by decide +kernel), List.mem_of_getElem? (i := 533) (by decide +kernel)⟩
theorem c_B_enactN (l : Launch) (u : Un) (hA : Ap u) (σ : St) {n G : Nat} {kd : Nat → Nat} (hb : bkOk σ n G kd) {L : Nat} (hL : σ.1 19 14 = nI L) (hL64 : L < 64) (w a : Nat) (hw : w < 4) (ha : 2 ≤ w → a < n) : MTv l u y_B_enact b_B_enact 3 7 [.ref (u.2.1 19), .int (nI w), .int (nI a)] σ (fun σ' => σ' = stS kd G n w a L σ) := by
  rcases w with _ | _ | _ | _ | w
  · exact c_B_enact0 l u hA σ hb hL hL64 (nI a)
  · exact c_B_enact1 l u hA σ (nI a)
  · exact c_B_enact2 l u hA σ a (by have := ha (by omega); have := hb.2.1; omega)
  · exact c_B_enact3 l u hA σ hb hL hL64 a (ha (by omega))
  · exfalso
    omega
abbrev b_D_add : ByteArray := prog_4_method_2_code
abbrev y_D_add : MethodName := ⟨"TakerBook$Deeds", "add", "(II)V"⟩
theorem d_D_add_0 : decode b_D_add 0 = .ok (.aload_n 0, 1) := by decide +kernel
theorem d_D_add_1 : decode b_D_add 1 = .ok (.getfield 18, 3) := by decide +kernel
theorem d_D_add_4 : decode b_D_add 4 = .ok (.ifCond .lt 42, 3) := by decide +kernel
theorem d_D_add_7 : decode b_D_add 7 = .ok (.aload_n 0, 1) := by decide +kernel
theorem d_D_add_8 : decode b_D_add 8 = .ok (.getfield 18, 3) := by decide +kernel
theorem d_D_add_11 : decode b_D_add 11 = .ok (.bipush 40, 2) := by decide +kernel
theorem d_D_add_13 : decode b_D_add 13 = .ok (.if_icmp .ge 33, 3) := by decide +kernel
theorem d_D_add_16 : decode b_D_add 16 = .ok (.aload_n 0, 1) := by decide +kernel
theorem d_D_add_17 : decode b_D_add 17 = .ok (.getfield 9, 3) := by decide +kernel
theorem d_D_add_20 : decode b_D_add 20 = .ok (.aload_n 0, 1) := by decide +kernel
theorem d_D_add_21 : decode b_D_add 21 = .ok (.getfield 18, 3) := by decide +kernel
theorem d_D_add_24 : decode b_D_add 24 = .ok (.iload_n 1, 1) := by decide +kernel
theorem d_D_add_25 : decode b_D_add 25 = .ok (.iastore, 1) := by decide +kernel
theorem d_D_add_26 : decode b_D_add 26 = .ok (.aload_n 0, 1) := by decide +kernel
theorem d_D_add_27 : decode b_D_add 27 = .ok (.getfield 15, 3) := by decide +kernel
theorem d_D_add_30 : decode b_D_add 30 = .ok (.aload_n 0, 1) := by decide +kernel
theorem d_D_add_31 : decode b_D_add 31 = .ok (.getfield 18, 3) := by decide +kernel
theorem d_D_add_34 : decode b_D_add 34 = .ok (.iload_n 2, 1) := by decide +kernel
theorem d_D_add_35 : decode b_D_add 35 = .ok (.iastore, 1) := by decide +kernel
theorem d_D_add_36 : decode b_D_add 36 = .ok (.aload_n 0, 1) := by decide +kernel
theorem d_D_add_37 : decode b_D_add 37 = .ok (.dup, 1) := by decide +kernel
theorem d_D_add_38 : decode b_D_add 38 = .ok (.getfield 18, 3) := by decide +kernel
theorem d_D_add_41 : decode b_D_add 41 = .ok (.iconst 1, 1) := by decide +kernel
theorem d_D_add_42 : decode b_D_add 42 = .ok (.iadd, 1) := by decide +kernel
theorem d_D_add_43 : decode b_D_add 43 = .ok (.putfield 18, 3) := by decide +kernel
theorem d_D_add_46 : decode b_D_add 46 = .ok (.return_, 1) := by decide +kernel
theorem mo_D_add : mok y_D_add b_D_add 3 none 2 := ⟨List.mem_of_getElem? (i := 665) (by decide +kernel), ⟨by decide +kernel, by decide +kernel, by decide +kernel⟩, List.mem_of_getElem? (i := 85) (by decide +kernel), by decide⟩
set_option maxHeartbeats 4000000 in
theorem c_D_add (l : Launch) (u : Un) (hA : Ap u) (σ : St) {D : Nat} (hD : σ.1 49 2 = nI D) (hD40 : D < 40) (w a : Int32) : MTv l u y_D_add b_D_add 3 0 [.ref (u.2.1 49), .int w, .int a] σ (fun σ' => σ' = addS σ D w a) := by
  refine MT_of hA rfl (by decide) (Nat.le_of_ble_eq_true rfl) (fun X hl F hr => ?_)
  subst hl
  refine v_to (ls' := [(0, .ref (u.2.1 49)), (1, .int w), (2, .int a)]) rfl ?_
  refine v_aload_n F d_D_add_0 rfl 0 rfl ?_
  refine v_geti F fk_D_18 G49 rfl d_D_add_1 ?_
  refine v_te (y := nI D) (by simp_all [uI]) ?_
  refine v_if_lt F 46 d_D_add_4 rfl (fun h4 => ?_) (fun h4 => ?_)
  · exact absurd h4 (nI_pos (by omega))
  · skip
    have h4 : ¬ D < 0 := fun q => h4 ((nI_ltI (a := D) (b := 0) (by omega) (by omega)).mpr q)
    refine v_aload_n F d_D_add_7 rfl 0 rfl ?_
    refine v_geti F fk_D_18 G49 rfl d_D_add_8 ?_
    refine v_te (y := nI D) (by simp_all [uI]) ?_
    refine v_bipush (v := 40) F d_D_add_11 kb_40 ?_
    refine v_icmp_ge F 46 d_D_add_13 rfl (fun h13 => ?_) (fun h13 => ?_)
    · exact absurd h13 (nI_nle40 hD40)
    · skip
      have h13 : ¬ 40 ≤ D := fun q => h13 ((nI_leI (a := 40) (b := D) (by omega) (by omega)).mpr q)
      refine v_aload_n F d_D_add_16 rfl 0 rfl ?_
      refine v_getr (r := 50) F fk_D_9 G49 rfl d_D_add_17 ?_
      refine v_aload_n F d_D_add_20 rfl 0 rfl ?_
      refine v_geti F fk_D_18 G49 rfl d_D_add_21 ?_
      refine v_te (y := nI D) (by simp_all [uI]) ?_
      refine v_iload_n F d_D_add_24 rfl 1 rfl ?_
      refine v_ias F D G50 rfl (by omega) d_D_add_25 ?_
      refine v_ns (fun σ1 eσ1 => ?_)
      refine v_aload_n F d_D_add_26 rfl 0 rfl ?_
      refine v_getr (r := 51) F fk_D_15 G49 rfl d_D_add_27 ?_
      refine v_aload_n F d_D_add_30 rfl 0 rfl ?_
      refine v_geti F fk_D_18 G49 rfl d_D_add_31 ?_
      refine v_te (y := nI D) (by simp_all [uI]) ?_
      refine v_iload_n F d_D_add_34 rfl 2 rfl ?_
      refine v_ias F D G51 rfl (by omega) d_D_add_35 ?_
      refine v_ns (fun σ2 eσ2 => ?_)
      refine v_aload_n F d_D_add_36 rfl 0 rfl ?_
      refine v_dup F d_D_add_37 rfl ?_
      refine v_geti F fk_D_18 G49 rfl d_D_add_38 ?_
      refine v_te (y := nI D) (by simp_all [uI]) ?_
      refine v_iconst (v := 1) F d_D_add_41 ki_1 ?_
      refine v_iadd F d_D_add_42 ?_
      refine v_te (y := nI (D + 1)) (nI_add _ _) ?_
      refine v_puti F fk_D_18 pk_D_size G49 rfl d_D_add_43 ?_
      refine v_ns (fun σ3 eσ3 => ?_)
      refine v_vret F hr d_D_add_46 ?_
      simp_all [addS]
abbrev b_D_become : ByteArray := prog_4_method_3_code
abbrev y_D_become : MethodName := ⟨"TakerBook$Deeds", "become", "(LTakerBook$Deeds;)V"⟩
theorem d_D_become_0 : decode b_D_become 0 = .ok (.aload_n 1, 1) := by decide +kernel
theorem d_D_become_1 : decode b_D_become 1 = .ok (.getfield 9, 3) := by decide +kernel
theorem d_D_become_4 : decode b_D_become 4 = .ok (.iconst 0, 1) := by decide +kernel
theorem d_D_become_5 : decode b_D_become 5 = .ok (.aload_n 0, 1) := by decide +kernel
theorem d_D_become_6 : decode b_D_become 6 = .ok (.getfield 9, 3) := by decide +kernel
theorem d_D_become_9 : decode b_D_become 9 = .ok (.iconst 0, 1) := by decide +kernel
theorem d_D_become_10 : decode b_D_become 10 = .ok (.bipush 40, 2) := by decide +kernel
theorem d_D_become_12 : decode b_D_become 12 = .ok (.invokestatic 22, 3) := by decide +kernel
theorem d_D_become_15 : decode b_D_become 15 = .ok (.aload_n 1, 1) := by decide +kernel
theorem d_D_become_16 : decode b_D_become 16 = .ok (.getfield 15, 3) := by decide +kernel
theorem d_D_become_19 : decode b_D_become 19 = .ok (.iconst 0, 1) := by decide +kernel
theorem d_D_become_20 : decode b_D_become 20 = .ok (.aload_n 0, 1) := by decide +kernel
theorem d_D_become_21 : decode b_D_become 21 = .ok (.getfield 15, 3) := by decide +kernel
theorem d_D_become_24 : decode b_D_become 24 = .ok (.iconst 0, 1) := by decide +kernel
theorem d_D_become_25 : decode b_D_become 25 = .ok (.bipush 40, 2) := by decide +kernel
theorem d_D_become_27 : decode b_D_become 27 = .ok (.invokestatic 22, 3) := by decide +kernel
theorem d_D_become_30 : decode b_D_become 30 = .ok (.aload_n 0, 1) := by decide +kernel
theorem d_D_become_31 : decode b_D_become 31 = .ok (.aload_n 1, 1) := by decide +kernel
theorem d_D_become_32 : decode b_D_become 32 = .ok (.getfield 18, 3) := by decide +kernel
theorem d_D_become_35 : decode b_D_become 35 = .ok (.putfield 18, 3) := by decide +kernel
theorem d_D_become_38 : decode b_D_become 38 = .ok (.return_, 1) := by decide +kernel
theorem mo_D_become : mok y_D_become b_D_become 2 none 1 := ⟨List.mem_of_getElem? (i := 707) (by decide +kernel), ⟨by decide +kernel, by decide +kernel, by decide +kernel⟩, List.mem_of_getElem? (i := 85) (by decide +kernel), by decide⟩
set_option maxHeartbeats 4000000 in
theorem c_D_become (l : Launch) (u : Un) (hA : Ap u) (σ : St) (p q : Nat) (hp : dOk p) (hq : dOk q) (hne : q ≠ p ∧ q ≠ p + 1 ∧ q ≠ p + 2 ∧ q + 2 ≠ p + 1 ∧ p + 2 ≠ p + 1) : MTv l u y_D_become b_D_become 2 2 [.ref (u.2.1 p), .ref (u.2.1 q)] σ (fun σ' => σ' = bcS σ p q) := by
  refine MT_of hA rfl (by decide) (Nat.le_of_ble_eq_true rfl) (fun X hl F hr => ?_)
  subst hl
  refine v_to (ls' := [(0, .ref (u.2.1 p)), (1, .ref (u.2.1 q))]) rfl ?_
  refine v_aload_n F d_D_become_0 rfl 1 rfl ?_
  refine v_getr (r := (q + 1)) F fk_D_9 (gam_d hq) rfl d_D_become_1 ?_
  refine v_iconst (v := 0) F d_D_become_4 ki_0 ?_
  refine v_aload_n F d_D_become_5 rfl 0 rfl ?_
  refine v_getr (r := (p + 1)) F fk_D_9 (gam_d hp) rfl d_D_become_6 ?_
  refine v_iconst (v := 0) F d_D_become_9 ki_0 ?_
  refine v_bipush (v := 40) F d_D_become_10 kb_40 ?_
  refine v_copy F (gam_dw hq) (gam_dw hp) (List.mem_of_getElem? (i := 708) (by decide +kernel)) (List.mem_of_getElem? (i := 441) (by decide +kernel)) (List.mem_of_getElem? (i := 440) (by decide +kernel)) (List.mem_of_getElem? (i := 87) (by decide +kernel)) (by decide) (by decide) (by decide) (by decide) (by decide) (by decide) (Nat.le_of_ble_eq_true rfl) d_D_become_12 ?_
  refine v_ns (fun σ1 eσ1 => ?_)
  refine v_aload_n F d_D_become_15 rfl 1 rfl ?_
  refine v_getr (r := (q + 2)) F fk_D_15 (gam_d hq) rfl d_D_become_16 ?_
  refine v_iconst (v := 0) F d_D_become_19 ki_0 ?_
  refine v_aload_n F d_D_become_20 rfl 0 rfl ?_
  refine v_getr (r := (p + 2)) F fk_D_15 (gam_d hp) rfl d_D_become_21 ?_
  refine v_iconst (v := 0) F d_D_become_24 ki_0 ?_
  refine v_bipush (v := 40) F d_D_become_25 kb_40 ?_
  refine v_copy F (gam_do hq) (gam_do hp) (List.mem_of_getElem? (i := 708) (by decide +kernel)) (List.mem_of_getElem? (i := 441) (by decide +kernel)) (List.mem_of_getElem? (i := 440) (by decide +kernel)) (List.mem_of_getElem? (i := 87) (by decide +kernel)) (by decide) (by decide) (by decide) (by decide) (by decide) (by decide) (Nat.le_of_ble_eq_true rfl) d_D_become_27 ?_
  refine v_ns (fun σ2 eσ2 => ?_)
  refine v_aload_n F d_D_become_30 rfl 0 rfl ?_
  refine v_aload_n F d_D_become_31 rfl 1 rfl ?_
  refine v_geti F fk_D_18 (gam_d hq) rfl d_D_become_32 ?_
  refine v_puti F fk_D_18 pk_D_size (gam_d hp) rfl d_D_become_35 ?_
  refine v_ns (fun σ3 eσ3 => ?_)
  refine v_vret F hr d_D_become_38 ?_
  obtain ⟨n1, n2, n3, n4, n5⟩ := hne
  simp_all [bcS, uA]
abbrev b_T_enact : ByteArray := prog_1_method_61_code
abbrev y_T_enact : MethodName := ⟨"TakerBook", "enact", "(II)V"⟩
theorem d_T_enact_0 : decode b_T_enact 0 = .ok (.aload_n 0, 1) := by decide +kernel
theorem d_T_enact_1 : decode b_T_enact 1 = .ok (.getfield 57, 3) := by decide +kernel
theorem d_T_enact_4 : decode b_T_enact 4 = .ok (.iload_n 1, 1) := by decide +kernel
theorem d_T_enact_5 : decode b_T_enact 5 = .ok (.iload_n 2, 1) := by decide +kernel
theorem d_T_enact_6 : decode b_T_enact 6 = .ok (.invokevirtual 342, 3) := by decide +kernel
theorem d_T_enact_9 : decode b_T_enact 9 = .ok (.aload_n 0, 1) := by decide +kernel
theorem d_T_enact_10 : decode b_T_enact 10 = .ok (.getfield 36, 3) := by decide +kernel
theorem d_T_enact_13 : decode b_T_enact 13 = .ok (.iload_n 1, 1) := by decide +kernel
theorem d_T_enact_14 : decode b_T_enact 14 = .ok (.iload_n 2, 1) := by decide +kernel
theorem d_T_enact_15 : decode b_T_enact 15 = .ok (.invokevirtual 345, 3) := by decide +kernel
theorem d_T_enact_18 : decode b_T_enact 18 = .ok (.return_, 1) := by decide +kernel
theorem mo_T_enact : mok y_T_enact b_T_enact 3 none 2 := ⟨List.mem_of_getElem? (i := 661) (by decide +kernel), ⟨by decide +kernel, by decide +kernel, by decide +kernel⟩, List.mem_of_getElem? (i := 74) (by decide +kernel), by decide⟩
set_option maxHeartbeats 4000000 in
theorem c_T_enact (l : Launch) (u : Un) (hA : Ap u) (σ : St) {n G : Nat} {kd : Nat → Nat} (hb : bkOk σ n G kd) {L : Nat} (hL : σ.1 19 14 = nI L) (hL64 : L < 64) {D : Nat} (hD : σ.1 49 2 = nI D) (hD40 : D < 40) (w a : Nat) (hw : w < 4) (ha : 2 ≤ w → a < n) : MTv l u y_T_enact b_T_enact 3 8 [.ref (u.2.1 0), .int (nI w), .int (nI a)] σ (fun σ' => σ' = stS kd G n w a L (addS σ D (nI w) (nI a))) := by
  refine MT_of hA rfl (by decide) (Nat.le_of_ble_eq_true rfl) (fun X hl F hr => ?_)
  subst hl
  refine v_to (ls' := [(0, .ref (u.2.1 0)), (1, .int (nI w)), (2, .int (nI a))]) rfl ?_
  obtain ⟨hn, hn6, hG, hG64, hkd, hk6⟩ := id hb
  refine v_aload_n F d_T_enact_0 rfl 0 rfl ?_
  refine v_getr (r := 49) F fk_T_57 G0 rfl d_T_enact_1 ?_
  refine v_iload_n F d_T_enact_4 rfl 1 rfl ?_
  refine v_iload_n F d_T_enact_5 rfl 2 rfl ?_
  refine v_runv (r_V F (c_D_add X.2.1 u hA σ hD hD40 (nI w) (nI a)) mo_D_add st_T_342 rc_49 (by decide) rfl (Nat.le_of_ble_eq_true rfl) d_T_enact_6) (fun σ2 q3 => ?_)
  refine v_aload_n F d_T_enact_9 rfl 0 rfl ?_
  refine v_getr (r := 19) F fk_T_36 G0 rfl d_T_enact_10 ?_
  refine v_iload_n F d_T_enact_13 rfl 1 rfl ?_
  refine v_iload_n F d_T_enact_14 rfl 2 rfl ?_
  refine v_runv (r_V F (c_B_enactN X.2.1 u hA σ2 (by rw [q3]; exact addS_ok hb) (by rw [q3, addS_k _ _ _ _ (by decide)]; exact hL) hL64 w a (by omega) (by omega)) mo_B_enact st_T_345 rc_19 (by decide) rfl (Nat.le_of_ble_eq_true rfl) d_T_enact_15) (fun σ5 q6 => ?_)
  refine v_vret F hr d_T_enact_18 ?_
  simp_all
abbrev b_T_replay : ByteArray := prog_1_method_63_code
abbrev y_T_replay : MethodName := ⟨"TakerBook", "replay", "()V"⟩
theorem d_T_replay_0 : decode b_T_replay 0 = .ok (.aload_n 0, 1) := by decide +kernel
theorem d_T_replay_1 : decode b_T_replay 1 = .ok (.getfield 36, 3) := by decide +kernel
theorem d_T_replay_4 : decode b_T_replay 4 = .ok (.invokevirtual 346, 3) := by decide +kernel
theorem d_T_replay_7 : decode b_T_replay 7 = .ok (.iconst 0, 1) := by decide +kernel
theorem d_T_replay_8 : decode b_T_replay 8 = .ok (.istore_n 1, 1) := by decide +kernel
theorem d_T_replay_9 : decode b_T_replay 9 = .ok (.iload_n 1, 1) := by decide +kernel
theorem d_T_replay_10 : decode b_T_replay 10 = .ok (.aload_n 0, 1) := by decide +kernel
theorem d_T_replay_11 : decode b_T_replay 11 = .ok (.getfield 57, 3) := by decide +kernel
theorem d_T_replay_14 : decode b_T_replay 14 = .ok (.getfield 72, 3) := by decide +kernel
theorem d_T_replay_17 : decode b_T_replay 17 = .ok (.if_icmp .ge 34, 3) := by decide +kernel
theorem d_T_replay_20 : decode b_T_replay 20 = .ok (.aload_n 0, 1) := by decide +kernel
theorem d_T_replay_21 : decode b_T_replay 21 = .ok (.getfield 36, 3) := by decide +kernel
theorem d_T_replay_24 : decode b_T_replay 24 = .ok (.aload_n 0, 1) := by decide +kernel
theorem d_T_replay_25 : decode b_T_replay 25 = .ok (.getfield 57, 3) := by decide +kernel
theorem d_T_replay_28 : decode b_T_replay 28 = .ok (.getfield 349, 3) := by decide +kernel
theorem d_T_replay_31 : decode b_T_replay 31 = .ok (.iload_n 1, 1) := by decide +kernel
theorem d_T_replay_32 : decode b_T_replay 32 = .ok (.iaload, 1) := by decide +kernel
theorem d_T_replay_33 : decode b_T_replay 33 = .ok (.aload_n 0, 1) := by decide +kernel
theorem d_T_replay_34 : decode b_T_replay 34 = .ok (.getfield 57, 3) := by decide +kernel
theorem d_T_replay_37 : decode b_T_replay 37 = .ok (.getfield 352, 3) := by decide +kernel
theorem d_T_replay_40 : decode b_T_replay 40 = .ok (.iload_n 1, 1) := by decide +kernel
theorem d_T_replay_41 : decode b_T_replay 41 = .ok (.iaload, 1) := by decide +kernel
theorem d_T_replay_42 : decode b_T_replay 42 = .ok (.invokevirtual 345, 3) := by decide +kernel
theorem d_T_replay_45 : decode b_T_replay 45 = .ok (.iinc 1 1, 3) := by decide +kernel
theorem d_T_replay_48 : decode b_T_replay 48 = .ok (.goto (-39), 3) := by decide +kernel
theorem d_T_replay_51 : decode b_T_replay 51 = .ok (.return_, 1) := by decide +kernel
theorem mo_T_replay : mok y_T_replay b_T_replay 2 none 0 := ⟨List.mem_of_getElem? (i := 698) (by decide +kernel), ⟨by decide +kernel, by decide +kernel, by decide +kernel⟩, List.mem_of_getElem? (i := 74) (by decide +kernel), by decide⟩
set_option maxHeartbeats 4000000 in
theorem L_T_replay_9 {X : FX} {u : Un} (hA : Ap u) {Q : State → Prop} (F : Fr X u "TakerBook" b_T_replay 2) {σ : St} {n G : Nat} {kd : Nat → Nat} (hb : bkOk σ n G kd) {D : Nat} (hD : σ.1 49 2 = nI D) {wN aN : Nat → Nat} (hw : dwOk σ n D wN aN) (hD1 : D ≤ 40) (k : V X u 8 2 Q 51 [(0, .ref (u.2.1 0)), (1, .int (nI D))] [] (((rpS σ kd G n wN aN D).1))) : ∀ (nn d : Nat), d ≤ D → D - d < nn → V X u 8 2 Q 9 [(0, .ref (u.2.1 0)), (1, .int (nI d))] [] (((rpS σ kd G n wN aN d).1)) := by
  intro nn
  induction nn with
  | zero =>
    intro d h1 h2
    exact absurd h2 (Nat.not_lt_zero _)
  | succ nn ih =>
    intro d hii hnn
    refine v_iload_n F d_T_replay_9 rfl 1 rfl ?_
    refine v_aload_n F d_T_replay_10 rfl 0 rfl ?_
    refine v_getr (r := 49) F fk_T_57 G0 rfl d_T_replay_11 ?_
    refine v_geti F fk_T_72 G49 rfl d_T_replay_14 ?_
    refine v_te (y := nI D) (by rw [(rpS_facts hb wN aN d).2.2.2 _ (by decide) (by decide)]; exact hD) ?_
    refine v_icmp_ge F 51 d_T_replay_17 rfl (fun h17 => ?_) (fun h17 => ?_)
    · skip
      have h17 : D ≤ d := (nI_leI (a := D) (b := d) (by omega) (by omega)).mp h17
      have he : d = D := by omega
      subst he
      exact k
    · skip
      have h17 : ¬ D ≤ d := fun q => h17 ((nI_leI (a := D) (b := d) (by omega) (by omega)).mpr q)
      refine v_aload_n F d_T_replay_20 rfl 0 rfl ?_
      refine v_getr (r := 19) F fk_T_36 G0 rfl d_T_replay_21 ?_
      refine v_aload_n F d_T_replay_24 rfl 0 rfl ?_
      refine v_getr (r := 49) F fk_T_57 G0 rfl d_T_replay_25 ?_
      refine v_getr (r := 50) F fk_T_349 G49 rfl d_T_replay_28 ?_
      refine v_iload_n F d_T_replay_31 rfl 1 rfl ?_
      refine v_ial F d G50 rfl (by omega) d_T_replay_32 ?_
      refine v_te (y := nI (wN d)) (by rw [(rpS_facts hb wN aN d).2.2.2 _ (by decide) (by decide)]; exact (hw d (by omega)).1) ?_
      refine v_aload_n F d_T_replay_33 rfl 0 rfl ?_
      refine v_getr (r := 49) F fk_T_57 G0 rfl d_T_replay_34 ?_
      refine v_getr (r := 51) F fk_T_352 G49 rfl d_T_replay_37 ?_
      refine v_iload_n F d_T_replay_40 rfl 1 rfl ?_
      refine v_ial F d G51 rfl (by omega) d_T_replay_41 ?_
      refine v_te (y := nI (aN d)) (by rw [(rpS_facts hb wN aN d).2.2.2 _ (by decide) (by decide)]; exact (hw d (by omega)).2.1) ?_
      refine v_runv (r_V F (c_B_enactN X.2.1 u hA ((rpS σ kd G n wN aN d).1) (rpS_facts hb wN aN d).1 (rpS_facts hb wN aN d).2.1 (rpS_facts hb wN aN d).2.2.1 (wN d) (aN d) (hw d (by omega)).2.2.1 (hw d (by omega)).2.2.2) mo_B_enact st_T_345 rc_19 (by decide) rfl (Nat.le_of_ble_eq_true rfl) d_T_replay_42) (fun σ2 q3 => ?_)
      refine v_iinc (v := nI (d + 1)) (ls' := [(1, .int (nI (d + 1))), (0, .ref (u.2.1 0))]) F d_T_replay_45 (j := 1) rfl (nI_inc _) (by decide) rfl ?_
      refine v_goto F 9 d_T_replay_48 rfl ?_
      refine v_sub [1, 0] (ls' := [(0, .ref (u.2.1 0)), (1, .int (nI (d + 1)))]) rfl ?_
      refine v_st (show σ2 = ((rpS σ kd G n wN aN (d + 1)).1) from (by first | rfl | (simp_all [rpS]; done))) ?_
      exact ih (d + 1) (by omega) (by omega)
set_option maxHeartbeats 4000000 in
theorem c_T_replay (l : Launch) (u : Un) (hA : Ap u) (σ : St) {n G : Nat} {kd : Nat → Nat} (hb : bkOk σ n G kd) {D : Nat} (hD : σ.1 49 2 = nI D) {wN aN : Nat → Nat} (hw : dwOk σ n D wN aN) (hD1 : D ≤ 40) : MTv l u y_T_replay b_T_replay 2 8 [.ref (u.2.1 0)] σ (fun σ' => σ' = (rpS σ kd G n wN aN D).1) := by
  refine MT_of hA rfl (by decide) (Nat.le_of_ble_eq_true rfl) (fun X hl F hr => ?_)
  subst hl
  refine v_to (ls' := [(0, .ref (u.2.1 0))]) rfl ?_
  obtain ⟨hn, hn6, hG, hG64, hkd, hk6⟩ := id hb
  refine v_aload_n F d_T_replay_0 rfl 0 rfl ?_
  refine v_getr (r := 19) F fk_T_36 G0 rfl d_T_replay_1 ?_
  refine v_runv (r_V F (c_B_restart X.2.1 u hA σ hn hn6) mo_B_restart st_T_346 rc_19 (by decide) rfl (Nat.le_of_ble_eq_true rfl) d_T_replay_4) (fun σ2 q3 => ?_)
  refine v_iconst (v := 0) F d_T_replay_7 ki_0 ?_
  refine v_istore_n (ls' := [(1, .int 0), (0, .ref (u.2.1 0))]) F d_T_replay_8 rfl (by decide) rfl ?_
  subst q3
  refine v_sub [1, 0] (ls' := [(0, .ref (u.2.1 0)), (1, .int 0)]) rfl ?_
  have g4 : 0 = (nI 0) := (by first | rfl | (simp_all [rpS]; done))
  refine v_to (ls' := [(0, .ref (u.2.1 0)), (1, .int (nI 0))]) (by first | rfl | rw [g4] | simp_all) ?_
  refine v_st (show (rsS σ n) = ((rpS σ kd G n wN aN 0).1) from (by first | rfl | (simp_all [rpS]; done))) ?_
  refine L_T_replay_9 hA F hb hD hw hD1 ?_ _ 0 (Nat.zero_le _) (Nat.lt_succ_self _)
  refine v_vret F hr d_T_replay_51 ?_
  rfl
end
section
-- the public deeds
theorem n1l : nI 1 = 1 := rfl
theorem n2l : nI 2 = 2 := rfl
theorem n3l : nI 3 = 3 := rfl
theorem pos_le {x : Int32} (h : ¬ x ≤ 0) : 0 ≤ x := by
  simp only [Int32.le_iff_toInt_le] at *
  omega
end
section
theorem st_T_142 : siteV "TakerBook" 142 ⟨"TakerBook", "isOpen", "()Z"⟩ := ⟨List.mem_of_getElem? (i := 654) (by decide +kernel), List.mem_of_getElem? (i := 656) (by decide +kernel), List.mem_of_getElem? (i := 7) (by decide +kernel)⟩
theorem st_T_146 : siteV "TakerBook" 146 ⟨"TakerBook", "enact", "(II)V"⟩ := ⟨List.mem_of_getElem? (i := 658) (by decide +kernel), List.mem_of_getElem? (i := 660) (by decide +kernel), List.mem_of_getElem? (i := 8) (by decide +kernel)⟩
theorem fk_T_154 : fok "TakerBook" 154 1 17 := ⟨(R_B, F_B, 19), rfl, by decide, List.mem_of_getElem? (i := 216) (by decide +kernel), rfl⟩
theorem kb_m2 : (Int8.ofInt (-2)).toInt32 = ((-2) : Int32) := by decide
theorem kb_m4 : (Int8.ofInt (-4)).toInt32 = ((-4) : Int32) := by decide
theorem fk_T_157 : fok "TakerBook" 157 1 16 := ⟨(R_B, F_B, 19), rfl, by decide, List.mem_of_getElem? (i := 213) (by decide +kernel), rfl⟩
theorem kb_m6 : (Int8.ofInt (-6)).toInt32 = ((-6) : Int32) := by decide
theorem st_T_121 : siteV "TakerBook" 121 ⟨"TakerBook$Band", "has", "(I)Z"⟩ := ⟨List.mem_of_getElem? (i := 539) (by decide +kernel), List.mem_of_getElem? (i := 540) (by decide +kernel), List.mem_of_getElem? (i := 541) (by decide +kernel)⟩
theorem st_T_160 : siteV "TakerBook" 160 ⟨"TakerBook$Band", "canBeCrossed", "(I)Z"⟩ := ⟨List.mem_of_getElem? (i := 682) (by decide +kernel), List.mem_of_getElem? (i := 683) (by decide +kernel), List.mem_of_getElem? (i := 684) (by decide +kernel)⟩
theorem fk_T_163 : fok "TakerBook" 163 1 5 := ⟨(R_B, F_B, 19), rfl, by decide, List.mem_of_getElem? (i := 188) (by decide +kernel), rfl⟩
theorem fk_T_166 : fok "TakerBook" 166 1 14 := ⟨(R_B, F_B, 19), rfl, by decide, List.mem_of_getElem? (i := 209) (by decide +kernel), rfl⟩
theorem st_T_169 : siteS "TakerBook" 169 ⟨"TakerBook", "isIn", "(II)Z"⟩ := ⟨List.mem_of_getElem? (i := 690) (by decide +kernel), List.mem_of_getElem? (i := 608) (by decide +kernel)⟩
theorem kb_7 : (Int8.ofInt 7).toInt32 = (7 : Int32) := by decide
theorem st_T_124 : siteV "TakerBook" 124 ⟨"TakerBook$Band", "tell", "(II)I"⟩ := ⟨List.mem_of_getElem? (i := 543) (by decide +kernel), List.mem_of_getElem? (i := 544) (by decide +kernel), List.mem_of_getElem? (i := 545) (by decide +kernel)⟩
theorem fk_T_127 : fok "TakerBook" 127 1 1 := ⟨(R_B, F_B, 19), rfl, by decide, List.mem_of_getElem? (i := 181) (by decide +kernel), rfl⟩
theorem st_T_130 : siteV "TakerBook" 130 ⟨"TakerBook$Band", "nature", "(I)LTakerBook$Thief;"⟩ := ⟨List.mem_of_getElem? (i := 639) (by decide +kernel), List.mem_of_getElem? (i := 503) (by decide +kernel), List.mem_of_getElem? (i := 504) (by decide +kernel)⟩
theorem st_T_139 : siteV "TakerBook" 139 ⟨"TakerBook$Band", "markOf", "(II)I"⟩ := ⟨List.mem_of_getElem? (i := 641) (by decide +kernel), List.mem_of_getElem? (i := 642) (by decide +kernel), List.mem_of_getElem? (i := 643) (by decide +kernel)⟩
abbrev b_T_week : ByteArray := prog_1_method_14_code
abbrev y_T_week : MethodName := ⟨"TakerBook", "week", "()I"⟩
theorem d_T_week_0 : decode b_T_week 0 = .ok (.aload_n 0, 1) := by decide +kernel
theorem d_T_week_1 : decode b_T_week 1 = .ok (.invokevirtual 142, 3) := by decide +kernel
theorem d_T_week_4 : decode b_T_week 4 = .ok (.ifCond .ne 6, 3) := by decide +kernel
theorem d_T_week_7 : decode b_T_week 7 = .ok (.bipush (-4), 2) := by decide +kernel
theorem d_T_week_9 : decode b_T_week 9 = .ok (.ireturn, 1) := by decide +kernel
theorem d_T_week_10 : decode b_T_week 10 = .ok (.aload_n 0, 1) := by decide +kernel
theorem d_T_week_11 : decode b_T_week 11 = .ok (.getfield 57, 3) := by decide +kernel
theorem d_T_week_14 : decode b_T_week 14 = .ok (.getfield 72, 3) := by decide +kernel
theorem d_T_week_17 : decode b_T_week 17 = .ok (.bipush 40, 2) := by decide +kernel
theorem d_T_week_19 : decode b_T_week 19 = .ok (.if_icmp .lt 6, 3) := by decide +kernel
theorem d_T_week_22 : decode b_T_week 22 = .ok (.bipush (-2), 2) := by decide +kernel
theorem d_T_week_24 : decode b_T_week 24 = .ok (.ireturn, 1) := by decide +kernel
theorem d_T_week_25 : decode b_T_week 25 = .ok (.aload_n 0, 1) := by decide +kernel
theorem d_T_week_26 : decode b_T_week 26 = .ok (.iconst 0, 1) := by decide +kernel
theorem d_T_week_27 : decode b_T_week 27 = .ok (.iconst 0, 1) := by decide +kernel
theorem d_T_week_28 : decode b_T_week 28 = .ok (.invokevirtual 146, 3) := by decide +kernel
theorem d_T_week_31 : decode b_T_week 31 = .ok (.aload_n 0, 1) := by decide +kernel
theorem d_T_week_32 : decode b_T_week 32 = .ok (.aload_n 0, 1) := by decide +kernel
theorem d_T_week_33 : decode b_T_week 33 = .ok (.getfield 36, 3) := by decide +kernel
theorem d_T_week_36 : decode b_T_week 36 = .ok (.getfield 150, 3) := by decide +kernel
theorem d_T_week_39 : decode b_T_week 39 = .ok (.ifCond .eq 7, 3) := by decide +kernel
theorem d_T_week_42 : decode b_T_week 42 = .ok (.iconst 1, 1) := by decide +kernel
theorem d_T_week_43 : decode b_T_week 43 = .ok (.goto 4, 3) := by decide +kernel
theorem d_T_week_46 : decode b_T_week 46 = .ok (.iconst 0, 1) := by decide +kernel
theorem d_T_week_47 : decode b_T_week 47 = .ok (.putfield 88, 3) := by decide +kernel
theorem d_T_week_50 : decode b_T_week 50 = .ok (.aload_n 0, 1) := by decide +kernel
theorem d_T_week_51 : decode b_T_week 51 = .ok (.getfield 36, 3) := by decide +kernel
theorem d_T_week_54 : decode b_T_week 54 = .ok (.getfield 154, 3) := by decide +kernel
theorem d_T_week_57 : decode b_T_week 57 = .ok (.ireturn, 1) := by decide +kernel
theorem mo_T_week : mok y_T_week b_T_week 1 (some .int) 0 := ⟨List.mem_of_getElem? (i := 653) (by decide +kernel), ⟨by decide +kernel, by decide +kernel, by decide +kernel⟩, List.mem_of_getElem? (i := 74) (by decide +kernel), by decide⟩
set_option maxHeartbeats 4000000 in
theorem c_T_week (l : Launch) (u : Un) (hA : Ap u) (σ : St) {n G : Nat} {kd : Nat → Nat} (hb : bkOk σ n G kd) {L : Nat} (hL : σ.1 19 14 = nI L) (hL64 : L < 64) {D : Nat} (hD : σ.1 49 2 = nI D) (hDle : D ≤ 40)  : MTi l u y_T_week b_T_week 1 .int 9 [.ref (u.2.1 0)] σ (fun ans σ' => (ans, σ') = tWeek σ G kd n L D) := by
  refine MT_of hA rfl (by decide) (Nat.le_of_ble_eq_true rfl) (fun X hl F hr => ?_)
  subst hl
  refine v_to (ls' := [(0, .ref (u.2.1 0))]) rfl ?_
  obtain ⟨hn, hn6, hG, hG64, hkd, hk6⟩ := id hb
  refine v_aload_n F d_T_week_0 rfl 0 rfl ?_
  refine v_runi (r_V F (c_T_isOpen X.2.1 u hA σ  ) mo_T_isOpen st_T_142 rc_0 (by decide) rfl (Nat.le_of_ble_eq_true rfl) d_T_week_1) (fun r1 σ2 q3 => ?_)
  obtain ⟨rfl, rfl⟩ := q3
  refine v_bf F 10 d_T_week_4 rfl (fun h4 => ?_) (fun h4 => ?_)
  · skip
    refine v_aload_n F d_T_week_10 rfl 0 rfl ?_
    refine v_getr (r := 49) F fk_T_57 G0 rfl d_T_week_11 ?_
    refine v_geti F fk_T_72 G49 rfl d_T_week_14 ?_
    refine v_te (y := nI D) hD ?_
    refine v_bipush (v := 40) F d_T_week_17 kb_40 ?_
    refine v_icmp_lt F 25 d_T_week_19 rfl (fun h19 => ?_) (fun h19 => ?_)
    · skip
      have h19 : D < 40 := (nI_ltI (a := D) (b := 40) (by omega) (by omega)).mp h19
      have hD40 := h19
      refine v_aload_n F d_T_week_25 rfl 0 rfl ?_
      refine v_iconst (v := 0) F d_T_week_26 ki_0 ?_
      refine v_iconst (v := 0) F d_T_week_27 ki_0 ?_
      refine v_runv (r_V F (c_T_enact X.2.1 u hA σ hb hL hL64 hD hD40 0 0 (by omega) (by omega)) mo_T_enact st_T_146 rc_0 (by decide) rfl (Nat.le_of_ble_eq_true rfl) d_T_week_28) (fun σ5 q6 => ?_)
      refine v_aload_n F d_T_week_31 rfl 0 rfl ?_
      refine v_aload_n F d_T_week_32 rfl 0 rfl ?_
      refine v_getr (r := 19) F fk_T_36 G0 rfl d_T_week_33 ?_
      refine v_geti F fk_T_150 G19 rfl d_T_week_36 ?_
      refine v_if_eq F 46 d_T_week_39 rfl (fun h39 => ?_) (fun h39 => ?_)
      · skip
        refine v_iconst (v := 0) F d_T_week_46 ki_0 ?_
        refine v_puti F fk_T_88 pk_T_told G0 rfl d_T_week_47 ?_
        refine v_ns (fun σ7 eσ7 => ?_)
        refine v_aload_n F d_T_week_50 rfl 0 rfl ?_
        refine v_getr (r := 19) F fk_T_36 G0 rfl d_T_week_51 ?_
        refine v_geti F fk_T_154 G19 rfl d_T_week_54 ?_
        refine v_iret F hr rfl d_T_week_57 ?_
        first | (simp_all [tWeek, stS, nI_0, n1l, n2l, n3l, uI_o]; done) | (simp_all [tWeek, stS, nI_0, n1l, n2l, n3l, uI_o]; grind)
      · skip
        refine v_iconst (v := 1) F d_T_week_42 ki_1 ?_
        refine v_goto F 47 d_T_week_43 rfl ?_
        refine v_puti F fk_T_88 pk_T_told G0 rfl d_T_week_47 ?_
        refine v_ns (fun σ8 eσ8 => ?_)
        refine v_aload_n F d_T_week_50 rfl 0 rfl ?_
        refine v_getr (r := 19) F fk_T_36 G0 rfl d_T_week_51 ?_
        refine v_geti F fk_T_154 G19 rfl d_T_week_54 ?_
        refine v_iret F hr rfl d_T_week_57 ?_
        first | (simp_all [tWeek, stS, nI_0, n1l, n2l, n3l, uI_o]; done) | (simp_all [tWeek, stS, nI_0, n1l, n2l, n3l, uI_o]; grind)
    · skip
      have h19 : ¬ D < 40 := fun q => h19 ((nI_ltI (a := D) (b := 40) (by omega) (by omega)).mpr q)
      refine v_bipush (v := (-2)) F d_T_week_22 kb_m2 ?_
      refine v_iret F hr rfl d_T_week_24 ?_
      first | (simp_all [tWeek, stS, nI_0, n1l, n2l, n3l, uI_o]; done) | (simp_all [tWeek, stS, nI_0, n1l, n2l, n3l, uI_o]; grind)
  · skip
    refine v_bipush (v := (-4)) F d_T_week_7 kb_m4 ?_
    refine v_iret F hr rfl d_T_week_9 ?_
    first | (simp_all [tWeek, stS, nI_0, n1l, n2l, n3l, uI_o]; done) | (simp_all [tWeek, stS, nI_0, n1l, n2l, n3l, uI_o]; grind)
abbrev b_T_back : ByteArray := prog_1_method_15_code
abbrev y_T_back : MethodName := ⟨"TakerBook", "back", "(I)I"⟩
theorem d_T_back_0 : decode b_T_back 0 = .ok (.iload_n 1, 1) := by decide +kernel
theorem d_T_back_1 : decode b_T_back 1 = .ok (.iconst 1, 1) := by decide +kernel
theorem d_T_back_2 : decode b_T_back 2 = .ok (.if_icmp .lt 9, 3) := by decide +kernel
theorem d_T_back_5 : decode b_T_back 5 = .ok (.iload_n 1, 1) := by decide +kernel
theorem d_T_back_6 : decode b_T_back 6 = .ok (.bipush 99, 2) := by decide +kernel
theorem d_T_back_8 : decode b_T_back 8 = .ok (.if_icmp .le 5, 3) := by decide +kernel
theorem d_T_back_11 : decode b_T_back 11 = .ok (.iconst (-1), 1) := by decide +kernel
theorem d_T_back_12 : decode b_T_back 12 = .ok (.ireturn, 1) := by decide +kernel
theorem d_T_back_13 : decode b_T_back 13 = .ok (.aload_n 0, 1) := by decide +kernel
theorem d_T_back_14 : decode b_T_back 14 = .ok (.invokevirtual 142, 3) := by decide +kernel
theorem d_T_back_17 : decode b_T_back 17 = .ok (.ifCond .ne 6, 3) := by decide +kernel
theorem d_T_back_20 : decode b_T_back 20 = .ok (.bipush (-4), 2) := by decide +kernel
theorem d_T_back_22 : decode b_T_back 22 = .ok (.ireturn, 1) := by decide +kernel
theorem d_T_back_23 : decode b_T_back 23 = .ok (.iload_n 1, 1) := by decide +kernel
theorem d_T_back_24 : decode b_T_back 24 = .ok (.aload_n 0, 1) := by decide +kernel
theorem d_T_back_25 : decode b_T_back 25 = .ok (.getfield 36, 3) := by decide +kernel
theorem d_T_back_28 : decode b_T_back 28 = .ok (.getfield 154, 3) := by decide +kernel
theorem d_T_back_31 : decode b_T_back 31 = .ok (.if_icmp .le 6, 3) := by decide +kernel
theorem d_T_back_34 : decode b_T_back 34 = .ok (.bipush (-6), 2) := by decide +kernel
theorem d_T_back_36 : decode b_T_back 36 = .ok (.ireturn, 1) := by decide +kernel
theorem d_T_back_37 : decode b_T_back 37 = .ok (.aload_n 0, 1) := by decide +kernel
theorem d_T_back_38 : decode b_T_back 38 = .ok (.getfield 57, 3) := by decide +kernel
theorem d_T_back_41 : decode b_T_back 41 = .ok (.getfield 72, 3) := by decide +kernel
theorem d_T_back_44 : decode b_T_back 44 = .ok (.bipush 40, 2) := by decide +kernel
theorem d_T_back_46 : decode b_T_back 46 = .ok (.if_icmp .lt 6, 3) := by decide +kernel
theorem d_T_back_49 : decode b_T_back 49 = .ok (.bipush (-2), 2) := by decide +kernel
theorem d_T_back_51 : decode b_T_back 51 = .ok (.ireturn, 1) := by decide +kernel
theorem d_T_back_52 : decode b_T_back 52 = .ok (.aload_n 0, 1) := by decide +kernel
theorem d_T_back_53 : decode b_T_back 53 = .ok (.iconst 1, 1) := by decide +kernel
theorem d_T_back_54 : decode b_T_back 54 = .ok (.iload_n 1, 1) := by decide +kernel
theorem d_T_back_55 : decode b_T_back 55 = .ok (.invokevirtual 146, 3) := by decide +kernel
theorem d_T_back_58 : decode b_T_back 58 = .ok (.aload_n 0, 1) := by decide +kernel
theorem d_T_back_59 : decode b_T_back 59 = .ok (.getfield 36, 3) := by decide +kernel
theorem d_T_back_62 : decode b_T_back 62 = .ok (.getfield 157, 3) := by decide +kernel
theorem d_T_back_65 : decode b_T_back 65 = .ok (.ireturn, 1) := by decide +kernel
theorem mo_T_back : mok y_T_back b_T_back 2 (some .int) 1 := ⟨List.mem_of_getElem? (i := 677) (by decide +kernel), ⟨by decide +kernel, by decide +kernel, by decide +kernel⟩, List.mem_of_getElem? (i := 74) (by decide +kernel), by decide⟩
set_option maxHeartbeats 4000000 in
theorem c_T_back (l : Launch) (u : Un) (hA : Ap u) (σ : St) {n G : Nat} {kd : Nat → Nat} (hb : bkOk σ n G kd) {L : Nat} (hL : σ.1 19 14 = nI L) (hL64 : L < 64) {D : Nat} (hD : σ.1 49 2 = nI D) (hDle : D ≤ 40) (m : Int32) : MTi l u y_T_back b_T_back 2 .int 9 [.ref (u.2.1 0), .int m] σ (fun ans σ' => (ans, σ') = tBack σ D m) := by
  refine MT_of hA rfl (by decide) (Nat.le_of_ble_eq_true rfl) (fun X hl F hr => ?_)
  subst hl
  refine v_to (ls' := [(0, .ref (u.2.1 0)), (1, .int m)]) rfl ?_
  obtain ⟨hn, hn6, hG, hG64, hkd, hk6⟩ := id hb
  refine v_iload_n F d_T_back_0 rfl 1 rfl ?_
  refine v_iconst (v := 1) F d_T_back_1 ki_1 ?_
  refine v_icmp_lt F 11 d_T_back_2 rfl (fun h2 => ?_) (fun h2 => ?_)
  · skip
    refine v_iconst (v := (-1)) F d_T_back_11 ki_m1 ?_
    refine v_iret F hr rfl d_T_back_12 ?_
    first | (simp_all [tBack, stS, nI_0, n1l, n2l, n3l, uI_o]; done) | (simp_all [tBack, stS, nI_0, n1l, n2l, n3l, uI_o]; grind)
  · skip
    refine v_iload_n F d_T_back_5 rfl 1 rfl ?_
    refine v_bipush (v := 99) F d_T_back_6 kb_99 ?_
    refine v_icmp_le F 13 d_T_back_8 rfl (fun h8 => ?_) (fun h8 => ?_)
    · skip
      obtain ⟨a, ha, xa, rfl⟩ := nat_of (M := 99) (le_trans1 h2) h8 rfl (by decide)
      refine v_aload_n F d_T_back_13 rfl 0 rfl ?_
      refine v_runi (r_V F (c_T_isOpen X.2.1 u hA σ  ) mo_T_isOpen st_T_142 rc_0 (by decide) rfl (Nat.le_of_ble_eq_true rfl) d_T_back_14) (fun r1 σ2 q3 => ?_)
      obtain ⟨rfl, rfl⟩ := q3
      refine v_bf F 23 d_T_back_17 rfl (fun h17 => ?_) (fun h17 => ?_)
      · skip
        refine v_iload_n F d_T_back_23 rfl 1 rfl ?_
        refine v_aload_n F d_T_back_24 rfl 0 rfl ?_
        refine v_getr (r := 19) F fk_T_36 G0 rfl d_T_back_25 ?_
        refine v_geti F fk_T_154 G19 rfl d_T_back_28 ?_
        refine v_icmp_le F 37 d_T_back_31 rfl (fun h31 => ?_) (fun h31 => ?_)
        · skip
          refine v_aload_n F d_T_back_37 rfl 0 rfl ?_
          refine v_getr (r := 49) F fk_T_57 G0 rfl d_T_back_38 ?_
          refine v_geti F fk_T_72 G49 rfl d_T_back_41 ?_
          refine v_te (y := nI D) hD ?_
          refine v_bipush (v := 40) F d_T_back_44 kb_40 ?_
          refine v_icmp_lt F 52 d_T_back_46 rfl (fun h46 => ?_) (fun h46 => ?_)
          · skip
            have h46 : D < 40 := (nI_ltI (a := D) (b := 40) (by omega) (by omega)).mp h46
            have hD40 := h46
            refine v_aload_n F d_T_back_52 rfl 0 rfl ?_
            refine v_iconst (v := 1) F d_T_back_53 ki_1 ?_
            refine v_iload_n F d_T_back_54 rfl 1 rfl ?_
            refine v_runv (r_V F (c_T_enact X.2.1 u hA σ hb hL hL64 hD hD40 1 a (by omega) (by omega)) mo_T_enact st_T_146 rc_0 (by decide) rfl (Nat.le_of_ble_eq_true rfl) d_T_back_55) (fun σ5 q6 => ?_)
            refine v_aload_n F d_T_back_58 rfl 0 rfl ?_
            refine v_getr (r := 19) F fk_T_36 G0 rfl d_T_back_59 ?_
            refine v_geti F fk_T_157 G19 rfl d_T_back_62 ?_
            refine v_iret F hr rfl d_T_back_65 ?_
            first | (simp_all [tBack, stS, nI_0, n1l, n2l, n3l, uI_o]; done) | (simp_all [tBack, stS, nI_0, n1l, n2l, n3l, uI_o]; grind)
          · skip
            have h46 : ¬ D < 40 := fun q => h46 ((nI_ltI (a := D) (b := 40) (by omega) (by omega)).mpr q)
            refine v_bipush (v := (-2)) F d_T_back_49 kb_m2 ?_
            refine v_iret F hr rfl d_T_back_51 ?_
            first | (simp_all [tBack, stS, nI_0, n1l, n2l, n3l, uI_o]; done) | (simp_all [tBack, stS, nI_0, n1l, n2l, n3l, uI_o]; grind)
        · skip
          refine v_bipush (v := (-6)) F d_T_back_34 kb_m6 ?_
          refine v_iret F hr rfl d_T_back_36 ?_
          first | (simp_all [tBack, stS, nI_0, n1l, n2l, n3l, uI_o]; done) | (simp_all [tBack, stS, nI_0, n1l, n2l, n3l, uI_o]; grind)
      · skip
        refine v_bipush (v := (-4)) F d_T_back_20 kb_m4 ?_
        refine v_iret F hr rfl d_T_back_22 ?_
        first | (simp_all [tBack, stS, nI_0, n1l, n2l, n3l, uI_o]; done) | (simp_all [tBack, stS, nI_0, n1l, n2l, n3l, uI_o]; grind)
    · skip
      refine v_iconst (v := (-1)) F d_T_back_11 ki_m1 ?_
      refine v_iret F hr rfl d_T_back_12 ?_
      first | (simp_all [tBack, stS, nI_0, n1l, n2l, n3l, uI_o]; done) | (simp_all [tBack, stS, nI_0, n1l, n2l, n3l, uI_o]; grind)
abbrev b_T_cross : ByteArray := prog_1_method_16_code
abbrev y_T_cross : MethodName := ⟨"TakerBook", "cross", "(I)I"⟩
theorem d_T_cross_0 : decode b_T_cross 0 = .ok (.aload_n 0, 1) := by decide +kernel
theorem d_T_cross_1 : decode b_T_cross 1 = .ok (.getfield 36, 3) := by decide +kernel
theorem d_T_cross_4 : decode b_T_cross 4 = .ok (.iload_n 1, 1) := by decide +kernel
theorem d_T_cross_5 : decode b_T_cross 5 = .ok (.invokevirtual 121, 3) := by decide +kernel
theorem d_T_cross_8 : decode b_T_cross 8 = .ok (.ifCond .ne 5, 3) := by decide +kernel
theorem d_T_cross_11 : decode b_T_cross 11 = .ok (.iconst (-1), 1) := by decide +kernel
theorem d_T_cross_12 : decode b_T_cross 12 = .ok (.ireturn, 1) := by decide +kernel
theorem d_T_cross_13 : decode b_T_cross 13 = .ok (.aload_n 0, 1) := by decide +kernel
theorem d_T_cross_14 : decode b_T_cross 14 = .ok (.getfield 36, 3) := by decide +kernel
theorem d_T_cross_17 : decode b_T_cross 17 = .ok (.getfield 150, 3) := by decide +kernel
theorem d_T_cross_20 : decode b_T_cross 20 = .ok (.ifCond .ne 14, 3) := by decide +kernel
theorem d_T_cross_23 : decode b_T_cross 23 = .ok (.aload_n 0, 1) := by decide +kernel
theorem d_T_cross_24 : decode b_T_cross 24 = .ok (.getfield 36, 3) := by decide +kernel
theorem d_T_cross_27 : decode b_T_cross 27 = .ok (.iload_n 1, 1) := by decide +kernel
theorem d_T_cross_28 : decode b_T_cross 28 = .ok (.invokevirtual 160, 3) := by decide +kernel
theorem d_T_cross_31 : decode b_T_cross 31 = .ok (.ifCond .ne 6, 3) := by decide +kernel
theorem d_T_cross_34 : decode b_T_cross 34 = .ok (.bipush (-4), 2) := by decide +kernel
theorem d_T_cross_36 : decode b_T_cross 36 = .ok (.ireturn, 1) := by decide +kernel
theorem d_T_cross_37 : decode b_T_cross 37 = .ok (.aload_n 0, 1) := by decide +kernel
theorem d_T_cross_38 : decode b_T_cross 38 = .ok (.getfield 57, 3) := by decide +kernel
theorem d_T_cross_41 : decode b_T_cross 41 = .ok (.getfield 72, 3) := by decide +kernel
theorem d_T_cross_44 : decode b_T_cross 44 = .ok (.bipush 40, 2) := by decide +kernel
theorem d_T_cross_46 : decode b_T_cross 46 = .ok (.if_icmp .lt 6, 3) := by decide +kernel
theorem d_T_cross_49 : decode b_T_cross 49 = .ok (.bipush (-2), 2) := by decide +kernel
theorem d_T_cross_51 : decode b_T_cross 51 = .ok (.ireturn, 1) := by decide +kernel
theorem d_T_cross_52 : decode b_T_cross 52 = .ok (.aload_n 0, 1) := by decide +kernel
theorem d_T_cross_53 : decode b_T_cross 53 = .ok (.iconst 2, 1) := by decide +kernel
theorem d_T_cross_54 : decode b_T_cross 54 = .ok (.iload_n 1, 1) := by decide +kernel
theorem d_T_cross_55 : decode b_T_cross 55 = .ok (.invokevirtual 146, 3) := by decide +kernel
theorem d_T_cross_58 : decode b_T_cross 58 = .ok (.aload_n 0, 1) := by decide +kernel
theorem d_T_cross_59 : decode b_T_cross 59 = .ok (.getfield 36, 3) := by decide +kernel
theorem d_T_cross_62 : decode b_T_cross 62 = .ok (.getfield 163, 3) := by decide +kernel
theorem d_T_cross_65 : decode b_T_cross 65 = .ok (.iload_n 1, 1) := by decide +kernel
theorem d_T_cross_66 : decode b_T_cross 66 = .ok (.iaload, 1) := by decide +kernel
theorem d_T_cross_67 : decode b_T_cross 67 = .ok (.ireturn, 1) := by decide +kernel
theorem mo_T_cross : mok y_T_cross b_T_cross 2 (some .int) 1 := ⟨List.mem_of_getElem? (i := 681) (by decide +kernel), ⟨by decide +kernel, by decide +kernel, by decide +kernel⟩, List.mem_of_getElem? (i := 74) (by decide +kernel), by decide⟩
set_option maxHeartbeats 4000000 in
theorem c_T_cross (l : Launch) (u : Un) (hA : Ap u) (σ : St) {n G : Nat} {kd : Nat → Nat} (hb : bkOk σ n G kd) {L : Nat} (hL : σ.1 19 14 = nI L) (hL64 : L < 64) {D : Nat} (hD : σ.1 49 2 = nI D) (hDle : D ≤ 40) (i : Int32) : MTi l u y_T_cross b_T_cross 2 .int 9 [.ref (u.2.1 0), .int i] σ (fun ans σ' => (ans, σ') = tCross σ L D i) := by
  refine MT_of hA rfl (by decide) (Nat.le_of_ble_eq_true rfl) (fun X hl F hr => ?_)
  subst hl
  refine v_to (ls' := [(0, .ref (u.2.1 0)), (1, .int i)]) rfl ?_
  obtain ⟨hn, hn6, hG, hG64, hkd, hk6⟩ := id hb
  refine v_aload_n F d_T_cross_0 rfl 0 rfl ?_
  refine v_getr (r := 19) F fk_T_36 G0 rfl d_T_cross_1 ?_
  refine v_iload_n F d_T_cross_4 rfl 1 rfl ?_
  refine v_runi (r_V F (c_B_has X.2.1 u hA σ i ) mo_B_has st_T_121 rc_19 (by decide) rfl (Nat.le_of_ble_eq_true rfl) d_T_cross_5) (fun r1 σ2 q3 => ?_)
  obtain ⟨rfl, rfl⟩ := q3
  refine v_bf F 13 d_T_cross_8 rfl (fun h8 => ?_) (fun h8 => ?_)
  · skip
    obtain ⟨j, hj, xj, rfl⟩ := has_nat h8 hn hn6
    refine v_aload_n F d_T_cross_13 rfl 0 rfl ?_
    refine v_getr (r := 19) F fk_T_36 G0 rfl d_T_cross_14 ?_
    refine v_geti F fk_T_150 G19 rfl d_T_cross_17 ?_
    refine v_if_ne F 34 d_T_cross_20 rfl (fun h20 => ?_) (fun h20 => ?_)
    · skip
      refine v_bipush (v := (-4)) F d_T_cross_34 kb_m4 ?_
      refine v_iret F hr rfl d_T_cross_36 ?_
      first | (simp_all [tCross, stS, nI_0, n1l, n2l, n3l, uI_o]; done) | (simp_all [tCross, stS, nI_0, n1l, n2l, n3l, uI_o]; grind)
    · skip
      refine v_aload_n F d_T_cross_23 rfl 0 rfl ?_
      refine v_getr (r := 19) F fk_T_36 G0 rfl d_T_cross_24 ?_
      refine v_iload_n F d_T_cross_27 rfl 1 rfl ?_
      refine v_runi (r_V F (c_B_canBeCrossed X.2.1 u hA σ hL hL64 j (by omega)) mo_B_canBeCrossed st_T_160 rc_19 (by decide) rfl (Nat.le_of_ble_eq_true rfl) d_T_cross_28) (fun r4 σ5 q6 => ?_)
      obtain ⟨rfl, rfl⟩ := q6
      refine v_bf F 37 d_T_cross_31 rfl (fun h31 => ?_) (fun h31 => ?_)
      · skip
        refine v_aload_n F d_T_cross_37 rfl 0 rfl ?_
        refine v_getr (r := 49) F fk_T_57 G0 rfl d_T_cross_38 ?_
        refine v_geti F fk_T_72 G49 rfl d_T_cross_41 ?_
        refine v_te (y := nI D) hD ?_
        refine v_bipush (v := 40) F d_T_cross_44 kb_40 ?_
        refine v_icmp_lt F 52 d_T_cross_46 rfl (fun h46 => ?_) (fun h46 => ?_)
        · skip
          have h46 : D < 40 := (nI_ltI (a := D) (b := 40) (by omega) (by omega)).mp h46
          have hD40 := h46
          refine v_aload_n F d_T_cross_52 rfl 0 rfl ?_
          refine v_iconst (v := 2) F d_T_cross_53 ki_2 ?_
          refine v_iload_n F d_T_cross_54 rfl 1 rfl ?_
          refine v_runv (r_V F (c_T_enact X.2.1 u hA σ hb hL hL64 hD hD40 2 j (by omega) (by omega)) mo_T_enact st_T_146 rc_0 (by decide) rfl (Nat.le_of_ble_eq_true rfl) d_T_cross_55) (fun σ8 q9 => ?_)
          refine v_aload_n F d_T_cross_58 rfl 0 rfl ?_
          refine v_getr (r := 19) F fk_T_36 G0 rfl d_T_cross_59 ?_
          refine v_getr (r := 31) F fk_T_163 G19 rfl d_T_cross_62 ?_
          refine v_iload_n F d_T_cross_65 rfl 1 rfl ?_
          refine v_ial F j G31 rfl (by omega) d_T_cross_66 ?_
          refine v_iret F hr rfl d_T_cross_67 ?_
          first | (simp_all [tCross, stS, nI_0, n1l, n2l, n3l, uI_o]; done) | (simp_all [tCross, stS, nI_0, n1l, n2l, n3l, uI_o]; grind)
        · skip
          have h46 : ¬ D < 40 := fun q => h46 ((nI_ltI (a := D) (b := 40) (by omega) (by omega)).mpr q)
          refine v_bipush (v := (-2)) F d_T_cross_49 kb_m2 ?_
          refine v_iret F hr rfl d_T_cross_51 ?_
          first | (simp_all [tCross, stS, nI_0, n1l, n2l, n3l, uI_o]; done) | (simp_all [tCross, stS, nI_0, n1l, n2l, n3l, uI_o]; grind)
      · skip
        refine v_bipush (v := (-4)) F d_T_cross_34 kb_m4 ?_
        refine v_iret F hr rfl d_T_cross_36 ?_
        first | (simp_all [tCross, stS, nI_0, n1l, n2l, n3l, uI_o]; done) | (simp_all [tCross, stS, nI_0, n1l, n2l, n3l, uI_o]; grind)
  · skip
    refine v_iconst (v := (-1)) F d_T_cross_11 ki_m1 ?_
    refine v_iret F hr rfl d_T_cross_12 ?_
    first | (simp_all [tCross, stS, nI_0, n1l, n2l, n3l, uI_o]; done) | (simp_all [tCross, stS, nI_0, n1l, n2l, n3l, uI_o]; grind)
abbrev b_T_give : ByteArray := prog_1_method_17_code
abbrev y_T_give : MethodName := ⟨"TakerBook", "give", "(I)I"⟩
theorem d_T_give_0 : decode b_T_give 0 = .ok (.aload_n 0, 1) := by decide +kernel
theorem d_T_give_1 : decode b_T_give 1 = .ok (.getfield 36, 3) := by decide +kernel
theorem d_T_give_4 : decode b_T_give 4 = .ok (.iload_n 1, 1) := by decide +kernel
theorem d_T_give_5 : decode b_T_give 5 = .ok (.invokevirtual 121, 3) := by decide +kernel
theorem d_T_give_8 : decode b_T_give 8 = .ok (.ifCond .ne 5, 3) := by decide +kernel
theorem d_T_give_11 : decode b_T_give 11 = .ok (.iconst (-1), 1) := by decide +kernel
theorem d_T_give_12 : decode b_T_give 12 = .ok (.ireturn, 1) := by decide +kernel
theorem d_T_give_13 : decode b_T_give 13 = .ok (.aload_n 0, 1) := by decide +kernel
theorem d_T_give_14 : decode b_T_give 14 = .ok (.getfield 36, 3) := by decide +kernel
theorem d_T_give_17 : decode b_T_give 17 = .ok (.getfield 150, 3) := by decide +kernel
theorem d_T_give_20 : decode b_T_give 20 = .ok (.ifCond .ne 17, 3) := by decide +kernel
theorem d_T_give_23 : decode b_T_give 23 = .ok (.iload_n 1, 1) := by decide +kernel
theorem d_T_give_24 : decode b_T_give 24 = .ok (.aload_n 0, 1) := by decide +kernel
theorem d_T_give_25 : decode b_T_give 25 = .ok (.getfield 36, 3) := by decide +kernel
theorem d_T_give_28 : decode b_T_give 28 = .ok (.getfield 166, 3) := by decide +kernel
theorem d_T_give_31 : decode b_T_give 31 = .ok (.invokestatic 169, 3) := by decide +kernel
theorem d_T_give_34 : decode b_T_give 34 = .ok (.ifCond .ne 6, 3) := by decide +kernel
theorem d_T_give_37 : decode b_T_give 37 = .ok (.bipush (-4), 2) := by decide +kernel
theorem d_T_give_39 : decode b_T_give 39 = .ok (.ireturn, 1) := by decide +kernel
theorem d_T_give_40 : decode b_T_give 40 = .ok (.aload_n 0, 1) := by decide +kernel
theorem d_T_give_41 : decode b_T_give 41 = .ok (.getfield 57, 3) := by decide +kernel
theorem d_T_give_44 : decode b_T_give 44 = .ok (.getfield 72, 3) := by decide +kernel
theorem d_T_give_47 : decode b_T_give 47 = .ok (.bipush 40, 2) := by decide +kernel
theorem d_T_give_49 : decode b_T_give 49 = .ok (.if_icmp .lt 6, 3) := by decide +kernel
theorem d_T_give_52 : decode b_T_give 52 = .ok (.bipush (-2), 2) := by decide +kernel
theorem d_T_give_54 : decode b_T_give 54 = .ok (.ireturn, 1) := by decide +kernel
theorem d_T_give_55 : decode b_T_give 55 = .ok (.aload_n 0, 1) := by decide +kernel
theorem d_T_give_56 : decode b_T_give 56 = .ok (.iconst 3, 1) := by decide +kernel
theorem d_T_give_57 : decode b_T_give 57 = .ok (.iload_n 1, 1) := by decide +kernel
theorem d_T_give_58 : decode b_T_give 58 = .ok (.invokevirtual 146, 3) := by decide +kernel
theorem d_T_give_61 : decode b_T_give 61 = .ok (.aload_n 0, 1) := by decide +kernel
theorem d_T_give_62 : decode b_T_give 62 = .ok (.getfield 36, 3) := by decide +kernel
theorem d_T_give_65 : decode b_T_give 65 = .ok (.getfield 157, 3) := by decide +kernel
theorem d_T_give_68 : decode b_T_give 68 = .ok (.ireturn, 1) := by decide +kernel
theorem mo_T_give : mok y_T_give b_T_give 2 (some .int) 1 := ⟨List.mem_of_getElem? (i := 689) (by decide +kernel), ⟨by decide +kernel, by decide +kernel, by decide +kernel⟩, List.mem_of_getElem? (i := 74) (by decide +kernel), by decide⟩
set_option maxHeartbeats 4000000 in
theorem c_T_give (l : Launch) (u : Un) (hA : Ap u) (σ : St) {n G : Nat} {kd : Nat → Nat} (hb : bkOk σ n G kd) {L : Nat} (hL : σ.1 19 14 = nI L) (hL64 : L < 64) {D : Nat} (hD : σ.1 49 2 = nI D) (hDle : D ≤ 40) (i : Int32) : MTi l u y_T_give b_T_give 2 .int 9 [.ref (u.2.1 0), .int i] σ (fun ans σ' => (ans, σ') = tGive σ kd L D i) := by
  refine MT_of hA rfl (by decide) (Nat.le_of_ble_eq_true rfl) (fun X hl F hr => ?_)
  subst hl
  refine v_to (ls' := [(0, .ref (u.2.1 0)), (1, .int i)]) rfl ?_
  obtain ⟨hn, hn6, hG, hG64, hkd, hk6⟩ := id hb
  refine v_aload_n F d_T_give_0 rfl 0 rfl ?_
  refine v_getr (r := 19) F fk_T_36 G0 rfl d_T_give_1 ?_
  refine v_iload_n F d_T_give_4 rfl 1 rfl ?_
  refine v_runi (r_V F (c_B_has X.2.1 u hA σ i ) mo_B_has st_T_121 rc_19 (by decide) rfl (Nat.le_of_ble_eq_true rfl) d_T_give_5) (fun r1 σ2 q3 => ?_)
  obtain ⟨rfl, rfl⟩ := q3
  refine v_bf F 13 d_T_give_8 rfl (fun h8 => ?_) (fun h8 => ?_)
  · skip
    obtain ⟨j, hj, xj, rfl⟩ := has_nat h8 hn hn6
    refine v_aload_n F d_T_give_13 rfl 0 rfl ?_
    refine v_getr (r := 19) F fk_T_36 G0 rfl d_T_give_14 ?_
    refine v_geti F fk_T_150 G19 rfl d_T_give_17 ?_
    refine v_if_ne F 37 d_T_give_20 rfl (fun h20 => ?_) (fun h20 => ?_)
    · skip
      refine v_bipush (v := (-4)) F d_T_give_37 kb_m4 ?_
      refine v_iret F hr rfl d_T_give_39 ?_
      first | (simp_all [tGive, stS, nI_0, n1l, n2l, n3l, uI_o]; done) | (simp_all [tGive, stS, nI_0, n1l, n2l, n3l, uI_o]; grind)
    · skip
      refine v_iload_n F d_T_give_23 rfl 1 rfl ?_
      refine v_aload_n F d_T_give_24 rfl 0 rfl ?_
      refine v_getr (r := 19) F fk_T_36 G0 rfl d_T_give_25 ?_
      refine v_geti F fk_T_166 G19 rfl d_T_give_28 ?_
      refine v_te (y := nI L) hL ?_
      refine v_runi (r_S F (c_T_isIn2 X.2.1 u hA σ j L (by omega) (by omega)) mo_T_isIn st_T_169 (by decide) rfl (Nat.le_of_ble_eq_true rfl) d_T_give_31) (fun r4 σ5 q6 => ?_)
      obtain ⟨rfl, rfl⟩ := q6
      refine v_bf F 40 d_T_give_34 rfl (fun h34 => ?_) (fun h34 => ?_)
      · skip
        refine v_aload_n F d_T_give_40 rfl 0 rfl ?_
        refine v_getr (r := 49) F fk_T_57 G0 rfl d_T_give_41 ?_
        refine v_geti F fk_T_72 G49 rfl d_T_give_44 ?_
        refine v_te (y := nI D) hD ?_
        refine v_bipush (v := 40) F d_T_give_47 kb_40 ?_
        refine v_icmp_lt F 55 d_T_give_49 rfl (fun h49 => ?_) (fun h49 => ?_)
        · skip
          have h49 : D < 40 := (nI_ltI (a := D) (b := 40) (by omega) (by omega)).mp h49
          have hD40 := h49
          refine v_aload_n F d_T_give_55 rfl 0 rfl ?_
          refine v_iconst (v := 3) F d_T_give_56 ki_3 ?_
          refine v_iload_n F d_T_give_57 rfl 1 rfl ?_
          refine v_runv (r_V F (c_T_enact X.2.1 u hA σ hb hL hL64 hD hD40 3 j (by omega) (by omega)) mo_T_enact st_T_146 rc_0 (by decide) rfl (Nat.le_of_ble_eq_true rfl) d_T_give_58) (fun σ8 q9 => ?_)
          refine v_aload_n F d_T_give_61 rfl 0 rfl ?_
          refine v_getr (r := 19) F fk_T_36 G0 rfl d_T_give_62 ?_
          refine v_geti F fk_T_157 G19 rfl d_T_give_65 ?_
          refine v_iret F hr rfl d_T_give_68 ?_
          first | (simp_all [tGive, stS, nI_0, n1l, n2l, n3l, uI_o]; done) | (simp_all [tGive, stS, nI_0, n1l, n2l, n3l, uI_o]; grind)
        · skip
          have h49 : ¬ D < 40 := fun q => h49 ((nI_ltI (a := D) (b := 40) (by omega) (by omega)).mpr q)
          refine v_bipush (v := (-2)) F d_T_give_52 kb_m2 ?_
          refine v_iret F hr rfl d_T_give_54 ?_
          first | (simp_all [tGive, stS, nI_0, n1l, n2l, n3l, uI_o]; done) | (simp_all [tGive, stS, nI_0, n1l, n2l, n3l, uI_o]; grind)
      · skip
        refine v_bipush (v := (-4)) F d_T_give_37 kb_m4 ?_
        refine v_iret F hr rfl d_T_give_39 ?_
        first | (simp_all [tGive, stS, nI_0, n1l, n2l, n3l, uI_o]; done) | (simp_all [tGive, stS, nI_0, n1l, n2l, n3l, uI_o]; grind)
  · skip
    refine v_iconst (v := (-1)) F d_T_give_11 ki_m1 ?_
    refine v_iret F hr rfl d_T_give_12 ?_
    first | (simp_all [tGive, stS, nI_0, n1l, n2l, n3l, uI_o]; done) | (simp_all [tGive, stS, nI_0, n1l, n2l, n3l, uI_o]; grind)
abbrev b_T_thief : ByteArray := prog_1_method_12_code
abbrev y_T_thief : MethodName := ⟨"TakerBook", "thief", "(II)I"⟩
theorem d_T_thief_0 : decode b_T_thief 0 = .ok (.aload_n 0, 1) := by decide +kernel
theorem d_T_thief_1 : decode b_T_thief 1 = .ok (.getfield 36, 3) := by decide +kernel
theorem d_T_thief_4 : decode b_T_thief 4 = .ok (.iload_n 1, 1) := by decide +kernel
theorem d_T_thief_5 : decode b_T_thief 5 = .ok (.invokevirtual 121, 3) := by decide +kernel
theorem d_T_thief_8 : decode b_T_thief 8 = .ok (.ifCond .eq 13, 3) := by decide +kernel
theorem d_T_thief_11 : decode b_T_thief 11 = .ok (.iload_n 2, 1) := by decide +kernel
theorem d_T_thief_12 : decode b_T_thief 12 = .ok (.ifCond .lt 9, 3) := by decide +kernel
theorem d_T_thief_15 : decode b_T_thief 15 = .ok (.iload_n 2, 1) := by decide +kernel
theorem d_T_thief_16 : decode b_T_thief 16 = .ok (.bipush 7, 2) := by decide +kernel
theorem d_T_thief_18 : decode b_T_thief 18 = .ok (.if_icmp .le 5, 3) := by decide +kernel
theorem d_T_thief_21 : decode b_T_thief 21 = .ok (.iconst (-1), 1) := by decide +kernel
theorem d_T_thief_22 : decode b_T_thief 22 = .ok (.ireturn, 1) := by decide +kernel
theorem d_T_thief_23 : decode b_T_thief 23 = .ok (.aload_n 0, 1) := by decide +kernel
theorem d_T_thief_24 : decode b_T_thief 24 = .ok (.aload_n 0, 1) := by decide +kernel
theorem d_T_thief_25 : decode b_T_thief 25 = .ok (.getfield 36, 3) := by decide +kernel
theorem d_T_thief_28 : decode b_T_thief 28 = .ok (.iload_n 1, 1) := by decide +kernel
theorem d_T_thief_29 : decode b_T_thief 29 = .ok (.iload_n 2, 1) := by decide +kernel
theorem d_T_thief_30 : decode b_T_thief 30 = .ok (.invokevirtual 124, 3) := by decide +kernel
theorem d_T_thief_33 : decode b_T_thief 33 = .ok (.putfield 88, 3) := by decide +kernel
theorem d_T_thief_36 : decode b_T_thief 36 = .ok (.iconst 1, 1) := by decide +kernel
theorem d_T_thief_37 : decode b_T_thief 37 = .ok (.ireturn, 1) := by decide +kernel
theorem mo_T_thief : mok y_T_thief b_T_thief 3 (some .int) 2 := ⟨List.mem_of_getElem? (i := 538) (by decide +kernel), ⟨by decide +kernel, by decide +kernel, by decide +kernel⟩, List.mem_of_getElem? (i := 74) (by decide +kernel), by decide⟩
set_option maxHeartbeats 4000000 in
theorem c_T_thief (l : Launch) (u : Un) (hA : Ap u) (σ : St) {n G : Nat} {kd : Nat → Nat} (hb : bkOk σ n G kd) {L : Nat} (hL : σ.1 19 14 = nI L) (hL64 : L < 64) {D : Nat} (hD : σ.1 49 2 = nI D) (hDle : D ≤ 40) (i w : Int32) : MTi l u y_T_thief b_T_thief 3 .int 7 [.ref (u.2.1 0), .int i, .int w] σ (fun ans σ' => (ans, σ') = tThief σ G kd L i w) := by
  refine MT_of hA rfl (by decide) (Nat.le_of_ble_eq_true rfl) (fun X hl F hr => ?_)
  subst hl
  refine v_to (ls' := [(0, .ref (u.2.1 0)), (1, .int i), (2, .int w)]) rfl ?_
  obtain ⟨hn, hn6, hG, hG64, hkd, hk6⟩ := id hb
  refine v_aload_n F d_T_thief_0 rfl 0 rfl ?_
  refine v_getr (r := 19) F fk_T_36 G0 rfl d_T_thief_1 ?_
  refine v_iload_n F d_T_thief_4 rfl 1 rfl ?_
  refine v_runi (r_V F (c_B_has X.2.1 u hA σ i ) mo_B_has st_T_121 rc_19 (by decide) rfl (Nat.le_of_ble_eq_true rfl) d_T_thief_5) (fun r1 σ2 q3 => ?_)
  obtain ⟨rfl, rfl⟩ := q3
  refine v_bt F 21 d_T_thief_8 rfl (fun h8 => ?_) (fun h8 => ?_)
  · skip
    refine v_iconst (v := (-1)) F d_T_thief_21 ki_m1 ?_
    refine v_iret F hr rfl d_T_thief_22 ?_
    first | (simp_all [tThief, stS, nI_0, n1l, n2l, n3l, uI_o]; done) | (simp_all [tThief, stS, nI_0, n1l, n2l, n3l, uI_o]; grind)
  · skip
    obtain ⟨j, hj, xj, rfl⟩ := has_nat h8 hn hn6
    refine v_iload_n F d_T_thief_11 rfl 2 rfl ?_
    refine v_if_lt F 21 d_T_thief_12 rfl (fun h12 => ?_) (fun h12 => ?_)
    · skip
      refine v_iconst (v := (-1)) F d_T_thief_21 ki_m1 ?_
      refine v_iret F hr rfl d_T_thief_22 ?_
      first | (simp_all [tThief, stS, nI_0, n1l, n2l, n3l, uI_o]; done) | (simp_all [tThief, stS, nI_0, n1l, n2l, n3l, uI_o]; grind)
    · skip
      refine v_iload_n F d_T_thief_15 rfl 2 rfl ?_
      refine v_bipush (v := 7) F d_T_thief_16 kb_7 ?_
      refine v_icmp_le F 23 d_T_thief_18 rfl (fun h18 => ?_) (fun h18 => ?_)
      · skip
        obtain ⟨v, hv, xv, rfl⟩ := nat_of (M := 7) (i_nlt.mp h12) h18 rfl (by decide)
        refine v_aload_n F d_T_thief_23 rfl 0 rfl ?_
        refine v_aload_n F d_T_thief_24 rfl 0 rfl ?_
        refine v_getr (r := 19) F fk_T_36 G0 rfl d_T_thief_25 ?_
        refine v_iload_n F d_T_thief_28 rfl 1 rfl ?_
        refine v_iload_n F d_T_thief_29 rfl 2 rfl ?_
        refine v_runi (r_V F (c_B_tell X.2.1 u hA σ hb hL hL64 j v (by omega) (by omega)) mo_B_tell st_T_124 rc_19 (by decide) rfl (Nat.le_of_ble_eq_true rfl) d_T_thief_30) (fun r4 σ5 q6 => ?_)
        obtain ⟨rfl, rfl⟩ := q6
        refine v_puti F fk_T_88 pk_T_told G0 rfl d_T_thief_33 ?_
        refine v_ns (fun σ7 eσ7 => ?_)
        refine v_iconst (v := 1) F d_T_thief_36 ki_1 ?_
        refine v_iret F hr rfl d_T_thief_37 ?_
        first | (simp_all [tThief, stS, nI_0, n1l, n2l, n3l, uI_o]; done) | (simp_all [tThief, stS, nI_0, n1l, n2l, n3l, uI_o]; grind)
      · skip
        refine v_iconst (v := (-1)) F d_T_thief_21 ki_m1 ?_
        refine v_iret F hr rfl d_T_thief_22 ?_
        first | (simp_all [tThief, stS, nI_0, n1l, n2l, n3l, uI_o]; done) | (simp_all [tThief, stS, nI_0, n1l, n2l, n3l, uI_o]; grind)
abbrev b_T_mark : ByteArray := prog_1_method_13_code
abbrev y_T_mark : MethodName := ⟨"TakerBook", "mark", "(II)I"⟩
theorem d_T_mark_0 : decode b_T_mark 0 = .ok (.aload_n 0, 1) := by decide +kernel
theorem d_T_mark_1 : decode b_T_mark 1 = .ok (.getfield 36, 3) := by decide +kernel
theorem d_T_mark_4 : decode b_T_mark 4 = .ok (.iload_n 1, 1) := by decide +kernel
theorem d_T_mark_5 : decode b_T_mark 5 = .ok (.invokevirtual 121, 3) := by decide +kernel
theorem d_T_mark_8 : decode b_T_mark 8 = .ok (.ifCond .eq 13, 3) := by decide +kernel
theorem d_T_mark_11 : decode b_T_mark 11 = .ok (.iload_n 2, 1) := by decide +kernel
theorem d_T_mark_12 : decode b_T_mark 12 = .ok (.ifCond .le 9, 3) := by decide +kernel
theorem d_T_mark_15 : decode b_T_mark 15 = .ok (.iload_n 2, 1) := by decide +kernel
theorem d_T_mark_16 : decode b_T_mark 16 = .ok (.bipush 6, 2) := by decide +kernel
theorem d_T_mark_18 : decode b_T_mark 18 = .ok (.if_icmp .lt 5, 3) := by decide +kernel
theorem d_T_mark_21 : decode b_T_mark 21 = .ok (.iconst (-1), 1) := by decide +kernel
theorem d_T_mark_22 : decode b_T_mark 22 = .ok (.ireturn, 1) := by decide +kernel
theorem d_T_mark_23 : decode b_T_mark 23 = .ok (.aload_n 0, 1) := by decide +kernel
theorem d_T_mark_24 : decode b_T_mark 24 = .ok (.getfield 36, 3) := by decide +kernel
theorem d_T_mark_27 : decode b_T_mark 27 = .ok (.aload_n 0, 1) := by decide +kernel
theorem d_T_mark_28 : decode b_T_mark 28 = .ok (.getfield 36, 3) := by decide +kernel
theorem d_T_mark_31 : decode b_T_mark 31 = .ok (.getfield 127, 3) := by decide +kernel
theorem d_T_mark_34 : decode b_T_mark 34 = .ok (.iload_n 1, 1) := by decide +kernel
theorem d_T_mark_35 : decode b_T_mark 35 = .ok (.iaload, 1) := by decide +kernel
theorem d_T_mark_36 : decode b_T_mark 36 = .ok (.invokevirtual 130, 3) := by decide +kernel
theorem d_T_mark_39 : decode b_T_mark 39 = .ok (.iload_n 2, 1) := by decide +kernel
theorem d_T_mark_40 : decode b_T_mark 40 = .ok (.invokevirtual 134, 3) := by decide +kernel
theorem d_T_mark_43 : decode b_T_mark 43 = .ok (.ifCond .eq 15, 3) := by decide +kernel
theorem d_T_mark_46 : decode b_T_mark 46 = .ok (.aload_n 0, 1) := by decide +kernel
theorem d_T_mark_47 : decode b_T_mark 47 = .ok (.getfield 36, 3) := by decide +kernel
theorem d_T_mark_50 : decode b_T_mark 50 = .ok (.iload_n 1, 1) := by decide +kernel
theorem d_T_mark_51 : decode b_T_mark 51 = .ok (.iload_n 2, 1) := by decide +kernel
theorem d_T_mark_52 : decode b_T_mark 52 = .ok (.invokevirtual 139, 3) := by decide +kernel
theorem d_T_mark_55 : decode b_T_mark 55 = .ok (.goto 8, 3) := by decide +kernel
theorem d_T_mark_58 : decode b_T_mark 58 = .ok (.aload_n 0, 1) := by decide +kernel
theorem d_T_mark_59 : decode b_T_mark 59 = .ok (.iconst 3, 1) := by decide +kernel
theorem d_T_mark_60 : decode b_T_mark 60 = .ok (.invokevirtual 80, 3) := by decide +kernel
theorem d_T_mark_63 : decode b_T_mark 63 = .ok (.ireturn, 1) := by decide +kernel
theorem mo_T_mark : mok y_T_mark b_T_mark 3 (some .int) 2 := ⟨List.mem_of_getElem? (i := 638) (by decide +kernel), ⟨by decide +kernel, by decide +kernel, by decide +kernel⟩, List.mem_of_getElem? (i := 74) (by decide +kernel), by decide⟩
set_option maxHeartbeats 4000000 in
theorem c_T_mark (l : Launch) (u : Un) (hA : Ap u) (σ : St) {n G : Nat} {kd : Nat → Nat} (hb : bkOk σ n G kd) {L : Nat} (hL : σ.1 19 14 = nI L) (hL64 : L < 64) {D : Nat} (hD : σ.1 49 2 = nI D) (hDle : D ≤ 40) (i w : Int32) : MTi l u y_T_mark b_T_mark 3 .int 7 [.ref (u.2.1 0), .int i, .int w] σ (fun ans σ' => (ans, σ') = tMark σ G kd n L i w) := by
  refine MT_of hA rfl (by decide) (Nat.le_of_ble_eq_true rfl) (fun X hl F hr => ?_)
  subst hl
  refine v_to (ls' := [(0, .ref (u.2.1 0)), (1, .int i), (2, .int w)]) rfl ?_
  obtain ⟨hn, hn6, hG, hG64, hkd, hk6⟩ := id hb
  refine v_aload_n F d_T_mark_0 rfl 0 rfl ?_
  refine v_getr (r := 19) F fk_T_36 G0 rfl d_T_mark_1 ?_
  refine v_iload_n F d_T_mark_4 rfl 1 rfl ?_
  refine v_runi (r_V F (c_B_has X.2.1 u hA σ i ) mo_B_has st_T_121 rc_19 (by decide) rfl (Nat.le_of_ble_eq_true rfl) d_T_mark_5) (fun r1 σ2 q3 => ?_)
  obtain ⟨rfl, rfl⟩ := q3
  refine v_bt F 21 d_T_mark_8 rfl (fun h8 => ?_) (fun h8 => ?_)
  · skip
    refine v_iconst (v := (-1)) F d_T_mark_21 ki_m1 ?_
    refine v_iret F hr rfl d_T_mark_22 ?_
    first | (simp_all [tMark, stS, nI_0, n1l, n2l, n3l, uI_o]; done) | (simp_all [tMark, stS, nI_0, n1l, n2l, n3l, uI_o]; grind)
  · skip
    obtain ⟨j, hj, xj, rfl⟩ := has_nat h8 hn hn6
    refine v_iload_n F d_T_mark_11 rfl 2 rfl ?_
    refine v_if_le F 21 d_T_mark_12 rfl (fun h12 => ?_) (fun h12 => ?_)
    · skip
      refine v_iconst (v := (-1)) F d_T_mark_21 ki_m1 ?_
      refine v_iret F hr rfl d_T_mark_22 ?_
      first | (simp_all [tMark, stS, nI_0, n1l, n2l, n3l, uI_o]; done) | (simp_all [tMark, stS, nI_0, n1l, n2l, n3l, uI_o]; grind)
    · skip
      refine v_iload_n F d_T_mark_15 rfl 2 rfl ?_
      refine v_bipush (v := 6) F d_T_mark_16 kb_6 ?_
      refine v_icmp_lt F 23 d_T_mark_18 rfl (fun h18 => ?_) (fun h18 => ?_)
      · skip
        obtain ⟨v, hv, xv, rfl⟩ := inR_nat (N := 6) ⟨pos_le h12, h18⟩ rfl (by decide)
        have hv0 : 0 < v := by
          rcases v with _ | v
          · exact absurd (show nI 0 ≤ 0 by decide) h12
          · omega
        refine v_aload_n F d_T_mark_23 rfl 0 rfl ?_
        refine v_getr (r := 19) F fk_T_36 G0 rfl d_T_mark_24 ?_
        refine v_aload_n F d_T_mark_27 rfl 0 rfl ?_
        refine v_getr (r := 19) F fk_T_36 G0 rfl d_T_mark_28 ?_
        refine v_getr (r := 27) F fk_T_127 G19 rfl d_T_mark_31 ?_
        refine v_iload_n F d_T_mark_34 rfl 1 rfl ?_
        refine v_ial F j G27 rfl (by omega) d_T_mark_35 ?_
        refine v_te (y := nI (kd j)) (hkd _ (by omega)) ?_
        refine v_runr (r_V F (c_B_nature X.2.1 u hA σ (kd j) (hk6 _ (by omega))) mo_B_nature st_T_130 rc_19 (by decide) rfl (Nat.le_of_ble_eq_true rfl) d_T_mark_36) ?_
        refine v_iload_n F d_T_mark_39 rfl 2 rfl ?_
        refine vs_T_134 hA F (k := kd j) (hk6 _ (by omega)) (by decide) (Nat.le_of_ble_eq_true rfl) d_T_mark_40 ?_
        refine v_bt F 58 d_T_mark_43 rfl (fun h43 => ?_) (fun h43 => ?_)
        · skip
          refine v_aload_n F d_T_mark_58 rfl 0 rfl ?_
          refine v_iconst (v := 3) F d_T_mark_59 ki_3 ?_
          refine v_runi (r_V F (c_T_refuse X.2.1 u hA σ 3 (by decide)) mo_T_refuse st_T_80 rc_0 (by decide) rfl (Nat.le_of_ble_eq_true rfl) d_T_mark_60) (fun r4 σ5 q6 => ?_)
          obtain ⟨rfl, eσ5⟩ := q6
          refine v_iret F hr rfl d_T_mark_63 ?_
          first | (simp_all [tMark, stS, nI_0, n1l, n2l, n3l, uI_o]; done) | (simp_all [tMark, stS, nI_0, n1l, n2l, n3l, uI_o]; grind)
        · skip
          refine v_aload_n F d_T_mark_46 rfl 0 rfl ?_
          refine v_getr (r := 19) F fk_T_36 G0 rfl d_T_mark_47 ?_
          refine v_iload_n F d_T_mark_50 rfl 1 rfl ?_
          refine v_iload_n F d_T_mark_51 rfl 2 rfl ?_
          refine v_runi (r_V F (c_B_markOf X.2.1 u hA σ hb hL hL64 j v (by omega) (by omega) (by omega)) mo_B_markOf st_T_139 rc_19 (by decide) rfl (Nat.le_of_ble_eq_true rfl) d_T_mark_52) (fun r7 σ8 q9 => ?_)
          obtain ⟨rfl, rfl⟩ := q9
          refine v_goto F 63 d_T_mark_55 rfl ?_
          refine v_iret F hr rfl d_T_mark_63 ?_
          first | (simp_all [tMark, stS, nI_0, n1l, n2l, n3l, uI_o]; done) | (simp_all [tMark, stS, nI_0, n1l, n2l, n3l, uI_o]; grind)
      · skip
        refine v_iconst (v := (-1)) F d_T_mark_21 ki_m1 ?_
        refine v_iret F hr rfl d_T_mark_22 ?_
        first | (simp_all [tMark, stS, nI_0, n1l, n2l, n3l, uI_o]; done) | (simp_all [tMark, stS, nI_0, n1l, n2l, n3l, uI_o]; grind)
end
section
-- loops over sets
def itr {α : Type} (f : Nat → α → α) (a : α) : Nat → α
  | 0 => a
  | i + 1 => f i (itr f a i)
def tdS (σ : St) (o : Option Nat) : St := match o with
  | none => σ
  | some s => uI σ 0 12 (nI s)
theorem tdS_k (σ : St) (o : Option Nat) {k : Nat} (h : k ≠ 0) : (tdS σ o).1 k = σ.1 k := by
  unfold tdS
  split
  · rfl
  · simp [uI, h]
theorem tdS_ok {σ : St} {o : Option Nat} {n G : Nat} {kd : Nat → Nat} (h : bkOk σ n G kd) : bkOk (tdS σ o) n G kd := bkOk_of h (by rw [tdS_k _ _ (by decide)]) (by rw [tdS_k _ _ (by decide)]) (by rw [tdS_k _ _ (by decide)])
theorem uI_uI (σ : St) (k j : Nat) (a b : Int32) : uI (uI σ k j a) k j b = uI σ k j b := by
  unfold uI
  congr 1
  funext z
  by_cases h : z = k
  · subst h
    simp only [if_true]
    funext y
    simp only [upd]
    split <;> rfl
  · simp [h]
theorem tdS_u (σ : St) (o : Option Nat) (s : Nat) : uI (tdS σ o) 0 12 (nI s) = uI σ 0 12 (nI s) := by
  cases o
  · rfl
  · exact uI_uI σ _ _ _ _
theorem tkS_td (σ : St) (o : Option Nat) (G : Nat) (kd : Nat → Nat) (a : Nat) : tkS (tdS σ o) G kd a = tkS σ G kd a := by simp [tkS, tdS_k]
abbrev trT (σ : St) (G : Nat) (kd : Nat → Nat) (n a : Nat) : Prop := σ.1 19 12 ≤ nI (pcN (mkN (tkS σ G kd a) n))
def safeF (σ : St) (G : Nat) (kd : Nat → Nat) (n L : Nat) (s : Nat) (a : Nat × Option Nat) : Nat × Option Nat := if s &&& (63 ^^^ L) = 0 ∧ pcN s < a.1 ∧ ¬ trT σ G kd n (L &&& (63 ^^^ s)) then (pcN s, some s) else a
def tSpeak (σ : St) (G : Nat) (kd : Nat → Nat) (n L : Nat) : Int32 × St := if σ.1 19 8 = 0 then (-4, σ) else (nI (mkN (tkS σ G kd L) n), uI σ 0 12 (if trT σ G kd n L then 1 else 0))
def tSafe (σ : St) (G : Nat) (kd : Nat → Nat) (n L : Nat) : Int32 × St := if σ.1 19 8 = 0 then (-4, σ) else (nI (itr (safeF σ G kd n L) (7, none) 64).1, tdS σ (itr (safeF σ G kd n L) (7, none) 64).2)
theorem itr_b {α : Type} {f : Nat → α → α} {a : α} (P : α → Prop) (h0 : P a) (h : ∀ i x, P x → P (f i x)) : ∀ i, P (itr f a i)
  | 0 => h0
  | i + 1 => h i _ (itr_b P h0 h i)
theorem safeF_b {σ : St} {G : Nat} {kd : Nat → Nat} {n L : Nat} (s : Nat) (hs : s ≤ 64) : (itr (safeF σ G kd n L) (7, none) s).1 ≤ 7 := by
  refine itr_b (fun a : Nat × Option Nat => a.1 ≤ 7) (by decide) (fun i x hx => ?_) s
  unfold safeF
  split
  · omega
  · exact hx
def totF (f : Nat → Int32) (s : Nat) : Nat → Int32
  | 0 => 0
  | i + 1 => if s.testBit i = true then totF f s i + f i else totF f s i
def nowOk (k : Nat) : Prop := k = 32 ∨ k = 33
theorem nowOk.gam {k : Nat} (h : nowOk k) : Gam[k]? = some (.inl (.int, 6)) := by rcases h with rfl | rfl <;> rfl
def headF (σ : St) (m L : Nat) (s : Nat) (a : Int32 × Option Nat) : Int32 × Option Nat := if s &&& (63 ^^^ L) = 0 ∧ pcN s = m ∧ a.1 < totF (σ.1 33) s 6 then (totF (σ.1 33) s 6, some s) else a
def wgd (σ : St) (G : Nat) (kd : Nat → Nat) (n L : Nat) : St := wgS σ (ltF kd (σ.1 28) G L) (fun i => priceS (kd i) (σ.1 19 9) (σ.1 31 i)) n
theorem wgd_k (σ : St) (G : Nat) (kd : Nat → Nat) (n L : Nat) {k : Nat} (h1 : k ≠ 32) (h2 : k ≠ 33) : (wgd σ G kd n L).1 k = σ.1 k := wgS_o σ _ _ h1 h2 n
theorem wgd_ok {σ : St} {G : Nat} {kd : Nat → Nat} {n L : Nat} (h : bkOk σ n G kd) : bkOk (wgd σ G kd n L) n G kd := wg_ok h n
def tHeads (σ : St) (G : Nat) (kd : Nat → Nat) (n L : Nat) (x : Int32) : Int32 × St := if x < 0 ∨ 6 < x then (-1, σ) else if σ.1 19 8 = 0 then (-4, σ) else if pcN L < ix x then (-9, σ) else
  ((itr (headF (wgd σ G kd n L) (ix x) L) (-1, none) 64).1, tdS (wgd σ G kd n L) (itr (headF (wgd σ G kd n L) (ix x) L) (-1, none) 64).2)
abbrev such (σ : St) (L : Nat) (v : Int32) (s : Nat) : Prop := s &&& (63 ^^^ L) = 0 ∧ totF (σ.1 32) s 6 = v
def fitF (σ : St) (L : Nat) (v : Int32) (s : Nat) (a : Nat × Int32) : Nat × Int32 := if such σ L v s then (a.1 + 1, if a.1 = 0 then nI s else a.2) else a
theorem fitF_b {σ : St} {L : Nat} {v : Int32} : ∀ s, (itr (fitF σ L v) (0, -9) s).1 ≤ s
  | 0 => Nat.le_refl _
  | s + 1 => by
    have ih := fitF_b (σ := σ) (L := L) (v := v) s
    simp only [itr, fitF]
    split
    · show _ + 1 ≤ _
      omega
    · omega
def tFits (σ : St) (G : Nat) (kd : Nat → Nat) (n L : Nat) (v : Int32) : Int32 × St := if ¬ (0 ≤ v ∧ v ≤ 99) then (-1, σ) else if σ.1 19 8 = 0 then (-4, σ) else
  (1, uI (uL (uL (wgd σ G kd n L) 0 13 (lN (itr (fitF (wgd σ G kd n L) L v) (0, -9) 64).1)) 0 14 (lN 1)) 0 12 (itr (fitF (wgd σ G kd n L) L v) (0, -9) 64).2)
def sureF (σ : St) (L : Nat) (v : Int32) (s : Nat) (a : Nat × Nat) : Nat × Nat := if such σ L v s then (a.1 &&& s, a.2 ||| s) else a
def exS (σ : St) (L : Nat) (v : Int32) : Prop := ∃ s, s < 64 ∧ such σ L v s
theorem sureF_b {σ : St} {L : Nat} {v : Int32} (hL : L < 64) (s : Nat) (hs : s ≤ 64) : (itr (sureF σ L v) (L, 0) s).1 < 64 ∧ (itr (sureF σ L v) (L, 0) s).2 < 64 := by
  induction s with
  | zero => exact ⟨hL, (by decide : (0 : Nat) < 64)⟩
  | succ s ih =>
    obtain ⟨h1, h2⟩ := ih (by omega)
    simp only [itr, sureF]
    split
    · exact ⟨and_lt h1, Nat.or_lt_two_pow (n := 6) h2 (by omega)⟩
    · exact ⟨h1, h2⟩
def gpF (σ : St) (L : Nat) (v : Int32) (i : Nat) (s : Nat) (a : Nat × Nat) : Nat × Nat := if such σ L v s then (if s.testBit i = true then (a.1 + 1, a.2) else (a.1, a.2 + 1)) else a
theorem gpF_b {σ : St} {L : Nat} {v : Int32} {i : Nat} : ∀ s, (itr (gpF σ L v i) (0, 0) s).1 ≤ s ∧ (itr (gpF σ L v i) (0, 0) s).2 ≤ s
  | 0 => ⟨Nat.le_refl _, Nat.le_refl _⟩
  | s + 1 => by
    have ih := gpF_b (σ := σ) (L := L) (v := v) (i := i) s
    simp only [itr, gpF]
    split
    · split
      · exact ⟨by show _ + 1 ≤ _; omega, by omega⟩
      · exact ⟨by omega, by show _ + 1 ≤ _; omega⟩
    · exact ⟨by omega, by omega⟩
def gpN (σ : St) (L : Nat) (v : Int32) (i : Nat) : Nat := max (itr (gpF σ L v i) (0, 0) 64).1 (itr (gpF σ L v i) (0, 0) 64).2
theorem gpN_b {σ : St} {L : Nat} {v : Int32} {i : Nat} : gpN σ L v i ≤ 64 := by
  have h := gpF_b (σ := σ) (L := L) (v := v) (i := i) 64
  unfold gpN
  omega
theorem max_nI {a b : Nat} (ha : a ≤ 64) (hb : b ≤ 64) : (if nI a < nI b then nI b else nI a) = nI (max a b) := by
  by_cases h : a < b
  · rw [if_pos ((nI_ltI (by omega) (by omega)).mpr h), Nat.max_eq_right (by omega)]
  · rw [if_neg (fun q => h ((nI_ltI (by omega) (by omega)).mp q)), Nat.max_eq_left (by omega)]
def oI (o : Option Nat) : Int32 := match o with
  | none => -9
  | some s => nI s
def askF (σ : St) (L : Nat) (v : Int32) (i : Nat) (a : Option Nat × Nat) : Option Nat × Nat := if L.testBit i = true ∧ gpN σ L v i < a.2 then (some i, gpN σ L v i) else a
theorem askF_b {σ : St} {L : Nat} {v : Int32} (s : Nat) : (itr (askF σ L v) (none, 65) s).2 ≤ 65 := by
  refine itr_b (fun a : Option Nat × Nat => a.2 ≤ 65) (Nat.le_refl _) (fun i x hx => ?_) s
  unfold askF
  split
  · exact Nat.le_trans gpN_b (by decide)
  · exact hx
def tSure (σ : St) (L : Nat) (v : Int32) : Int32 × St := (nI (itr (sureF σ L v) (L, 0) 64).1, uI σ 0 12 (nI (L &&& (63 ^^^ (itr (sureF σ L v) (L, 0) 64).2))))
def tAsk (σ : St) (n L : Nat) (v : Int32) : Int32 × St := (oI (itr (askF σ L v) (none, 65) n).1, if oI (itr (askF σ L v) (none, 65) n).1 = -9 then σ else uI σ 0 12 (nI (itr (askF σ L v) (none, 65) n).2))
def gdF (fee x : Int32) : Int32 := if x = 0 then 0 else if x < 0 ∨ fee = 0 ∨ ¬ x - x / fee * fee = 0 then -9 else x / fee
def betB (n w f wt : Int32) : Prop := f = -9 ∨ n < f ∨ (n = f ∧ wt < w)
def sumF (σ : St) (L : Nat) (v : Int32) (s : Nat) (a : Int32 × Int32) : Int32 × Int32 := if s &&& (63 ^^^ L) = 0 ∧ ¬ gdF (σ.1 19 10) (v - totF (σ.1 33) s 6) = -9 ∧ (a.1 = -9 ∨ gdF (σ.1 19 10) (v - totF (σ.1 33) s 6) + nI (pcN s) < a.1 ∨ (gdF (σ.1 19 10) (v - totF (σ.1 33) s 6) + nI (pcN s) = a.1 ∧ a.2 < nI (pcN s))) then (gdF (σ.1 19 10) (v - totF (σ.1 33) s 6) + nI (pcN s), nI (pcN s)) else a
def tSum (σ : St) (G : Nat) (kd : Nat → Nat) (n L : Nat) (v : Int32) : Int32 × St := if ¬ (0 ≤ v ∧ v ≤ 99) then (-1, σ) else if σ.1 19 8 = 0 then (-4, σ) else
  ((itr (sumF (wgd σ G kd n L) L v) (-9, 0) 64).1, if (itr (sumF (wgd σ G kd n L) L v) (-9, 0) 64).1 = -9 then wgd σ G kd n L else uI (wgd σ G kd n L) 0 12 (itr (sumF (wgd σ G kd n L) L v) (-9, 0) 64).2)
end
section
theorem st_T_180 : siteV "TakerBook" 180 ⟨"TakerBook$Band", "wouldBeTried", "(I)Z"⟩ := ⟨List.mem_of_getElem? (i := 717) (by decide +kernel), List.mem_of_getElem? (i := 718) (by decide +kernel), List.mem_of_getElem? (i := 719) (by decide +kernel)⟩
theorem st_T_183 : siteV "TakerBook" 183 ⟨"TakerBook$Band", "talkers", "(I)I"⟩ := ⟨List.mem_of_getElem? (i := 721) (by decide +kernel), List.mem_of_getElem? (i := 646) (by decide +kernel), List.mem_of_getElem? (i := 647) (by decide +kernel)⟩
theorem kb_64 : (Int8.ofInt 64).toInt32 = (64 : Int32) := by decide
theorem st_T_186 : siteV "TakerBook" 186 ⟨"TakerBook$Band", "isOfLeft", "(I)Z"⟩ := ⟨List.mem_of_getElem? (i := 726) (by decide +kernel), List.mem_of_getElem? (i := 727) (by decide +kernel), List.mem_of_getElem? (i := 728) (by decide +kernel)⟩
theorem st_T_189 : siteS "TakerBook" 189 ⟨"java/lang/Integer", "bitCount", "(I)I"⟩ := ⟨List.mem_of_getElem? (i := 730) (by decide +kernel), List.mem_of_getElem? (i := 556) (by decide +kernel)⟩
theorem fk_T_207 : fok "TakerBook" 207 1 7 := ⟨(R_B, F_B, 19), rfl, by decide, List.mem_of_getElem? (i := 192) (by decide +kernel), rfl⟩
theorem st_T_210 : siteS "TakerBook" 210 ⟨"TakerBook", "total", "(I[I)I"⟩ := ⟨List.mem_of_getElem? (i := 760) (by decide +kernel), List.mem_of_getElem? (i := 761) (by decide +kernel)⟩
theorem st_T_204 : siteV "TakerBook" 204 ⟨"TakerBook$Band", "weigh", "()V"⟩ := ⟨List.mem_of_getElem? (i := 756) (by decide +kernel), List.mem_of_getElem? (i := 757) (by decide +kernel), List.mem_of_getElem? (i := 758) (by decide +kernel)⟩
theorem kb_m9 : (Int8.ofInt (-9)).toInt32 = ((-9) : Int32) := by decide
abbrev b_T_speak : ByteArray := prog_1_method_21_code
abbrev y_T_speak : MethodName := ⟨"TakerBook", "speak", "()I"⟩
theorem d_T_speak_0 : decode b_T_speak 0 = .ok (.aload_n 0, 1) := by decide +kernel
theorem d_T_speak_1 : decode b_T_speak 1 = .ok (.getfield 36, 3) := by decide +kernel
theorem d_T_speak_4 : decode b_T_speak 4 = .ok (.getfield 118, 3) := by decide +kernel
theorem d_T_speak_7 : decode b_T_speak 7 = .ok (.ifCond .ne 6, 3) := by decide +kernel
theorem d_T_speak_10 : decode b_T_speak 10 = .ok (.bipush (-4), 2) := by decide +kernel
theorem d_T_speak_12 : decode b_T_speak 12 = .ok (.ireturn, 1) := by decide +kernel
theorem d_T_speak_13 : decode b_T_speak 13 = .ok (.aload_n 0, 1) := by decide +kernel
theorem d_T_speak_14 : decode b_T_speak 14 = .ok (.aload_n 0, 1) := by decide +kernel
theorem d_T_speak_15 : decode b_T_speak 15 = .ok (.getfield 36, 3) := by decide +kernel
theorem d_T_speak_18 : decode b_T_speak 18 = .ok (.aload_n 0, 1) := by decide +kernel
theorem d_T_speak_19 : decode b_T_speak 19 = .ok (.getfield 36, 3) := by decide +kernel
theorem d_T_speak_22 : decode b_T_speak 22 = .ok (.getfield 166, 3) := by decide +kernel
theorem d_T_speak_25 : decode b_T_speak 25 = .ok (.invokevirtual 180, 3) := by decide +kernel
theorem d_T_speak_28 : decode b_T_speak 28 = .ok (.ifCond .eq 7, 3) := by decide +kernel
theorem d_T_speak_31 : decode b_T_speak 31 = .ok (.iconst 1, 1) := by decide +kernel
theorem d_T_speak_32 : decode b_T_speak 32 = .ok (.goto 4, 3) := by decide +kernel
theorem d_T_speak_35 : decode b_T_speak 35 = .ok (.iconst 0, 1) := by decide +kernel
theorem d_T_speak_36 : decode b_T_speak 36 = .ok (.putfield 88, 3) := by decide +kernel
theorem d_T_speak_39 : decode b_T_speak 39 = .ok (.aload_n 0, 1) := by decide +kernel
theorem d_T_speak_40 : decode b_T_speak 40 = .ok (.getfield 36, 3) := by decide +kernel
theorem d_T_speak_43 : decode b_T_speak 43 = .ok (.aload_n 0, 1) := by decide +kernel
theorem d_T_speak_44 : decode b_T_speak 44 = .ok (.getfield 36, 3) := by decide +kernel
theorem d_T_speak_47 : decode b_T_speak 47 = .ok (.getfield 166, 3) := by decide +kernel
theorem d_T_speak_50 : decode b_T_speak 50 = .ok (.invokevirtual 183, 3) := by decide +kernel
theorem d_T_speak_53 : decode b_T_speak 53 = .ok (.ireturn, 1) := by decide +kernel
theorem mo_T_speak : mok y_T_speak b_T_speak 1 (some .int) 0 := ⟨List.mem_of_getElem? (i := 716) (by decide +kernel), ⟨by decide +kernel, by decide +kernel, by decide +kernel⟩, List.mem_of_getElem? (i := 74) (by decide +kernel), by decide⟩
set_option maxHeartbeats 4000000 in
theorem c_T_speak (l : Launch) (u : Un) (hA : Ap u) (σ : St) {n G : Nat} {kd : Nat → Nat} (hb : bkOk σ n G kd) {L : Nat} (hL : σ.1 19 14 = nI L) (hL64 : L < 64) : MTi l u y_T_speak b_T_speak 1 .int 7 [.ref (u.2.1 0)] σ (fun ans σ' => (ans, σ') = tSpeak σ G kd n L) := by
  refine MT_of hA rfl (by decide) (Nat.le_of_ble_eq_true rfl) (fun X hl F hr => ?_)
  subst hl
  refine v_to (ls' := [(0, .ref (u.2.1 0))]) rfl ?_
  obtain ⟨hn, hn6, hG, hG64, hkd, hk6⟩ := id hb
  refine v_aload_n F d_T_speak_0 rfl 0 rfl ?_
  refine v_getr (r := 19) F fk_T_36 G0 rfl d_T_speak_1 ?_
  refine v_geti F fk_T_118 G19 rfl d_T_speak_4 ?_
  refine v_if_ne F 13 d_T_speak_7 rfl (fun h7 => ?_) (fun h7 => ?_)
  · skip
    refine v_aload_n F d_T_speak_13 rfl 0 rfl ?_
    refine v_aload_n F d_T_speak_14 rfl 0 rfl ?_
    refine v_getr (r := 19) F fk_T_36 G0 rfl d_T_speak_15 ?_
    refine v_aload_n F d_T_speak_18 rfl 0 rfl ?_
    refine v_getr (r := 19) F fk_T_36 G0 rfl d_T_speak_19 ?_
    refine v_geti F fk_T_166 G19 rfl d_T_speak_22 ?_
    refine v_te (y := nI L) hL ?_
    refine v_runi (r_V F (c_B_wouldBeTried X.2.1 u hA σ hb L (by omega)) mo_B_wouldBeTried st_T_180 rc_19 (by decide) rfl (Nat.le_of_ble_eq_true rfl) d_T_speak_25) (fun r1 σ2 q3 => ?_)
    obtain ⟨rfl, rfl⟩ := q3
    refine v_bt F 35 d_T_speak_28 rfl (fun h28 => ?_) (fun h28 => ?_)
    · skip
      refine v_iconst (v := 0) F d_T_speak_35 ki_0 ?_
      refine v_puti F fk_T_88 pk_T_told G0 rfl d_T_speak_36 ?_
      refine v_ns (fun σ4 eσ4 => ?_)
      refine v_aload_n F d_T_speak_39 rfl 0 rfl ?_
      refine v_getr (r := 19) F fk_T_36 G0 rfl d_T_speak_40 ?_
      refine v_aload_n F d_T_speak_43 rfl 0 rfl ?_
      refine v_getr (r := 19) F fk_T_36 G0 rfl d_T_speak_44 ?_
      refine v_geti F fk_T_166 G19 rfl d_T_speak_47 ?_
      refine v_te (y := nI L) (by simp_all [uI_o]) ?_
      refine v_runi (r_V F (c_B_talkers X.2.1 u hA σ4 (bkOk_of hb (by simp_all [uI_o]) (by simp_all [uI_o]) (by simp_all [uI_o])) L (by omega)) mo_B_talkers st_T_183 rc_19 (by decide) rfl (Nat.le_of_ble_eq_true rfl) d_T_speak_50) (fun r5 σ6 q7 => ?_)
      obtain ⟨rfl, rfl⟩ := q7
      refine v_iret F hr rfl d_T_speak_53 ?_
      first | (simp_all [tSpeak, tkS, uI_o]; done) | (simp_all [tSpeak, tkS, uI_o]; grind)
    · skip
      refine v_iconst (v := 1) F d_T_speak_31 ki_1 ?_
      refine v_goto F 36 d_T_speak_32 rfl ?_
      refine v_puti F fk_T_88 pk_T_told G0 rfl d_T_speak_36 ?_
      refine v_ns (fun σ8 eσ8 => ?_)
      refine v_aload_n F d_T_speak_39 rfl 0 rfl ?_
      refine v_getr (r := 19) F fk_T_36 G0 rfl d_T_speak_40 ?_
      refine v_aload_n F d_T_speak_43 rfl 0 rfl ?_
      refine v_getr (r := 19) F fk_T_36 G0 rfl d_T_speak_44 ?_
      refine v_geti F fk_T_166 G19 rfl d_T_speak_47 ?_
      refine v_te (y := nI L) (by simp_all [uI_o]) ?_
      refine v_runi (r_V F (c_B_talkers X.2.1 u hA σ8 (bkOk_of hb (by simp_all [uI_o]) (by simp_all [uI_o]) (by simp_all [uI_o])) L (by omega)) mo_B_talkers st_T_183 rc_19 (by decide) rfl (Nat.le_of_ble_eq_true rfl) d_T_speak_50) (fun r9 σ10 q11 => ?_)
      obtain ⟨rfl, rfl⟩ := q11
      refine v_iret F hr rfl d_T_speak_53 ?_
      first | (simp_all [tSpeak, tkS, uI_o]; done) | (simp_all [tSpeak, tkS, uI_o]; grind)
  · skip
    refine v_bipush (v := (-4)) F d_T_speak_10 kb_m4 ?_
    refine v_iret F hr rfl d_T_speak_12 ?_
    first | (simp_all [tSpeak, tkS, uI_o]; done) | (simp_all [tSpeak, tkS, uI_o]; grind)
abbrev b_T_safe : ByteArray := prog_1_method_22_code
abbrev y_T_safe : MethodName := ⟨"TakerBook", "safe", "()I"⟩
theorem d_T_safe_0 : decode b_T_safe 0 = .ok (.aload_n 0, 1) := by decide +kernel
theorem d_T_safe_1 : decode b_T_safe 1 = .ok (.getfield 36, 3) := by decide +kernel
theorem d_T_safe_4 : decode b_T_safe 4 = .ok (.getfield 118, 3) := by decide +kernel
theorem d_T_safe_7 : decode b_T_safe 7 = .ok (.ifCond .ne 6, 3) := by decide +kernel
theorem d_T_safe_10 : decode b_T_safe 10 = .ok (.bipush (-4), 2) := by decide +kernel
theorem d_T_safe_12 : decode b_T_safe 12 = .ok (.ireturn, 1) := by decide +kernel
theorem d_T_safe_13 : decode b_T_safe 13 = .ok (.bipush 7, 2) := by decide +kernel
theorem d_T_safe_15 : decode b_T_safe 15 = .ok (.istore_n 1, 1) := by decide +kernel
theorem d_T_safe_16 : decode b_T_safe 16 = .ok (.iconst 0, 1) := by decide +kernel
theorem d_T_safe_17 : decode b_T_safe 17 = .ok (.istore_n 2, 1) := by decide +kernel
theorem d_T_safe_18 : decode b_T_safe 18 = .ok (.iload_n 2, 1) := by decide +kernel
theorem d_T_safe_19 : decode b_T_safe 19 = .ok (.bipush 64, 2) := by decide +kernel
theorem d_T_safe_21 : decode b_T_safe 21 = .ok (.if_icmp .ge 59, 3) := by decide +kernel
theorem d_T_safe_24 : decode b_T_safe 24 = .ok (.aload_n 0, 1) := by decide +kernel
theorem d_T_safe_25 : decode b_T_safe 25 = .ok (.getfield 36, 3) := by decide +kernel
theorem d_T_safe_28 : decode b_T_safe 28 = .ok (.iload_n 2, 1) := by decide +kernel
theorem d_T_safe_29 : decode b_T_safe 29 = .ok (.invokevirtual 186, 3) := by decide +kernel
theorem d_T_safe_32 : decode b_T_safe 32 = .ok (.ifCond .eq 42, 3) := by decide +kernel
theorem d_T_safe_35 : decode b_T_safe 35 = .ok (.iload_n 2, 1) := by decide +kernel
theorem d_T_safe_36 : decode b_T_safe 36 = .ok (.invokestatic 189, 3) := by decide +kernel
theorem d_T_safe_39 : decode b_T_safe 39 = .ok (.iload_n 1, 1) := by decide +kernel
theorem d_T_safe_40 : decode b_T_safe 40 = .ok (.if_icmp .ge 34, 3) := by decide +kernel
theorem d_T_safe_43 : decode b_T_safe 43 = .ok (.aload_n 0, 1) := by decide +kernel
theorem d_T_safe_44 : decode b_T_safe 44 = .ok (.getfield 36, 3) := by decide +kernel
theorem d_T_safe_47 : decode b_T_safe 47 = .ok (.aload_n 0, 1) := by decide +kernel
theorem d_T_safe_48 : decode b_T_safe 48 = .ok (.getfield 36, 3) := by decide +kernel
theorem d_T_safe_51 : decode b_T_safe 51 = .ok (.getfield 166, 3) := by decide +kernel
theorem d_T_safe_54 : decode b_T_safe 54 = .ok (.iload_n 2, 1) := by decide +kernel
theorem d_T_safe_55 : decode b_T_safe 55 = .ok (.iconst (-1), 1) := by decide +kernel
theorem d_T_safe_56 : decode b_T_safe 56 = .ok (.ixor, 1) := by decide +kernel
theorem d_T_safe_57 : decode b_T_safe 57 = .ok (.iand, 1) := by decide +kernel
theorem d_T_safe_58 : decode b_T_safe 58 = .ok (.invokevirtual 180, 3) := by decide +kernel
theorem d_T_safe_61 : decode b_T_safe 61 = .ok (.ifCond .ne 13, 3) := by decide +kernel
theorem d_T_safe_64 : decode b_T_safe 64 = .ok (.iload_n 2, 1) := by decide +kernel
theorem d_T_safe_65 : decode b_T_safe 65 = .ok (.invokestatic 189, 3) := by decide +kernel
theorem d_T_safe_68 : decode b_T_safe 68 = .ok (.istore_n 1, 1) := by decide +kernel
theorem d_T_safe_69 : decode b_T_safe 69 = .ok (.aload_n 0, 1) := by decide +kernel
theorem d_T_safe_70 : decode b_T_safe 70 = .ok (.iload_n 2, 1) := by decide +kernel
theorem d_T_safe_71 : decode b_T_safe 71 = .ok (.putfield 88, 3) := by decide +kernel
theorem d_T_safe_74 : decode b_T_safe 74 = .ok (.iinc 2 1, 3) := by decide +kernel
theorem d_T_safe_77 : decode b_T_safe 77 = .ok (.goto (-59), 3) := by decide +kernel
theorem d_T_safe_80 : decode b_T_safe 80 = .ok (.iload_n 1, 1) := by decide +kernel
theorem d_T_safe_81 : decode b_T_safe 81 = .ok (.ireturn, 1) := by decide +kernel
theorem mo_T_safe : mok y_T_safe b_T_safe 3 (some .int) 0 := ⟨List.mem_of_getElem? (i := 725) (by decide +kernel), ⟨by decide +kernel, by decide +kernel, by decide +kernel⟩, List.mem_of_getElem? (i := 74) (by decide +kernel), by decide⟩
set_option maxHeartbeats 4000000 in
theorem L_T_safe_18 {X : FX} {u : Un} (hA : Ap u) {Q : State → Prop} (F : Fr X u "TakerBook" b_T_safe 3) {σ : St} {n G : Nat} {kd : Nat → Nat} (hb : bkOk σ n G kd) {L : Nat} (hL : σ.1 19 14 = nI L) (hL64 : L < 64) (k : V X u 7 3 Q 80 [(0, .ref (u.2.1 0)), (1, .int (nI ((itr (safeF σ G kd n L) (7, none) 64).1))), (2, .int (nI 64))] [] ((tdS σ (itr (safeF σ G kd n L) (7, none) 64).2))) : ∀ (nn s : Nat), s ≤ 64 → 64 - s < nn → V X u 7 3 Q 18 [(0, .ref (u.2.1 0)), (1, .int (nI ((itr (safeF σ G kd n L) (7, none) s).1))), (2, .int (nI s))] [] ((tdS σ (itr (safeF σ G kd n L) (7, none) s).2)) := by
  intro nn
  induction nn with
  | zero =>
    intro s h1 h2
    exact absurd h2 (Nat.not_lt_zero _)
  | succ nn ih =>
    intro s hii hnn
    obtain ⟨hn, hn6, hG, hG64, hkd, hk6⟩ := id hb
    have hfb := safeF_b (σ := σ) (G := G) (kd := kd) (n := n) (L := L) s hii
    have hpl : s < 64 → pcN s ≤ 6 := pc_le s
    refine v_iload_n F d_T_safe_18 rfl 2 rfl ?_
    refine v_bipush (v := 64) F d_T_safe_19 kb_64 ?_
    refine v_icmp_ge F 80 d_T_safe_21 rfl (fun h21 => ?_) (fun h21 => ?_)
    · skip
      have h21 : 64 ≤ s := (nI_leI (a := 64) (b := s) (by omega) (by omega)).mp h21
      have he : s = 64 := by omega
      subst he
      exact k
    · skip
      have h21 : ¬ 64 ≤ s := fun q => h21 ((nI_leI (a := 64) (b := s) (by omega) (by omega)).mpr q)
      refine v_aload_n F d_T_safe_24 rfl 0 rfl ?_
      refine v_getr (r := 19) F fk_T_36 G0 rfl d_T_safe_25 ?_
      refine v_iload_n F d_T_safe_28 rfl 2 rfl ?_
      refine v_runi (r_V F (c_B_isOfLeft X.2.1 u hA (tdS σ (itr (safeF σ G kd n L) (7, none) s).2) (by rw [tdS_k _ _ (by decide)]; exact hL) hL64 s (by omega)) mo_B_isOfLeft st_T_186 rc_19 (by decide) rfl (Nat.le_of_ble_eq_true rfl) d_T_safe_29) (fun r1 σ2 q3 => ?_)
      obtain ⟨rfl, rfl⟩ := q3
      refine v_bt F 74 d_T_safe_32 rfl (fun h32 => ?_) (fun h32 => ?_)
      · skip
        refine v_iinc (v := nI (s + 1)) (ls' := [(2, .int (nI (s + 1))), (0, .ref (u.2.1 0)), (1, .int (nI ((itr (safeF σ G kd n L) (7, none) s).1)))]) F d_T_safe_74 (j := 2) rfl (nI_inc _) (by decide) rfl ?_
        refine v_goto F 18 d_T_safe_77 rfl ?_
        refine v_sub [1, 2, 0] (ls' := [(0, .ref (u.2.1 0)), (1, .int (nI ((itr (safeF σ G kd n L) (7, none) s).1))), (2, .int (nI (s + 1)))]) rfl ?_
        have g4 : (nI ((itr (safeF σ G kd n L) (7, none) s).1)) = (nI ((itr (safeF σ G kd n L) (7, none) (s + 1)).1)) := (by first | rfl | (simp only [itr, safeF]; rw [if_pos ⟨(by first | assumption | omega), (by first | assumption | omega), (by first | assumption | omega)⟩]; first | done | rfl | (subst_vars; rfl) | (subst_vars; exact tdS_u _ _ _)) | (simp only [itr, safeF]; rw [if_neg (by rintro ⟨q0, q1, q2⟩; first | exact absurd q0 (by assumption) | exact q0 (by assumption) | exact absurd q1 (by assumption) | exact q1 (by assumption) | exact absurd q2 (by assumption) | exact q2 (by assumption) | omega)]))
        refine v_to (ls' := [(0, .ref (u.2.1 0)), (1, .int (nI ((itr (safeF σ G kd n L) (7, none) (s + 1)).1))), (2, .int (nI (s + 1)))]) (by first | rfl | rw [g4] | simp_all) ?_
        refine v_st (show (tdS σ (itr (safeF σ G kd n L) (7, none) s).2) = (tdS σ (itr (safeF σ G kd n L) (7, none) (s + 1)).2) from (by first | rfl | (simp only [itr, safeF]; rw [if_pos ⟨(by first | assumption | omega), (by first | assumption | omega), (by first | assumption | omega)⟩]; first | done | rfl | (subst_vars; rfl) | (subst_vars; exact tdS_u _ _ _)) | (simp only [itr, safeF]; rw [if_neg (by rintro ⟨q0, q1, q2⟩; first | exact absurd q0 (by assumption) | exact q0 (by assumption) | exact absurd q1 (by assumption) | exact q1 (by assumption) | exact absurd q2 (by assumption) | exact q2 (by assumption) | omega)]))) ?_
        exact ih (s + 1) (by omega) (by omega)
      · skip
        refine v_iload_n F d_T_safe_35 rfl 2 rfl ?_
        refine v_runi (r_S F (c_I_bitCount X.2.1 u hA (tdS σ (itr (safeF σ G kd n L) (7, none) s).2) s (by omega)) mo_I_bitCount st_T_189 (by decide) rfl (Nat.le_of_ble_eq_true rfl) d_T_safe_36) (fun r5 σ6 q7 => ?_)
        obtain ⟨rfl, rfl⟩ := q7
        refine v_iload_n F d_T_safe_39 rfl 1 rfl ?_
        refine v_icmp_ge F 74 d_T_safe_40 rfl (fun h40 => ?_) (fun h40 => ?_)
        · skip
          have h40 : (itr (safeF σ G kd n L) (7, none) s).1 ≤ pcN s := (nI_leI (a := (itr (safeF σ G kd n L) (7, none) s).1) (b := pcN s) (by omega) (by omega)).mp h40
          refine v_iinc (v := nI (s + 1)) (ls' := [(2, .int (nI (s + 1))), (0, .ref (u.2.1 0)), (1, .int (nI ((itr (safeF σ G kd n L) (7, none) s).1)))]) F d_T_safe_74 (j := 2) rfl (nI_inc _) (by decide) rfl ?_
          refine v_goto F 18 d_T_safe_77 rfl ?_
          refine v_sub [1, 2, 0] (ls' := [(0, .ref (u.2.1 0)), (1, .int (nI ((itr (safeF σ G kd n L) (7, none) s).1))), (2, .int (nI (s + 1)))]) rfl ?_
          have g8 : (nI ((itr (safeF σ G kd n L) (7, none) s).1)) = (nI ((itr (safeF σ G kd n L) (7, none) (s + 1)).1)) := (by first | rfl | (simp only [itr, safeF]; rw [if_pos ⟨(by first | assumption | omega), (by first | assumption | omega), (by first | assumption | omega)⟩]; first | done | rfl | (subst_vars; rfl) | (subst_vars; exact tdS_u _ _ _)) | (simp only [itr, safeF]; rw [if_neg (by rintro ⟨q0, q1, q2⟩; first | exact absurd q0 (by assumption) | exact q0 (by assumption) | exact absurd q1 (by assumption) | exact q1 (by assumption) | exact absurd q2 (by assumption) | exact q2 (by assumption) | omega)]))
          refine v_to (ls' := [(0, .ref (u.2.1 0)), (1, .int (nI ((itr (safeF σ G kd n L) (7, none) (s + 1)).1))), (2, .int (nI (s + 1)))]) (by first | rfl | rw [g8] | simp_all) ?_
          refine v_st (show (tdS σ (itr (safeF σ G kd n L) (7, none) s).2) = (tdS σ (itr (safeF σ G kd n L) (7, none) (s + 1)).2) from (by first | rfl | (simp only [itr, safeF]; rw [if_pos ⟨(by first | assumption | omega), (by first | assumption | omega), (by first | assumption | omega)⟩]; first | done | rfl | (subst_vars; rfl) | (subst_vars; exact tdS_u _ _ _)) | (simp only [itr, safeF]; rw [if_neg (by rintro ⟨q0, q1, q2⟩; first | exact absurd q0 (by assumption) | exact q0 (by assumption) | exact absurd q1 (by assumption) | exact q1 (by assumption) | exact absurd q2 (by assumption) | exact q2 (by assumption) | omega)]))) ?_
          exact ih (s + 1) (by omega) (by omega)
        · skip
          have h40 : ¬ (itr (safeF σ G kd n L) (7, none) s).1 ≤ pcN s := fun q => h40 ((nI_leI (a := (itr (safeF σ G kd n L) (7, none) s).1) (b := pcN s) (by omega) (by omega)).mpr q)
          refine v_aload_n F d_T_safe_43 rfl 0 rfl ?_
          refine v_getr (r := 19) F fk_T_36 G0 rfl d_T_safe_44 ?_
          refine v_aload_n F d_T_safe_47 rfl 0 rfl ?_
          refine v_getr (r := 19) F fk_T_36 G0 rfl d_T_safe_48 ?_
          refine v_geti F fk_T_166 G19 rfl d_T_safe_51 ?_
          refine v_te (y := nI L) (by rw [tdS_k _ _ (by decide)]; exact hL) ?_
          refine v_iload_n F d_T_safe_54 rfl 2 rfl ?_
          refine v_iconst (v := (-1)) F d_T_safe_55 ki_m1 ?_
          refine v_ixor F d_T_safe_56 ?_
          refine v_iand F d_T_safe_57 ?_
          refine v_te (y := nI (L &&& (63 ^^^ s))) (sub6 hL64 (by omega)) ?_
          refine v_runi (r_V F (c_B_wouldBeTried X.2.1 u hA (tdS σ (itr (safeF σ G kd n L) (7, none) s).2) (tdS_ok hb) (L &&& (63 ^^^ s)) (and_lt hL64)) mo_B_wouldBeTried st_T_180 rc_19 (by decide) rfl (Nat.le_of_ble_eq_true rfl) d_T_safe_58) (fun r9 σ10 q11 => ?_)
          obtain ⟨rfl, rfl⟩ := q11
          refine v_bf F 74 d_T_safe_61 rfl (fun h61 => ?_) (fun h61 => ?_)
          · skip
            rw [tkS_td, tdS_k _ _ (by decide)] at h61
            refine v_iinc (v := nI (s + 1)) (ls' := [(2, .int (nI (s + 1))), (0, .ref (u.2.1 0)), (1, .int (nI ((itr (safeF σ G kd n L) (7, none) s).1)))]) F d_T_safe_74 (j := 2) rfl (nI_inc _) (by decide) rfl ?_
            refine v_goto F 18 d_T_safe_77 rfl ?_
            refine v_sub [1, 2, 0] (ls' := [(0, .ref (u.2.1 0)), (1, .int (nI ((itr (safeF σ G kd n L) (7, none) s).1))), (2, .int (nI (s + 1)))]) rfl ?_
            have g12 : (nI ((itr (safeF σ G kd n L) (7, none) s).1)) = (nI ((itr (safeF σ G kd n L) (7, none) (s + 1)).1)) := (by first | rfl | (simp only [itr, safeF]; rw [if_pos ⟨(by first | assumption | omega), (by first | assumption | omega), (by first | assumption | omega)⟩]; first | done | rfl | (subst_vars; rfl) | (subst_vars; exact tdS_u _ _ _)) | (simp only [itr, safeF]; rw [if_neg (by rintro ⟨q0, q1, q2⟩; first | exact absurd q0 (by assumption) | exact q0 (by assumption) | exact absurd q1 (by assumption) | exact q1 (by assumption) | exact absurd q2 (by assumption) | exact q2 (by assumption) | omega)]))
            refine v_to (ls' := [(0, .ref (u.2.1 0)), (1, .int (nI ((itr (safeF σ G kd n L) (7, none) (s + 1)).1))), (2, .int (nI (s + 1)))]) (by first | rfl | rw [g12] | simp_all) ?_
            refine v_st (show (tdS σ (itr (safeF σ G kd n L) (7, none) s).2) = (tdS σ (itr (safeF σ G kd n L) (7, none) (s + 1)).2) from (by first | rfl | (simp only [itr, safeF]; rw [if_pos ⟨(by first | assumption | omega), (by first | assumption | omega), (by first | assumption | omega)⟩]; first | done | rfl | (subst_vars; rfl) | (subst_vars; exact tdS_u _ _ _)) | (simp only [itr, safeF]; rw [if_neg (by rintro ⟨q0, q1, q2⟩; first | exact absurd q0 (by assumption) | exact q0 (by assumption) | exact absurd q1 (by assumption) | exact q1 (by assumption) | exact absurd q2 (by assumption) | exact q2 (by assumption) | omega)]))) ?_
            exact ih (s + 1) (by omega) (by omega)
          · skip
            rw [tkS_td, tdS_k _ _ (by decide)] at h61
            refine v_iload_n F d_T_safe_64 rfl 2 rfl ?_
            refine v_runi (r_S F (c_I_bitCount X.2.1 u hA (tdS σ (itr (safeF σ G kd n L) (7, none) s).2) s (by omega)) mo_I_bitCount st_T_189 (by decide) rfl (Nat.le_of_ble_eq_true rfl) d_T_safe_65) (fun r13 σ14 q15 => ?_)
            obtain ⟨rfl, rfl⟩ := q15
            refine v_istore_n (ls' := [(1, .int (nI (pcN s))), (0, .ref (u.2.1 0)), (2, .int (nI s))]) F d_T_safe_68 rfl (by decide) rfl ?_
            refine v_aload_n F d_T_safe_69 rfl 1 rfl ?_
            refine v_iload_n F d_T_safe_70 rfl 2 rfl ?_
            refine v_puti F fk_T_88 pk_T_told G0 rfl d_T_safe_71 ?_
            refine v_ns (fun σ16 eσ16 => ?_)
            refine v_iinc (v := nI (s + 1)) (ls' := [(2, .int (nI (s + 1))), (1, .int (nI (pcN s))), (0, .ref (u.2.1 0))]) F d_T_safe_74 (j := 2) rfl (nI_inc _) (by decide) rfl ?_
            refine v_goto F 18 d_T_safe_77 rfl ?_
            refine v_sub [2, 1, 0] (ls' := [(0, .ref (u.2.1 0)), (1, .int (nI (pcN s))), (2, .int (nI (s + 1)))]) rfl ?_
            have g17 : (nI (pcN s)) = (nI ((itr (safeF σ G kd n L) (7, none) (s + 1)).1)) := (by first | rfl | (simp only [itr, safeF]; rw [if_pos ⟨(by first | assumption | omega), (by first | assumption | omega), (by first | assumption | omega)⟩]; first | done | rfl | (subst_vars; rfl) | (subst_vars; exact tdS_u _ _ _)) | (simp only [itr, safeF]; rw [if_neg (by rintro ⟨q0, q1, q2⟩; first | exact absurd q0 (by assumption) | exact q0 (by assumption) | exact absurd q1 (by assumption) | exact q1 (by assumption) | exact absurd q2 (by assumption) | exact q2 (by assumption) | omega)]))
            refine v_to (ls' := [(0, .ref (u.2.1 0)), (1, .int (nI ((itr (safeF σ G kd n L) (7, none) (s + 1)).1))), (2, .int (nI (s + 1)))]) (by first | rfl | rw [g17] | simp_all) ?_
            refine v_st (show σ16 = (tdS σ (itr (safeF σ G kd n L) (7, none) (s + 1)).2) from (by first | rfl | (simp only [itr, safeF]; rw [if_pos ⟨(by first | assumption | omega), (by first | assumption | omega), (by first | assumption | omega)⟩]; first | done | rfl | (subst_vars; rfl) | (subst_vars; exact tdS_u _ _ _)) | (simp only [itr, safeF]; rw [if_neg (by rintro ⟨q0, q1, q2⟩; first | exact absurd q0 (by assumption) | exact q0 (by assumption) | exact absurd q1 (by assumption) | exact q1 (by assumption) | exact absurd q2 (by assumption) | exact q2 (by assumption) | omega)]))) ?_
            exact ih (s + 1) (by omega) (by omega)
set_option maxHeartbeats 4000000 in
theorem c_T_safe (l : Launch) (u : Un) (hA : Ap u) (σ : St) {n G : Nat} {kd : Nat → Nat} (hb : bkOk σ n G kd) {L : Nat} (hL : σ.1 19 14 = nI L) (hL64 : L < 64) : MTi l u y_T_safe b_T_safe 3 .int 7 [.ref (u.2.1 0)] σ (fun ans σ' => (ans, σ') = tSafe σ G kd n L) := by
  refine MT_of hA rfl (by decide) (Nat.le_of_ble_eq_true rfl) (fun X hl F hr => ?_)
  subst hl
  refine v_to (ls' := [(0, .ref (u.2.1 0))]) rfl ?_
  obtain ⟨hn, hn6, hG, hG64, hkd, hk6⟩ := id hb
  refine v_aload_n F d_T_safe_0 rfl 0 rfl ?_
  refine v_getr (r := 19) F fk_T_36 G0 rfl d_T_safe_1 ?_
  refine v_geti F fk_T_118 G19 rfl d_T_safe_4 ?_
  refine v_te (y := nI n) hn ?_
  refine v_if_ne F 13 d_T_safe_7 rfl (fun h7 => ?_) (fun h7 => ?_)
  · skip
    have h7 : ¬ n = 0 := fun q => h7 ((nI_eq (a := n) (b := 0) (by omega) (by omega)).mpr q)
    refine v_bipush (v := 7) F d_T_safe_13 kb_7 ?_
    refine v_istore_n (ls' := [(1, .int 7), (0, .ref (u.2.1 0))]) F d_T_safe_15 rfl (by decide) rfl ?_
    refine v_iconst (v := 0) F d_T_safe_16 ki_0 ?_
    refine v_istore_n (ls' := [(2, .int 0), (1, .int 7), (0, .ref (u.2.1 0))]) F d_T_safe_17 rfl (by decide) rfl ?_
    refine v_sub [2, 1, 0] (ls' := [(0, .ref (u.2.1 0)), (1, .int 7), (2, .int 0)]) rfl ?_
    have g1 : 7 = (nI ((itr (safeF σ G kd n L) (7, none) 0).1)) := (by first | rfl | (simp only [itr, safeF]; rw [if_pos ⟨(by first | assumption | omega), (by first | assumption | omega), (by first | assumption | omega)⟩]; first | done | rfl | (subst_vars; rfl) | (subst_vars; exact tdS_u _ _ _)) | (simp only [itr, safeF]; rw [if_neg (by rintro ⟨q0, q1, q2⟩; first | exact absurd q0 (by assumption) | exact q0 (by assumption) | exact absurd q1 (by assumption) | exact q1 (by assumption) | exact absurd q2 (by assumption) | exact q2 (by assumption) | omega)]))
    have g2 : 0 = (nI 0) := (by first | rfl | (simp only [itr, safeF]; rw [if_pos ⟨(by first | assumption | omega), (by first | assumption | omega), (by first | assumption | omega)⟩]; first | done | rfl | (subst_vars; rfl) | (subst_vars; exact tdS_u _ _ _)) | (simp only [itr, safeF]; rw [if_neg (by rintro ⟨q0, q1, q2⟩; first | exact absurd q0 (by assumption) | exact q0 (by assumption) | exact absurd q1 (by assumption) | exact q1 (by assumption) | exact absurd q2 (by assumption) | exact q2 (by assumption) | omega)]))
    refine v_to (ls' := [(0, .ref (u.2.1 0)), (1, .int (nI ((itr (safeF σ G kd n L) (7, none) 0).1))), (2, .int (nI 0))]) (by first | rfl | rw [g1, g2] | simp_all) ?_
    refine v_st (show σ = (tdS σ (itr (safeF σ G kd n L) (7, none) 0).2) from (by first | rfl | (simp only [itr, safeF]; rw [if_pos ⟨(by first | assumption | omega), (by first | assumption | omega), (by first | assumption | omega)⟩]; first | done | rfl | (subst_vars; rfl) | (subst_vars; exact tdS_u _ _ _)) | (simp only [itr, safeF]; rw [if_neg (by rintro ⟨q0, q1, q2⟩; first | exact absurd q0 (by assumption) | exact q0 (by assumption) | exact absurd q1 (by assumption) | exact q1 (by assumption) | exact absurd q2 (by assumption) | exact q2 (by assumption) | omega)]))) ?_
    refine L_T_safe_18 hA F hb hL hL64 ?_ _ 0 (Nat.zero_le _) (Nat.lt_succ_self _)
    refine v_iload_n F d_T_safe_80 rfl 1 rfl ?_
    refine v_iret F hr rfl d_T_safe_81 ?_
    first | (simp_all [tSafe]; done) | (simp_all [tSafe]; grind)
  · skip
    have h7 : n = 0 := (nI_eq (a := n) (b := 0) (by omega) (by omega)).mp h7
    refine v_bipush (v := (-4)) F d_T_safe_10 kb_m4 ?_
    refine v_iret F hr rfl d_T_safe_12 ?_
    first | (simp_all [tSafe]; done) | (simp_all [tSafe]; grind)
abbrev b_T_total : ByteArray := prog_1_method_65_code
abbrev y_T_total : MethodName := ⟨"TakerBook", "total", "(I[I)I"⟩
theorem d_T_total_0 : decode b_T_total 0 = .ok (.iconst 0, 1) := by decide +kernel
theorem d_T_total_1 : decode b_T_total 1 = .ok (.istore_n 2, 1) := by decide +kernel
theorem d_T_total_2 : decode b_T_total 2 = .ok (.iconst 0, 1) := by decide +kernel
theorem d_T_total_3 : decode b_T_total 3 = .ok (.istore_n 3, 1) := by decide +kernel
theorem d_T_total_4 : decode b_T_total 4 = .ok (.iload_n 3, 1) := by decide +kernel
theorem d_T_total_5 : decode b_T_total 5 = .ok (.bipush 6, 2) := by decide +kernel
theorem d_T_total_7 : decode b_T_total 7 = .ok (.if_icmp .ge 23, 3) := by decide +kernel
theorem d_T_total_10 : decode b_T_total 10 = .ok (.iload_n 3, 1) := by decide +kernel
theorem d_T_total_11 : decode b_T_total 11 = .ok (.iload_n 0, 1) := by decide +kernel
theorem d_T_total_12 : decode b_T_total 12 = .ok (.invokestatic 169, 3) := by decide +kernel
theorem d_T_total_15 : decode b_T_total 15 = .ok (.ifCond .eq 9, 3) := by decide +kernel
theorem d_T_total_18 : decode b_T_total 18 = .ok (.iload_n 2, 1) := by decide +kernel
theorem d_T_total_19 : decode b_T_total 19 = .ok (.aload_n 1, 1) := by decide +kernel
theorem d_T_total_20 : decode b_T_total 20 = .ok (.iload_n 3, 1) := by decide +kernel
theorem d_T_total_21 : decode b_T_total 21 = .ok (.iaload, 1) := by decide +kernel
theorem d_T_total_22 : decode b_T_total 22 = .ok (.iadd, 1) := by decide +kernel
theorem d_T_total_23 : decode b_T_total 23 = .ok (.istore_n 2, 1) := by decide +kernel
theorem d_T_total_24 : decode b_T_total 24 = .ok (.iinc 3 1, 3) := by decide +kernel
theorem d_T_total_27 : decode b_T_total 27 = .ok (.goto (-23), 3) := by decide +kernel
theorem d_T_total_30 : decode b_T_total 30 = .ok (.iload_n 2, 1) := by decide +kernel
theorem d_T_total_31 : decode b_T_total 31 = .ok (.ireturn, 1) := by decide +kernel
theorem mo_T_total : mok y_T_total b_T_total 4 (some .int) 2 := ⟨List.mem_of_getElem? (i := 762) (by decide +kernel), ⟨by decide +kernel, by decide +kernel, by decide +kernel⟩, List.mem_of_getElem? (i := 74) (by decide +kernel), by decide⟩
set_option maxHeartbeats 4000000 in
theorem L_T_total_4 {X : FX} {u : Un} (hA : Ap u) {Q : State → Prop} (F : Fr X u "TakerBook" b_T_total 4) {σ : St} {s kc : Nat} (hk : nowOk kc) (hs : s < 64) (k : V X u 1 4 Q 30 [(0, .int (nI s)), (1, .ref (u.2.1 kc)), (2, .int (totF (σ.1 kc) s 6)), (3, .int (nI 6))] [] (σ)) : ∀ (nn i : Nat), i ≤ 6 → 6 - i < nn → V X u 1 4 Q 4 [(0, .int (nI s)), (1, .ref (u.2.1 kc)), (2, .int (totF (σ.1 kc) s i)), (3, .int (nI i))] [] (σ) := by
  intro nn
  induction nn with
  | zero =>
    intro i h1 h2
    exact absurd h2 (Nat.not_lt_zero _)
  | succ nn ih =>
    intro i hii hnn
    refine v_iload_n F d_T_total_4 rfl 3 rfl ?_
    refine v_bipush (v := 6) F d_T_total_5 kb_6 ?_
    refine v_icmp_ge F 30 d_T_total_7 rfl (fun h7 => ?_) (fun h7 => ?_)
    · skip
      have h7 : 6 ≤ i := (nI_leI (a := 6) (b := i) (by omega) (by omega)).mp h7
      have he : i = 6 := by omega
      subst he
      exact k
    · skip
      have h7 : ¬ 6 ≤ i := fun q => h7 ((nI_leI (a := 6) (b := i) (by omega) (by omega)).mpr q)
      refine v_iload_n F d_T_total_10 rfl 3 rfl ?_
      refine v_iload_n F d_T_total_11 rfl 0 rfl ?_
      refine v_runi (r_S F (c_T_isIn2 X.2.1 u hA σ i s (by omega) (by omega)) mo_T_isIn st_T_169 (by decide) rfl (Nat.le_of_ble_eq_true rfl) d_T_total_12) (fun r1 σ2 q3 => ?_)
      obtain ⟨rfl, rfl⟩ := q3
      refine v_bt F 24 d_T_total_15 rfl (fun h15 => ?_) (fun h15 => ?_)
      · skip
        refine v_iinc (v := nI (i + 1)) (ls' := [(3, .int (nI (i + 1))), (0, .int (nI s)), (1, .ref (u.2.1 kc)), (2, .int (totF (σ.1 kc) s i))]) F d_T_total_24 (j := 3) rfl (nI_inc _) (by decide) rfl ?_
        refine v_goto F 4 d_T_total_27 rfl ?_
        refine v_sub [1, 2, 3, 0] (ls' := [(0, .int (nI s)), (1, .ref (u.2.1 kc)), (2, .int (totF (σ.1 kc) s i)), (3, .int (nI (i + 1)))]) rfl ?_
        have g4 : (totF (σ.1 kc) s i) = (totF (σ.1 kc) s (i + 1)) := (by first | rfl | (simp [totF, *]; done) | (simp_all [totF]; done) | grind [totF])
        refine v_to (ls' := [(0, .int (nI s)), (1, .ref (u.2.1 kc)), (2, .int (totF (σ.1 kc) s (i + 1))), (3, .int (nI (i + 1)))]) (by first | rfl | rw [g4] | simp_all) ?_
        exact ih (i + 1) (by omega) (by omega)
      · skip
        refine v_iload_n F d_T_total_18 rfl 2 rfl ?_
        refine v_aload_n F d_T_total_19 rfl 1 rfl ?_
        refine v_iload_n F d_T_total_20 rfl 3 rfl ?_
        refine v_ial F i hk.gam rfl (by omega) d_T_total_21 ?_
        refine v_iadd F d_T_total_22 ?_
        refine v_ni (fun x5 ex5 => ?_)
        refine v_istore_n (ls' := [(2, .int x5), (0, .int (nI s)), (1, .ref (u.2.1 kc)), (3, .int (nI i))]) F d_T_total_23 rfl (by decide) rfl ?_
        refine v_iinc (v := nI (i + 1)) (ls' := [(3, .int (nI (i + 1))), (2, .int x5), (0, .int (nI s)), (1, .ref (u.2.1 kc))]) F d_T_total_24 (j := 3) rfl (nI_inc _) (by decide) rfl ?_
        refine v_goto F 4 d_T_total_27 rfl ?_
        refine v_sub [2, 3, 1, 0] (ls' := [(0, .int (nI s)), (1, .ref (u.2.1 kc)), (2, .int x5), (3, .int (nI (i + 1)))]) rfl ?_
        have g6 : x5 = (totF (σ.1 kc) s (i + 1)) := (by first | rfl | (simp [totF, *]; done) | (simp_all [totF]; done) | grind [totF])
        refine v_to (ls' := [(0, .int (nI s)), (1, .ref (u.2.1 kc)), (2, .int (totF (σ.1 kc) s (i + 1))), (3, .int (nI (i + 1)))]) (by first | rfl | rw [g6] | simp_all) ?_
        exact ih (i + 1) (by omega) (by omega)
set_option maxHeartbeats 4000000 in
theorem c_T_total (l : Launch) (u : Un) (hA : Ap u) (σ : St) {s kc : Nat} (hk : nowOk kc) (hs : s < 64) : MTi l u y_T_total b_T_total 4 .int 1 [.int (nI s), .ref (u.2.1 kc)] σ (fun ans σ' => totF (σ.1 kc) s 6 = ans ∧ σ = σ') := by
  refine MT_of hA rfl (by decide) (Nat.le_of_ble_eq_true rfl) (fun X hl F hr => ?_)
  subst hl
  refine v_to (ls' := [(0, .int (nI s)), (1, .ref (u.2.1 kc))]) rfl ?_
  refine v_iconst (v := 0) F d_T_total_0 ki_0 ?_
  refine v_istore_n (ls' := [(2, .int 0), (0, .int (nI s)), (1, .ref (u.2.1 kc))]) F d_T_total_1 rfl (by decide) rfl ?_
  refine v_iconst (v := 0) F d_T_total_2 ki_0 ?_
  refine v_istore_n (ls' := [(3, .int 0), (2, .int 0), (0, .int (nI s)), (1, .ref (u.2.1 kc))]) F d_T_total_3 rfl (by decide) rfl ?_
  refine v_sub [2, 3, 1, 0] (ls' := [(0, .int (nI s)), (1, .ref (u.2.1 kc)), (2, .int 0), (3, .int 0)]) rfl ?_
  have g1 : 0 = (totF (σ.1 kc) s 0) := (by first | rfl | (simp [totF, *]; done) | (simp_all [totF]; done) | grind [totF])
  have g2 : 0 = (nI 0) := (by first | rfl | (simp [totF, *]; done) | (simp_all [totF]; done) | grind [totF])
  refine v_to (ls' := [(0, .int (nI s)), (1, .ref (u.2.1 kc)), (2, .int (totF (σ.1 kc) s 0)), (3, .int (nI 0))]) (by first | rfl | rw [g1, g2] | simp_all) ?_
  refine L_T_total_4 hA F hk hs ?_ _ 0 (Nat.zero_le _) (Nat.lt_succ_self _)
  refine v_iload_n F d_T_total_30 rfl 2 rfl ?_
  refine v_iret F hr rfl d_T_total_31 ?_
  exact ⟨rfl, rfl⟩
abbrev b_T_heads : ByteArray := prog_1_method_24_code
abbrev y_T_heads : MethodName := ⟨"TakerBook", "heads", "(I)I"⟩
theorem d_T_heads_0 : decode b_T_heads 0 = .ok (.iload_n 1, 1) := by decide +kernel
theorem d_T_heads_1 : decode b_T_heads 1 = .ok (.ifCond .lt 9, 3) := by decide +kernel
theorem d_T_heads_4 : decode b_T_heads 4 = .ok (.iload_n 1, 1) := by decide +kernel
theorem d_T_heads_5 : decode b_T_heads 5 = .ok (.bipush 6, 2) := by decide +kernel
theorem d_T_heads_7 : decode b_T_heads 7 = .ok (.if_icmp .le 5, 3) := by decide +kernel
theorem d_T_heads_10 : decode b_T_heads 10 = .ok (.iconst (-1), 1) := by decide +kernel
theorem d_T_heads_11 : decode b_T_heads 11 = .ok (.ireturn, 1) := by decide +kernel
theorem d_T_heads_12 : decode b_T_heads 12 = .ok (.aload_n 0, 1) := by decide +kernel
theorem d_T_heads_13 : decode b_T_heads 13 = .ok (.getfield 36, 3) := by decide +kernel
theorem d_T_heads_16 : decode b_T_heads 16 = .ok (.getfield 118, 3) := by decide +kernel
theorem d_T_heads_19 : decode b_T_heads 19 = .ok (.ifCond .ne 6, 3) := by decide +kernel
theorem d_T_heads_22 : decode b_T_heads 22 = .ok (.bipush (-4), 2) := by decide +kernel
theorem d_T_heads_24 : decode b_T_heads 24 = .ok (.ireturn, 1) := by decide +kernel
theorem d_T_heads_25 : decode b_T_heads 25 = .ok (.aload_n 0, 1) := by decide +kernel
theorem d_T_heads_26 : decode b_T_heads 26 = .ok (.getfield 36, 3) := by decide +kernel
theorem d_T_heads_29 : decode b_T_heads 29 = .ok (.getfield 166, 3) := by decide +kernel
theorem d_T_heads_32 : decode b_T_heads 32 = .ok (.invokestatic 189, 3) := by decide +kernel
theorem d_T_heads_35 : decode b_T_heads 35 = .ok (.iload_n 1, 1) := by decide +kernel
theorem d_T_heads_36 : decode b_T_heads 36 = .ok (.if_icmp .ge 6, 3) := by decide +kernel
theorem d_T_heads_39 : decode b_T_heads 39 = .ok (.bipush (-9), 2) := by decide +kernel
theorem d_T_heads_41 : decode b_T_heads 41 = .ok (.ireturn, 1) := by decide +kernel
theorem d_T_heads_42 : decode b_T_heads 42 = .ok (.aload_n 0, 1) := by decide +kernel
theorem d_T_heads_43 : decode b_T_heads 43 = .ok (.getfield 36, 3) := by decide +kernel
theorem d_T_heads_46 : decode b_T_heads 46 = .ok (.invokevirtual 204, 3) := by decide +kernel
theorem d_T_heads_49 : decode b_T_heads 49 = .ok (.iconst (-1), 1) := by decide +kernel
theorem d_T_heads_50 : decode b_T_heads 50 = .ok (.istore_n 2, 1) := by decide +kernel
theorem d_T_heads_51 : decode b_T_heads 51 = .ok (.iconst 0, 1) := by decide +kernel
theorem d_T_heads_52 : decode b_T_heads 52 = .ok (.istore_n 3, 1) := by decide +kernel
theorem d_T_heads_53 : decode b_T_heads 53 = .ok (.iload_n 3, 1) := by decide +kernel
theorem d_T_heads_54 : decode b_T_heads 54 = .ok (.bipush 64, 2) := by decide +kernel
theorem d_T_heads_56 : decode b_T_heads 56 = .ok (.if_icmp .ge 60, 3) := by decide +kernel
theorem d_T_heads_59 : decode b_T_heads 59 = .ok (.aload_n 0, 1) := by decide +kernel
theorem d_T_heads_60 : decode b_T_heads 60 = .ok (.getfield 36, 3) := by decide +kernel
theorem d_T_heads_63 : decode b_T_heads 63 = .ok (.iload_n 3, 1) := by decide +kernel
theorem d_T_heads_64 : decode b_T_heads 64 = .ok (.invokevirtual 186, 3) := by decide +kernel
theorem d_T_heads_67 : decode b_T_heads 67 = .ok (.ifCond .eq 43, 3) := by decide +kernel
theorem d_T_heads_70 : decode b_T_heads 70 = .ok (.iload_n 3, 1) := by decide +kernel
theorem d_T_heads_71 : decode b_T_heads 71 = .ok (.invokestatic 189, 3) := by decide +kernel
theorem d_T_heads_74 : decode b_T_heads 74 = .ok (.iload_n 1, 1) := by decide +kernel
theorem d_T_heads_75 : decode b_T_heads 75 = .ok (.if_icmp .ne 35, 3) := by decide +kernel
theorem d_T_heads_78 : decode b_T_heads 78 = .ok (.iload_n 3, 1) := by decide +kernel
theorem d_T_heads_79 : decode b_T_heads 79 = .ok (.aload_n 0, 1) := by decide +kernel
theorem d_T_heads_80 : decode b_T_heads 80 = .ok (.getfield 36, 3) := by decide +kernel
theorem d_T_heads_83 : decode b_T_heads 83 = .ok (.getfield 207, 3) := by decide +kernel
theorem d_T_heads_86 : decode b_T_heads 86 = .ok (.invokestatic 210, 3) := by decide +kernel
theorem d_T_heads_89 : decode b_T_heads 89 = .ok (.iload_n 2, 1) := by decide +kernel
theorem d_T_heads_90 : decode b_T_heads 90 = .ok (.if_icmp .le 20, 3) := by decide +kernel
theorem d_T_heads_93 : decode b_T_heads 93 = .ok (.iload_n 3, 1) := by decide +kernel
theorem d_T_heads_94 : decode b_T_heads 94 = .ok (.aload_n 0, 1) := by decide +kernel
theorem d_T_heads_95 : decode b_T_heads 95 = .ok (.getfield 36, 3) := by decide +kernel
theorem d_T_heads_98 : decode b_T_heads 98 = .ok (.getfield 207, 3) := by decide +kernel
theorem d_T_heads_101 : decode b_T_heads 101 = .ok (.invokestatic 210, 3) := by decide +kernel
theorem d_T_heads_104 : decode b_T_heads 104 = .ok (.istore_n 2, 1) := by decide +kernel
theorem d_T_heads_105 : decode b_T_heads 105 = .ok (.aload_n 0, 1) := by decide +kernel
theorem d_T_heads_106 : decode b_T_heads 106 = .ok (.iload_n 3, 1) := by decide +kernel
theorem d_T_heads_107 : decode b_T_heads 107 = .ok (.putfield 88, 3) := by decide +kernel
theorem d_T_heads_110 : decode b_T_heads 110 = .ok (.iinc 3 1, 3) := by decide +kernel
theorem d_T_heads_113 : decode b_T_heads 113 = .ok (.goto (-60), 3) := by decide +kernel
theorem d_T_heads_116 : decode b_T_heads 116 = .ok (.iload_n 2, 1) := by decide +kernel
theorem d_T_heads_117 : decode b_T_heads 117 = .ok (.ireturn, 1) := by decide +kernel
theorem mo_T_heads : mok y_T_heads b_T_heads 4 (some .int) 1 := ⟨List.mem_of_getElem? (i := 755) (by decide +kernel), ⟨by decide +kernel, by decide +kernel, by decide +kernel⟩, List.mem_of_getElem? (i := 74) (by decide +kernel), by decide⟩
set_option maxHeartbeats 4000000 in
theorem L_T_heads_53 {X : FX} {u : Un} (hA : Ap u) {Q : State → Prop} (F : Fr X u "TakerBook" b_T_heads 4) {σ : St} {n G : Nat} {kd : Nat → Nat} (hb : bkOk σ n G kd) {L : Nat} (hL : σ.1 19 14 = nI L) (hL64 : L < 64) {m : Nat} (hm : m ≤ 6) (k : V X u 7 4 Q 116 [(0, .ref (u.2.1 0)), (1, .int (nI m)), (2, .int ((itr (headF (wgd σ G kd n L) m L) (-1, none) 64).1)), (3, .int (nI 64))] [] ((tdS (wgd σ G kd n L) (itr (headF (wgd σ G kd n L) m L) (-1, none) 64).2))) : ∀ (nn s : Nat), s ≤ 64 → 64 - s < nn → V X u 7 4 Q 53 [(0, .ref (u.2.1 0)), (1, .int (nI m)), (2, .int ((itr (headF (wgd σ G kd n L) m L) (-1, none) s).1)), (3, .int (nI s))] [] ((tdS (wgd σ G kd n L) (itr (headF (wgd σ G kd n L) m L) (-1, none) s).2)) := by
  intro nn
  induction nn with
  | zero =>
    intro s h1 h2
    exact absurd h2 (Nat.not_lt_zero _)
  | succ nn ih =>
    intro s hii hnn
    obtain ⟨hn, hn6, hG, hG64, hkd, hk6⟩ := id hb
    have hpl : s < 64 → pcN s ≤ 6 := pc_le s
    refine v_iload_n F d_T_heads_53 rfl 3 rfl ?_
    refine v_bipush (v := 64) F d_T_heads_54 kb_64 ?_
    refine v_icmp_ge F 116 d_T_heads_56 rfl (fun h56 => ?_) (fun h56 => ?_)
    · skip
      have h56 : 64 ≤ s := (nI_leI (a := 64) (b := s) (by omega) (by omega)).mp h56
      have he : s = 64 := by omega
      subst he
      exact k
    · skip
      have h56 : ¬ 64 ≤ s := fun q => h56 ((nI_leI (a := 64) (b := s) (by omega) (by omega)).mpr q)
      refine v_aload_n F d_T_heads_59 rfl 0 rfl ?_
      refine v_getr (r := 19) F fk_T_36 G0 rfl d_T_heads_60 ?_
      refine v_iload_n F d_T_heads_63 rfl 3 rfl ?_
      refine v_runi (r_V F (c_B_isOfLeft X.2.1 u hA (tdS (wgd σ G kd n L) (itr (headF (wgd σ G kd n L) m L) (-1, none) s).2) (by rw [tdS_k _ _ (by decide), wgd_k _ _ _ _ _ (by decide) (by decide)]; exact hL) hL64 s (by omega)) mo_B_isOfLeft st_T_186 rc_19 (by decide) rfl (Nat.le_of_ble_eq_true rfl) d_T_heads_64) (fun r1 σ2 q3 => ?_)
      obtain ⟨rfl, rfl⟩ := q3
      refine v_bt F 110 d_T_heads_67 rfl (fun h67 => ?_) (fun h67 => ?_)
      · skip
        refine v_iinc (v := nI (s + 1)) (ls' := [(3, .int (nI (s + 1))), (0, .ref (u.2.1 0)), (1, .int (nI m)), (2, .int ((itr (headF (wgd σ G kd n L) m L) (-1, none) s).1))]) F d_T_heads_110 (j := 3) rfl (nI_inc _) (by decide) rfl ?_
        refine v_goto F 53 d_T_heads_113 rfl ?_
        refine v_sub [1, 2, 3, 0] (ls' := [(0, .ref (u.2.1 0)), (1, .int (nI m)), (2, .int ((itr (headF (wgd σ G kd n L) m L) (-1, none) s).1)), (3, .int (nI (s + 1)))]) rfl ?_
        have g4 : ((itr (headF (wgd σ G kd n L) m L) (-1, none) s).1) = ((itr (headF (wgd σ G kd n L) m L) (-1, none) (s + 1)).1) := (by first | rfl | (simp only [itr, headF]; rw [if_pos ⟨(by first | assumption | omega), (by first | assumption | omega), (by first | assumption | omega)⟩]; first | done | rfl | (subst_vars; rfl) | (simp only [tdS_k _ _ (show 33 ≠ 0 by decide)] at *; subst_vars; rfl) | (subst_vars; exact tdS_u _ _ _)) | (simp only [itr, headF]; rw [if_neg (by rintro ⟨q0, q1, q2⟩; first | exact absurd q0 (by assumption) | exact q0 (by assumption) | exact absurd q1 (by assumption) | exact q1 (by assumption) | exact absurd q2 (by assumption) | exact q2 (by assumption) | omega)]))
        refine v_to (ls' := [(0, .ref (u.2.1 0)), (1, .int (nI m)), (2, .int ((itr (headF (wgd σ G kd n L) m L) (-1, none) (s + 1)).1)), (3, .int (nI (s + 1)))]) (by first | rfl | rw [g4] | simp_all) ?_
        refine v_st (show (tdS (wgd σ G kd n L) (itr (headF (wgd σ G kd n L) m L) (-1, none) s).2) = (tdS (wgd σ G kd n L) (itr (headF (wgd σ G kd n L) m L) (-1, none) (s + 1)).2) from (by first | rfl | (simp only [itr, headF]; rw [if_pos ⟨(by first | assumption | omega), (by first | assumption | omega), (by first | assumption | omega)⟩]; first | done | rfl | (subst_vars; rfl) | (simp only [tdS_k _ _ (show 33 ≠ 0 by decide)] at *; subst_vars; rfl) | (subst_vars; exact tdS_u _ _ _)) | (simp only [itr, headF]; rw [if_neg (by rintro ⟨q0, q1, q2⟩; first | exact absurd q0 (by assumption) | exact q0 (by assumption) | exact absurd q1 (by assumption) | exact q1 (by assumption) | exact absurd q2 (by assumption) | exact q2 (by assumption) | omega)]))) ?_
        exact ih (s + 1) (by omega) (by omega)
      · skip
        refine v_iload_n F d_T_heads_70 rfl 3 rfl ?_
        refine v_runi (r_S F (c_I_bitCount X.2.1 u hA (tdS (wgd σ G kd n L) (itr (headF (wgd σ G kd n L) m L) (-1, none) s).2) s (by omega)) mo_I_bitCount st_T_189 (by decide) rfl (Nat.le_of_ble_eq_true rfl) d_T_heads_71) (fun r5 σ6 q7 => ?_)
        obtain ⟨rfl, rfl⟩ := q7
        refine v_iload_n F d_T_heads_74 rfl 1 rfl ?_
        refine v_icmp_ne F 110 d_T_heads_75 rfl (fun h75 => ?_) (fun h75 => ?_)
        · skip
          have h75 : ¬ pcN s = m := fun q => h75 ((nI_eq (a := pcN s) (b := m) (by omega) (by omega)).mpr q)
          refine v_iinc (v := nI (s + 1)) (ls' := [(3, .int (nI (s + 1))), (0, .ref (u.2.1 0)), (1, .int (nI m)), (2, .int ((itr (headF (wgd σ G kd n L) m L) (-1, none) s).1))]) F d_T_heads_110 (j := 3) rfl (nI_inc _) (by decide) rfl ?_
          refine v_goto F 53 d_T_heads_113 rfl ?_
          refine v_sub [1, 2, 3, 0] (ls' := [(0, .ref (u.2.1 0)), (1, .int (nI m)), (2, .int ((itr (headF (wgd σ G kd n L) m L) (-1, none) s).1)), (3, .int (nI (s + 1)))]) rfl ?_
          have g8 : ((itr (headF (wgd σ G kd n L) m L) (-1, none) s).1) = ((itr (headF (wgd σ G kd n L) m L) (-1, none) (s + 1)).1) := (by first | rfl | (simp only [itr, headF]; rw [if_pos ⟨(by first | assumption | omega), (by first | assumption | omega), (by first | assumption | omega)⟩]; first | done | rfl | (subst_vars; rfl) | (simp only [tdS_k _ _ (show 33 ≠ 0 by decide)] at *; subst_vars; rfl) | (subst_vars; exact tdS_u _ _ _)) | (simp only [itr, headF]; rw [if_neg (by rintro ⟨q0, q1, q2⟩; first | exact absurd q0 (by assumption) | exact q0 (by assumption) | exact absurd q1 (by assumption) | exact q1 (by assumption) | exact absurd q2 (by assumption) | exact q2 (by assumption) | omega)]))
          refine v_to (ls' := [(0, .ref (u.2.1 0)), (1, .int (nI m)), (2, .int ((itr (headF (wgd σ G kd n L) m L) (-1, none) (s + 1)).1)), (3, .int (nI (s + 1)))]) (by first | rfl | rw [g8] | simp_all) ?_
          refine v_st (show (tdS (wgd σ G kd n L) (itr (headF (wgd σ G kd n L) m L) (-1, none) s).2) = (tdS (wgd σ G kd n L) (itr (headF (wgd σ G kd n L) m L) (-1, none) (s + 1)).2) from (by first | rfl | (simp only [itr, headF]; rw [if_pos ⟨(by first | assumption | omega), (by first | assumption | omega), (by first | assumption | omega)⟩]; first | done | rfl | (subst_vars; rfl) | (simp only [tdS_k _ _ (show 33 ≠ 0 by decide)] at *; subst_vars; rfl) | (subst_vars; exact tdS_u _ _ _)) | (simp only [itr, headF]; rw [if_neg (by rintro ⟨q0, q1, q2⟩; first | exact absurd q0 (by assumption) | exact q0 (by assumption) | exact absurd q1 (by assumption) | exact q1 (by assumption) | exact absurd q2 (by assumption) | exact q2 (by assumption) | omega)]))) ?_
          exact ih (s + 1) (by omega) (by omega)
        · skip
          have h75 : pcN s = m := (nI_eq (a := pcN s) (b := m) (by omega) (by omega)).mp h75
          refine v_iload_n F d_T_heads_78 rfl 3 rfl ?_
          refine v_aload_n F d_T_heads_79 rfl 0 rfl ?_
          refine v_getr (r := 19) F fk_T_36 G0 rfl d_T_heads_80 ?_
          refine v_getr (r := 33) F fk_T_207 G19 rfl d_T_heads_83 ?_
          refine v_runi (r_S F (c_T_total X.2.1 u hA (tdS (wgd σ G kd n L) (itr (headF (wgd σ G kd n L) m L) (-1, none) s).2) (s := s) (kc := 33) (Or.inr rfl) (by omega)) mo_T_total st_T_210 (by decide) rfl (Nat.le_of_ble_eq_true rfl) d_T_heads_86) (fun r9 σ10 q11 => ?_)
          obtain ⟨rfl, rfl⟩ := q11
          refine v_iload_n F d_T_heads_89 rfl 2 rfl ?_
          refine v_icmp_le F 110 d_T_heads_90 rfl (fun h90 => ?_) (fun h90 => ?_)
          · skip
            rw [tdS_k _ _ (by decide)] at h90
            have h90 := i_nlt.mpr h90
            refine v_iinc (v := nI (s + 1)) (ls' := [(3, .int (nI (s + 1))), (0, .ref (u.2.1 0)), (1, .int (nI m)), (2, .int ((itr (headF (wgd σ G kd n L) m L) (-1, none) s).1))]) F d_T_heads_110 (j := 3) rfl (nI_inc _) (by decide) rfl ?_
            refine v_goto F 53 d_T_heads_113 rfl ?_
            refine v_sub [1, 2, 3, 0] (ls' := [(0, .ref (u.2.1 0)), (1, .int (nI m)), (2, .int ((itr (headF (wgd σ G kd n L) m L) (-1, none) s).1)), (3, .int (nI (s + 1)))]) rfl ?_
            have g12 : ((itr (headF (wgd σ G kd n L) m L) (-1, none) s).1) = ((itr (headF (wgd σ G kd n L) m L) (-1, none) (s + 1)).1) := (by first | rfl | (simp only [itr, headF]; rw [if_pos ⟨(by first | assumption | omega), (by first | assumption | omega), (by first | assumption | omega)⟩]; first | done | rfl | (subst_vars; rfl) | (simp only [tdS_k _ _ (show 33 ≠ 0 by decide)] at *; subst_vars; rfl) | (subst_vars; exact tdS_u _ _ _)) | (simp only [itr, headF]; rw [if_neg (by rintro ⟨q0, q1, q2⟩; first | exact absurd q0 (by assumption) | exact q0 (by assumption) | exact absurd q1 (by assumption) | exact q1 (by assumption) | exact absurd q2 (by assumption) | exact q2 (by assumption) | omega)]))
            refine v_to (ls' := [(0, .ref (u.2.1 0)), (1, .int (nI m)), (2, .int ((itr (headF (wgd σ G kd n L) m L) (-1, none) (s + 1)).1)), (3, .int (nI (s + 1)))]) (by first | rfl | rw [g12] | simp_all) ?_
            refine v_st (show (tdS (wgd σ G kd n L) (itr (headF (wgd σ G kd n L) m L) (-1, none) s).2) = (tdS (wgd σ G kd n L) (itr (headF (wgd σ G kd n L) m L) (-1, none) (s + 1)).2) from (by first | rfl | (simp only [itr, headF]; rw [if_pos ⟨(by first | assumption | omega), (by first | assumption | omega), (by first | assumption | omega)⟩]; first | done | rfl | (subst_vars; rfl) | (simp only [tdS_k _ _ (show 33 ≠ 0 by decide)] at *; subst_vars; rfl) | (subst_vars; exact tdS_u _ _ _)) | (simp only [itr, headF]; rw [if_neg (by rintro ⟨q0, q1, q2⟩; first | exact absurd q0 (by assumption) | exact q0 (by assumption) | exact absurd q1 (by assumption) | exact q1 (by assumption) | exact absurd q2 (by assumption) | exact q2 (by assumption) | omega)]))) ?_
            exact ih (s + 1) (by omega) (by omega)
          · skip
            rw [tdS_k _ _ (by decide)] at h90
            have h90 := i_lt_le.mp h90
            refine v_iload_n F d_T_heads_93 rfl 3 rfl ?_
            refine v_aload_n F d_T_heads_94 rfl 0 rfl ?_
            refine v_getr (r := 19) F fk_T_36 G0 rfl d_T_heads_95 ?_
            refine v_getr (r := 33) F fk_T_207 G19 rfl d_T_heads_98 ?_
            refine v_runi (r_S F (c_T_total X.2.1 u hA (tdS (wgd σ G kd n L) (itr (headF (wgd σ G kd n L) m L) (-1, none) s).2) (s := s) (kc := 33) (Or.inr rfl) (by omega)) mo_T_total st_T_210 (by decide) rfl (Nat.le_of_ble_eq_true rfl) d_T_heads_101) (fun r13 σ14 q15 => ?_)
            obtain ⟨rfl, rfl⟩ := q15
            refine v_ni (fun x16 ex16 => ?_)
            refine v_istore_n (ls' := [(2, .int x16), (0, .ref (u.2.1 0)), (1, .int (nI m)), (3, .int (nI s))]) F d_T_heads_104 rfl (by decide) rfl ?_
            refine v_aload_n F d_T_heads_105 rfl 1 rfl ?_
            refine v_iload_n F d_T_heads_106 rfl 3 rfl ?_
            refine v_puti F fk_T_88 pk_T_told G0 rfl d_T_heads_107 ?_
            refine v_ns (fun σ17 eσ17 => ?_)
            refine v_iinc (v := nI (s + 1)) (ls' := [(3, .int (nI (s + 1))), (2, .int x16), (0, .ref (u.2.1 0)), (1, .int (nI m))]) F d_T_heads_110 (j := 3) rfl (nI_inc _) (by decide) rfl ?_
            refine v_goto F 53 d_T_heads_113 rfl ?_
            refine v_sub [2, 3, 1, 0] (ls' := [(0, .ref (u.2.1 0)), (1, .int (nI m)), (2, .int x16), (3, .int (nI (s + 1)))]) rfl ?_
            have g18 : x16 = ((itr (headF (wgd σ G kd n L) m L) (-1, none) (s + 1)).1) := (by first | rfl | (simp only [itr, headF]; rw [if_pos ⟨(by first | assumption | omega), (by first | assumption | omega), (by first | assumption | omega)⟩]; first | done | rfl | (subst_vars; rfl) | (simp only [tdS_k _ _ (show 33 ≠ 0 by decide)] at *; subst_vars; rfl) | (subst_vars; exact tdS_u _ _ _)) | (simp only [itr, headF]; rw [if_neg (by rintro ⟨q0, q1, q2⟩; first | exact absurd q0 (by assumption) | exact q0 (by assumption) | exact absurd q1 (by assumption) | exact q1 (by assumption) | exact absurd q2 (by assumption) | exact q2 (by assumption) | omega)]))
            refine v_to (ls' := [(0, .ref (u.2.1 0)), (1, .int (nI m)), (2, .int ((itr (headF (wgd σ G kd n L) m L) (-1, none) (s + 1)).1)), (3, .int (nI (s + 1)))]) (by first | rfl | rw [g18] | simp_all) ?_
            refine v_st (show σ17 = (tdS (wgd σ G kd n L) (itr (headF (wgd σ G kd n L) m L) (-1, none) (s + 1)).2) from (by first | rfl | (simp only [itr, headF]; rw [if_pos ⟨(by first | assumption | omega), (by first | assumption | omega), (by first | assumption | omega)⟩]; first | done | rfl | (subst_vars; rfl) | (simp only [tdS_k _ _ (show 33 ≠ 0 by decide)] at *; subst_vars; rfl) | (subst_vars; exact tdS_u _ _ _)) | (simp only [itr, headF]; rw [if_neg (by rintro ⟨q0, q1, q2⟩; first | exact absurd q0 (by assumption) | exact q0 (by assumption) | exact absurd q1 (by assumption) | exact q1 (by assumption) | exact absurd q2 (by assumption) | exact q2 (by assumption) | omega)]))) ?_
            exact ih (s + 1) (by omega) (by omega)
set_option maxHeartbeats 4000000 in
theorem c_T_heads (l : Launch) (u : Un) (hA : Ap u) (σ : St) {n G : Nat} {kd : Nat → Nat} (hb : bkOk σ n G kd) {L : Nat} (hL : σ.1 19 14 = nI L) (hL64 : L < 64) (x : Int32) : MTi l u y_T_heads b_T_heads 4 .int 7 [.ref (u.2.1 0), .int x] σ (fun ans σ' => (ans, σ') = tHeads σ G kd n L x) := by
  refine MT_of hA rfl (by decide) (Nat.le_of_ble_eq_true rfl) (fun X hl F hr => ?_)
  subst hl
  refine v_to (ls' := [(0, .ref (u.2.1 0)), (1, .int x)]) rfl ?_
  obtain ⟨hn, hn6, hG, hG64, hkd, hk6⟩ := id hb
  have hpl6 := pc_le L hL64
  refine v_iload_n F d_T_heads_0 rfl 1 rfl ?_
  refine v_if_lt F 10 d_T_heads_1 rfl (fun h1 => ?_) (fun h1 => ?_)
  · skip
    refine v_iconst (v := (-1)) F d_T_heads_10 ki_m1 ?_
    refine v_iret F hr rfl d_T_heads_11 ?_
    unfold tHeads
    (repeat' split) <;> first | rfl | (exfalso; grind) | (subst_vars; rfl) | grind
  · skip
    refine v_iload_n F d_T_heads_4 rfl 1 rfl ?_
    refine v_bipush (v := 6) F d_T_heads_5 kb_6 ?_
    refine v_icmp_le F 12 d_T_heads_7 rfl (fun h7 => ?_) (fun h7 => ?_)
    · skip
      obtain ⟨m, hm, xm, rfl⟩ := nat_of (M := 6) (i_nlt.mp h1) h7 rfl (by decide)
      refine v_aload_n F d_T_heads_12 rfl 0 rfl ?_
      refine v_getr (r := 19) F fk_T_36 G0 rfl d_T_heads_13 ?_
      refine v_geti F fk_T_118 G19 rfl d_T_heads_16 ?_
      refine v_te (y := nI n) hn ?_
      refine v_if_ne F 25 d_T_heads_19 rfl (fun h19 => ?_) (fun h19 => ?_)
      · skip
        have h19 : ¬ n = 0 := fun q => h19 ((nI_eq (a := n) (b := 0) (by omega) (by omega)).mpr q)
        refine v_aload_n F d_T_heads_25 rfl 0 rfl ?_
        refine v_getr (r := 19) F fk_T_36 G0 rfl d_T_heads_26 ?_
        refine v_geti F fk_T_166 G19 rfl d_T_heads_29 ?_
        refine v_te (y := nI L) hL ?_
        refine v_runi (r_S F (c_I_bitCount X.2.1 u hA σ L hL64) mo_I_bitCount st_T_189 (by decide) rfl (Nat.le_of_ble_eq_true rfl) d_T_heads_32) (fun r1 σ2 q3 => ?_)
        obtain ⟨rfl, rfl⟩ := q3
        refine v_iload_n F d_T_heads_35 rfl 1 rfl ?_
        refine v_icmp_ge F 42 d_T_heads_36 rfl (fun h36 => ?_) (fun h36 => ?_)
        · skip
          have h36 : m ≤ pcN L := (nI_leI (a := m) (b := pcN L) (by omega) (by omega)).mp h36
          have hpl := pc_le L hL64
          refine v_aload_n F d_T_heads_42 rfl 0 rfl ?_
          refine v_getr (r := 19) F fk_T_36 G0 rfl d_T_heads_43 ?_
          refine v_runv (r_V F (c_B_weigh X.2.1 u hA σ hb hL hL64) mo_B_weigh st_T_204 rc_19 (by decide) rfl (Nat.le_of_ble_eq_true rfl) d_T_heads_46) (fun σ5 q6 => ?_)
          refine v_iconst (v := (-1)) F d_T_heads_49 ki_m1 ?_
          refine v_istore_n (ls' := [(2, .int (-1)), (0, .ref (u.2.1 0)), (1, .int (nI m))]) F d_T_heads_50 rfl (by decide) rfl ?_
          refine v_iconst (v := 0) F d_T_heads_51 ki_0 ?_
          refine v_istore_n (ls' := [(3, .int 0), (2, .int (-1)), (0, .ref (u.2.1 0)), (1, .int (nI m))]) F d_T_heads_52 rfl (by decide) rfl ?_
          have eW : σ5 = wgd σ G kd n L := q6
          refine v_st eW ?_
          refine v_sub [2, 3, 1, 0] (ls' := [(0, .ref (u.2.1 0)), (1, .int (nI m)), (2, .int (-1)), (3, .int 0)]) rfl ?_
          have g7 : (-1) = ((itr (headF (wgd σ G kd n L) m L) (-1, none) 0).1) := (by first | rfl | (simp only [itr, headF]; rw [if_pos ⟨(by first | assumption | omega), (by first | assumption | omega), (by first | assumption | omega)⟩]; first | done | rfl | (subst_vars; rfl) | (simp only [tdS_k _ _ (show 33 ≠ 0 by decide)] at *; subst_vars; rfl) | (subst_vars; exact tdS_u _ _ _)) | (simp only [itr, headF]; rw [if_neg (by rintro ⟨q0, q1, q2⟩; first | exact absurd q0 (by assumption) | exact q0 (by assumption) | exact absurd q1 (by assumption) | exact q1 (by assumption) | exact absurd q2 (by assumption) | exact q2 (by assumption) | omega)]))
          have g8 : 0 = (nI 0) := (by first | rfl | (simp only [itr, headF]; rw [if_pos ⟨(by first | assumption | omega), (by first | assumption | omega), (by first | assumption | omega)⟩]; first | done | rfl | (subst_vars; rfl) | (simp only [tdS_k _ _ (show 33 ≠ 0 by decide)] at *; subst_vars; rfl) | (subst_vars; exact tdS_u _ _ _)) | (simp only [itr, headF]; rw [if_neg (by rintro ⟨q0, q1, q2⟩; first | exact absurd q0 (by assumption) | exact q0 (by assumption) | exact absurd q1 (by assumption) | exact q1 (by assumption) | exact absurd q2 (by assumption) | exact q2 (by assumption) | omega)]))
          refine v_to (ls' := [(0, .ref (u.2.1 0)), (1, .int (nI m)), (2, .int ((itr (headF (wgd σ G kd n L) m L) (-1, none) 0).1)), (3, .int (nI 0))]) (by first | rfl | rw [g7, g8] | simp_all) ?_
          refine v_st (show (wgd σ G kd n L) = (tdS (wgd σ G kd n L) (itr (headF (wgd σ G kd n L) m L) (-1, none) 0).2) from (by first | rfl | (simp only [itr, headF]; rw [if_pos ⟨(by first | assumption | omega), (by first | assumption | omega), (by first | assumption | omega)⟩]; first | done | rfl | (subst_vars; rfl) | (simp only [tdS_k _ _ (show 33 ≠ 0 by decide)] at *; subst_vars; rfl) | (subst_vars; exact tdS_u _ _ _)) | (simp only [itr, headF]; rw [if_neg (by rintro ⟨q0, q1, q2⟩; first | exact absurd q0 (by assumption) | exact q0 (by assumption) | exact absurd q1 (by assumption) | exact q1 (by assumption) | exact absurd q2 (by assumption) | exact q2 (by assumption) | omega)]))) ?_
          refine L_T_heads_53 hA F hb hL hL64 hm ?_ _ 0 (Nat.zero_le _) (Nat.lt_succ_self _)
          refine v_iload_n F d_T_heads_116 rfl 2 rfl ?_
          refine v_iret F hr rfl d_T_heads_117 ?_
          unfold tHeads
          simp only [xm]
          (repeat' split) <;> first | rfl | (exfalso; grind) | (subst_vars; rfl) | grind
        · skip
          have h36 : ¬ m ≤ pcN L := fun q => h36 ((nI_leI (a := m) (b := pcN L) (by omega) (by omega)).mpr q)
          skip
          refine v_bipush (v := (-9)) F d_T_heads_39 kb_m9 ?_
          refine v_iret F hr rfl d_T_heads_41 ?_
          unfold tHeads
          simp only [xm]
          (repeat' split) <;> first | rfl | (exfalso; grind) | (subst_vars; rfl) | grind
      · skip
        have h19 : n = 0 := (nI_eq (a := n) (b := 0) (by omega) (by omega)).mp h19
        refine v_bipush (v := (-4)) F d_T_heads_22 kb_m4 ?_
        refine v_iret F hr rfl d_T_heads_24 ?_
        unfold tHeads
        (repeat' split) <;> first | rfl | (exfalso; grind) | (subst_vars; rfl) | grind
    · skip
      refine v_iconst (v := (-1)) F d_T_heads_10 ki_m1 ?_
      refine v_iret F hr rfl d_T_heads_11 ?_
      unfold tHeads
      (repeat' split) <;> first | rfl | (exfalso; grind) | (subst_vars; rfl) | grind
end
section
-- sums
theorem ex_step {P : Nat → Prop} {s : Nat} (h : ∀ t, t < s → ¬ P t) (hs : ¬ P s) : ∀ t, t < s + 1 → ¬ P t := by
  intro t ht
  rcases Nat.lt_or_ge t s with q | q
  · exact h t q
  · have e : t = s := by omega
    subst e
    exact hs
end
section
theorem fk_T_355 : fok "TakerBook" 355 1 6 := ⟨(R_B, F_B, 19), rfl, by decide, List.mem_of_getElem? (i := 190) (by decide +kernel), rfl⟩
theorem st_T_254 : siteV "TakerBook" 254 ⟨"TakerBook", "isSuchSet", "(II)Z"⟩ := ⟨List.mem_of_getElem? (i := 819) (by decide +kernel), List.mem_of_getElem? (i := 821) (by decide +kernel), List.mem_of_getElem? (i := 17) (by decide +kernel)⟩
theorem st_T_251 : siteS "TakerBook" 251 ⟨"TakerBook", "isSum", "(I)Z"⟩ := ⟨List.mem_of_getElem? (i := 816) (by decide +kernel), List.mem_of_getElem? (i := 817) (by decide +kernel)⟩
theorem st_T_233 : siteV "TakerBook" 233 ⟨"TakerBook", "tellNumbers", "(JJ)V"⟩ := ⟨List.mem_of_getElem? (i := 796) (by decide +kernel), List.mem_of_getElem? (i := 798) (by decide +kernel), List.mem_of_getElem? (i := 15) (by decide +kernel)⟩
theorem st_T_257 : siteV "TakerBook" 257 ⟨"TakerBook", "refusedGoods", "(I)I"⟩ := ⟨List.mem_of_getElem? (i := 827) (by decide +kernel), List.mem_of_getElem? (i := 829) (by decide +kernel), List.mem_of_getElem? (i := 18) (by decide +kernel)⟩
theorem st_T_260 : siteV "TakerBook" 260 ⟨"TakerBook", "greaterPart", "(II)I"⟩ := ⟨List.mem_of_getElem? (i := 835) (by decide +kernel), List.mem_of_getElem? (i := 837) (by decide +kernel), List.mem_of_getElem? (i := 19) (by decide +kernel)⟩
theorem kb_65 : (Int8.ofInt 65).toInt32 = (65 : Int32) := by decide
theorem fk_T_372 : fok "TakerBook" 372 1 10 := ⟨(R_B, F_B, 19), rfl, by decide, List.mem_of_getElem? (i := 200) (by decide +kernel), rfl⟩
theorem st_T_281 : siteV "TakerBook" 281 ⟨"TakerBook", "goodsFor", "(I)I"⟩ := ⟨List.mem_of_getElem? (i := 895) (by decide +kernel), List.mem_of_getElem? (i := 897) (by decide +kernel), List.mem_of_getElem? (i := 25) (by decide +kernel)⟩
theorem st_T_284 : siteS "TakerBook" 284 ⟨"TakerBook", "isBetter", "(IIII)Z"⟩ := ⟨List.mem_of_getElem? (i := 899) (by decide +kernel), List.mem_of_getElem? (i := 749) (by decide +kernel)⟩
abbrev b_T_isSuchSet : ByteArray := prog_1_method_66_code
abbrev y_T_isSuchSet : MethodName := ⟨"TakerBook", "isSuchSet", "(II)Z"⟩
theorem d_T_isSuchSet_0 : decode b_T_isSuchSet 0 = .ok (.aload_n 0, 1) := by decide +kernel
theorem d_T_isSuchSet_1 : decode b_T_isSuchSet 1 = .ok (.getfield 36, 3) := by decide +kernel
theorem d_T_isSuchSet_4 : decode b_T_isSuchSet 4 = .ok (.iload_n 1, 1) := by decide +kernel
theorem d_T_isSuchSet_5 : decode b_T_isSuchSet 5 = .ok (.invokevirtual 186, 3) := by decide +kernel
theorem d_T_isSuchSet_8 : decode b_T_isSuchSet 8 = .ok (.ifCond .eq 22, 3) := by decide +kernel
theorem d_T_isSuchSet_11 : decode b_T_isSuchSet 11 = .ok (.iload_n 1, 1) := by decide +kernel
theorem d_T_isSuchSet_12 : decode b_T_isSuchSet 12 = .ok (.aload_n 0, 1) := by decide +kernel
theorem d_T_isSuchSet_13 : decode b_T_isSuchSet 13 = .ok (.getfield 36, 3) := by decide +kernel
theorem d_T_isSuchSet_16 : decode b_T_isSuchSet 16 = .ok (.getfield 355, 3) := by decide +kernel
theorem d_T_isSuchSet_19 : decode b_T_isSuchSet 19 = .ok (.invokestatic 210, 3) := by decide +kernel
theorem d_T_isSuchSet_22 : decode b_T_isSuchSet 22 = .ok (.iload_n 2, 1) := by decide +kernel
theorem d_T_isSuchSet_23 : decode b_T_isSuchSet 23 = .ok (.if_icmp .ne 7, 3) := by decide +kernel
theorem d_T_isSuchSet_26 : decode b_T_isSuchSet 26 = .ok (.iconst 1, 1) := by decide +kernel
theorem d_T_isSuchSet_27 : decode b_T_isSuchSet 27 = .ok (.goto 4, 3) := by decide +kernel
theorem d_T_isSuchSet_30 : decode b_T_isSuchSet 30 = .ok (.iconst 0, 1) := by decide +kernel
theorem d_T_isSuchSet_31 : decode b_T_isSuchSet 31 = .ok (.ireturn, 1) := by decide +kernel
theorem mo_T_isSuchSet : mok y_T_isSuchSet b_T_isSuchSet 3 (some .boolean) 2 := ⟨List.mem_of_getElem? (i := 822) (by decide +kernel), ⟨by decide +kernel, by decide +kernel, by decide +kernel⟩, List.mem_of_getElem? (i := 74) (by decide +kernel), by decide⟩
set_option maxHeartbeats 4000000 in
theorem c_T_isSuchSet (l : Launch) (u : Un) (hA : Ap u) (σ : St) {L : Nat} (hL : σ.1 19 14 = nI L) (hL64 : L < 64) (s : Nat) (v : Int32) (hs : s < 64) : MTi l u y_T_isSuchSet b_T_isSuchSet 3 .boolean 2 [.ref (u.2.1 0), .int (nI s), .int v] σ (fun ans σ' => bI (such σ L v s) = ans ∧ σ = σ') := by
  refine MT_of hA rfl (by decide) (Nat.le_of_ble_eq_true rfl) (fun X hl F hr => ?_)
  subst hl
  refine v_to (ls' := [(0, .ref (u.2.1 0)), (1, .int (nI s)), (2, .int v)]) rfl ?_
  refine v_aload_n F d_T_isSuchSet_0 rfl 0 rfl ?_
  refine v_getr (r := 19) F fk_T_36 G0 rfl d_T_isSuchSet_1 ?_
  refine v_iload_n F d_T_isSuchSet_4 rfl 1 rfl ?_
  refine v_runi (r_V F (c_B_isOfLeft X.2.1 u hA σ hL hL64 s (by omega)) mo_B_isOfLeft st_T_186 rc_19 (by decide) rfl (Nat.le_of_ble_eq_true rfl) d_T_isSuchSet_5) (fun r1 σ2 q3 => ?_)
  obtain ⟨rfl, rfl⟩ := q3
  refine v_bt F 30 d_T_isSuchSet_8 rfl (fun h8 => ?_) (fun h8 => ?_)
  · skip
    refine v_iconst (v := 0) F d_T_isSuchSet_30 ki_0 ?_
    refine v_iret F hr rfl d_T_isSuchSet_31 ?_
    exact ⟨bI_f (by rintro ⟨q1, q2⟩; first | exact absurd q1 (by assumption) | exact absurd q2 (by assumption)), rfl⟩
  · skip
    refine v_iload_n F d_T_isSuchSet_11 rfl 1 rfl ?_
    refine v_aload_n F d_T_isSuchSet_12 rfl 0 rfl ?_
    refine v_getr (r := 19) F fk_T_36 G0 rfl d_T_isSuchSet_13 ?_
    refine v_getr (r := 32) F fk_T_355 G19 rfl d_T_isSuchSet_16 ?_
    refine v_runi (r_S F (c_T_total X.2.1 u hA σ (s := s) (kc := 32) (Or.inl rfl) (by omega)) mo_T_total st_T_210 (by decide) rfl (Nat.le_of_ble_eq_true rfl) d_T_isSuchSet_19) (fun r4 σ5 q6 => ?_)
    obtain ⟨rfl, rfl⟩ := q6
    refine v_iload_n F d_T_isSuchSet_22 rfl 2 rfl ?_
    refine v_icmp_ne F 30 d_T_isSuchSet_23 rfl (fun h23 => ?_) (fun h23 => ?_)
    · skip
      refine v_iconst (v := 0) F d_T_isSuchSet_30 ki_0 ?_
      refine v_iret F hr rfl d_T_isSuchSet_31 ?_
      exact ⟨bI_f (by rintro ⟨q1, q2⟩; first | exact absurd q1 (by assumption) | exact absurd q2 (by assumption)), rfl⟩
    · skip
      refine v_iconst (v := 1) F d_T_isSuchSet_26 ki_1 ?_
      refine v_goto F 31 d_T_isSuchSet_27 rfl ?_
      refine v_iret F hr rfl d_T_isSuchSet_31 ?_
      exact ⟨bI_t ⟨by assumption, by assumption⟩, rfl⟩
abbrev b_T_refusedGoods : ByteArray := prog_1_method_50_code
abbrev y_T_refusedGoods : MethodName := ⟨"TakerBook", "refusedGoods", "(I)I"⟩
theorem d_T_refusedGoods_0 : decode b_T_refusedGoods 0 = .ok (.iload_n 1, 1) := by decide +kernel
theorem d_T_refusedGoods_1 : decode b_T_refusedGoods 1 = .ok (.invokestatic 251, 3) := by decide +kernel
theorem d_T_refusedGoods_4 : decode b_T_refusedGoods 4 = .ok (.ifCond .ne 5, 3) := by decide +kernel
theorem d_T_refusedGoods_7 : decode b_T_refusedGoods 7 = .ok (.iconst (-1), 1) := by decide +kernel
theorem d_T_refusedGoods_8 : decode b_T_refusedGoods 8 = .ok (.ireturn, 1) := by decide +kernel
theorem d_T_refusedGoods_9 : decode b_T_refusedGoods 9 = .ok (.aload_n 0, 1) := by decide +kernel
theorem d_T_refusedGoods_10 : decode b_T_refusedGoods 10 = .ok (.getfield 36, 3) := by decide +kernel
theorem d_T_refusedGoods_13 : decode b_T_refusedGoods 13 = .ok (.getfield 118, 3) := by decide +kernel
theorem d_T_refusedGoods_16 : decode b_T_refusedGoods 16 = .ok (.ifCond .ne 6, 3) := by decide +kernel
theorem d_T_refusedGoods_19 : decode b_T_refusedGoods 19 = .ok (.bipush (-4), 2) := by decide +kernel
theorem d_T_refusedGoods_21 : decode b_T_refusedGoods 21 = .ok (.ireturn, 1) := by decide +kernel
theorem d_T_refusedGoods_22 : decode b_T_refusedGoods 22 = .ok (.aload_n 0, 1) := by decide +kernel
theorem d_T_refusedGoods_23 : decode b_T_refusedGoods 23 = .ok (.getfield 36, 3) := by decide +kernel
theorem d_T_refusedGoods_26 : decode b_T_refusedGoods 26 = .ok (.invokevirtual 204, 3) := by decide +kernel
theorem d_T_refusedGoods_29 : decode b_T_refusedGoods 29 = .ok (.iconst 0, 1) := by decide +kernel
theorem d_T_refusedGoods_30 : decode b_T_refusedGoods 30 = .ok (.istore_n 2, 1) := by decide +kernel
theorem d_T_refusedGoods_31 : decode b_T_refusedGoods 31 = .ok (.iload_n 2, 1) := by decide +kernel
theorem d_T_refusedGoods_32 : decode b_T_refusedGoods 32 = .ok (.bipush 64, 2) := by decide +kernel
theorem d_T_refusedGoods_34 : decode b_T_refusedGoods 34 = .ok (.if_icmp .ge 20, 3) := by decide +kernel
theorem d_T_refusedGoods_37 : decode b_T_refusedGoods 37 = .ok (.aload_n 0, 1) := by decide +kernel
theorem d_T_refusedGoods_38 : decode b_T_refusedGoods 38 = .ok (.iload_n 2, 1) := by decide +kernel
theorem d_T_refusedGoods_39 : decode b_T_refusedGoods 39 = .ok (.iload_n 1, 1) := by decide +kernel
theorem d_T_refusedGoods_40 : decode b_T_refusedGoods 40 = .ok (.invokevirtual 254, 3) := by decide +kernel
theorem d_T_refusedGoods_43 : decode b_T_refusedGoods 43 = .ok (.ifCond .eq 5, 3) := by decide +kernel
theorem d_T_refusedGoods_46 : decode b_T_refusedGoods 46 = .ok (.iconst 0, 1) := by decide +kernel
theorem d_T_refusedGoods_47 : decode b_T_refusedGoods 47 = .ok (.ireturn, 1) := by decide +kernel
theorem d_T_refusedGoods_48 : decode b_T_refusedGoods 48 = .ok (.iinc 2 1, 3) := by decide +kernel
theorem d_T_refusedGoods_51 : decode b_T_refusedGoods 51 = .ok (.goto (-20), 3) := by decide +kernel
theorem d_T_refusedGoods_54 : decode b_T_refusedGoods 54 = .ok (.aload_n 0, 1) := by decide +kernel
theorem d_T_refusedGoods_55 : decode b_T_refusedGoods 55 = .ok (.iconst 4, 1) := by decide +kernel
theorem d_T_refusedGoods_56 : decode b_T_refusedGoods 56 = .ok (.invokevirtual 80, 3) := by decide +kernel
theorem d_T_refusedGoods_59 : decode b_T_refusedGoods 59 = .ok (.ireturn, 1) := by decide +kernel
theorem mo_T_refusedGoods : mok y_T_refusedGoods b_T_refusedGoods 3 (some .int) 1 := ⟨List.mem_of_getElem? (i := 830) (by decide +kernel), ⟨by decide +kernel, by decide +kernel, by decide +kernel⟩, List.mem_of_getElem? (i := 74) (by decide +kernel), by decide⟩
set_option maxHeartbeats 4000000 in
theorem L_T_refusedGoods_31 {X : FX} {u : Un} (hA : Ap u) {Q : State → Prop} (F : Fr X u "TakerBook" b_T_refusedGoods 3) {σ : St} {L : Nat} (hL : σ.1 19 14 = nI L) (hL64 : L < 64) {v : Int32} (k0 : ∀ (s : Nat), s < 64 → such σ L v s → V X u 7 3 Q 46 [(0, .ref (u.2.1 0)), (1, .int v), (2, .int (nI s))] [] (σ)) (k1 : ∀ (s : Nat), (∀ t, t < 64 → ¬ such σ L v t) → V X u 7 3 Q 54 [(0, .ref (u.2.1 0)), (1, .int v), (2, .int (nI s))] [] (σ)) : ∀ (nn : Nat) (s : Nat), s ≤ 64 → (∀ t, t < s → ¬ such σ L v t) → 64 - s < nn → V X u 7 3 Q 31 [(0, .ref (u.2.1 0)), (1, .int v), (2, .int (nI s))] [] (σ) := by
  intro nn
  induction nn with
  | zero =>
    intro s hs hno h2
    exact absurd h2 (Nat.not_lt_zero _)
  | succ nn ih =>
    intro s hs hno hm
    refine v_iload_n F d_T_refusedGoods_31 rfl 2 rfl ?_
    refine v_bipush (v := 64) F d_T_refusedGoods_32 kb_64 ?_
    refine v_icmp_ge F 54 d_T_refusedGoods_34 rfl (fun h34 => ?_) (fun h34 => ?_)
    · skip
      have h34 : 64 ≤ s := (nI_leI (a := 64) (b := s) (by omega) (by omega)).mp h34
      exact k1 s (fun t ht => hno t (by omega))
    · skip
      have h34 : ¬ 64 ≤ s := fun q => h34 ((nI_leI (a := 64) (b := s) (by omega) (by omega)).mpr q)
      refine v_aload_n F d_T_refusedGoods_37 rfl 0 rfl ?_
      refine v_iload_n F d_T_refusedGoods_38 rfl 2 rfl ?_
      refine v_iload_n F d_T_refusedGoods_39 rfl 1 rfl ?_
      refine v_runi (r_V F (c_T_isSuchSet X.2.1 u hA σ hL hL64 s v (by omega)) mo_T_isSuchSet st_T_254 rc_0 (by decide) rfl (Nat.le_of_ble_eq_true rfl) d_T_refusedGoods_40) (fun r1 σ2 q3 => ?_)
      obtain ⟨rfl, rfl⟩ := q3
      refine v_bt F 48 d_T_refusedGoods_43 rfl (fun h43 => ?_) (fun h43 => ?_)
      · skip
        refine v_iinc (v := nI (s + 1)) (ls' := [(2, .int (nI (s + 1))), (0, .ref (u.2.1 0)), (1, .int v)]) F d_T_refusedGoods_48 (j := 2) rfl (nI_inc _) (by decide) rfl ?_
        refine v_goto F 31 d_T_refusedGoods_51 rfl ?_
        refine v_sub [1, 2, 0] (ls' := [(0, .ref (u.2.1 0)), (1, .int v), (2, .int (nI (s + 1)))]) rfl ?_
        exact ih (s + 1) (by omega) (ex_step hno h43) (by omega)
      · skip
        exact k0 s (by omega) h43
set_option maxHeartbeats 4000000 in
theorem c_T_refusedGoods (l : Launch) (u : Un) (hA : Ap u) (σ : St) {n G : Nat} {kd : Nat → Nat} (hb : bkOk σ n G kd) {L : Nat} (hL : σ.1 19 14 = nI L) (hL64 : L < 64) (v : Int32) : MTi l u y_T_refusedGoods b_T_refusedGoods 3 .int 7 [.ref (u.2.1 0), .int v] σ (fun x σ' => (¬ (0 ≤ v ∧ v ≤ 99) ∧ -1 = x ∧ σ = σ') ∨ ((0 ≤ v ∧ v ≤ 99) ∧ σ.1 19 8 = 0 ∧ -4 = x ∧ σ = σ') ∨ ((0 ≤ v ∧ v ≤ 99) ∧ ¬ σ.1 19 8 = 0 ∧ exS (wgd σ G kd n L) L v ∧ 0 = x ∧ wgd σ G kd n L = σ') ∨ ((0 ≤ v ∧ v ≤ 99) ∧ ¬ σ.1 19 8 = 0 ∧ ¬ exS (wgd σ G kd n L) L v ∧ -3 = x ∧ σ' = tRef (wgd σ G kd n L) 4)) := by
  refine MT_of hA rfl (by decide) (Nat.le_of_ble_eq_true rfl) (fun X hl F hr => ?_)
  subst hl
  refine v_to (ls' := [(0, .ref (u.2.1 0)), (1, .int v)]) rfl ?_
  obtain ⟨hn, hn6, hG, hG64, hkd, hk6⟩ := id hb
  refine v_iload_n F d_T_refusedGoods_0 rfl 1 rfl ?_
  refine v_runi (r_S F (c_T_isSum X.2.1 u hA σ v ) mo_T_isSum st_T_251 (by decide) rfl (Nat.le_of_ble_eq_true rfl) d_T_refusedGoods_1) (fun r1 σ2 q3 => ?_)
  obtain ⟨rfl, rfl⟩ := q3
  refine v_bf F 9 d_T_refusedGoods_4 rfl (fun h4 => ?_) (fun h4 => ?_)
  · skip
    refine v_aload_n F d_T_refusedGoods_9 rfl 0 rfl ?_
    refine v_getr (r := 19) F fk_T_36 G0 rfl d_T_refusedGoods_10 ?_
    refine v_geti F fk_T_118 G19 rfl d_T_refusedGoods_13 ?_
    refine v_if_ne F 22 d_T_refusedGoods_16 rfl (fun h16 => ?_) (fun h16 => ?_)
    · skip
      refine v_aload_n F d_T_refusedGoods_22 rfl 0 rfl ?_
      refine v_getr (r := 19) F fk_T_36 G0 rfl d_T_refusedGoods_23 ?_
      refine v_runv (r_V F (c_B_weigh X.2.1 u hA σ hb hL hL64) mo_B_weigh st_T_204 rc_19 (by decide) rfl (Nat.le_of_ble_eq_true rfl) d_T_refusedGoods_26) (fun σ5 q6 => ?_)
      refine v_iconst (v := 0) F d_T_refusedGoods_29 ki_0 ?_
      refine v_istore_n (ls' := [(2, .int 0), (0, .ref (u.2.1 0)), (1, .int v)]) F d_T_refusedGoods_30 rfl (by decide) rfl ?_
      have eW : σ5 = wgd σ G kd n L := q6
      refine v_st eW ?_
      refine v_sub [1, 2, 0] (ls' := [(0, .ref (u.2.1 0)), (1, .int v), (2, .int 0)]) rfl ?_
      have g7 : 0 = (nI 0) := (by first | rfl | (simp_all; done) | grind)
      refine v_to (ls' := [(0, .ref (u.2.1 0)), (1, .int v), (2, .int (nI 0))]) (by first | rfl | rw [g7] | simp_all) ?_
      refine L_T_refusedGoods_31 hA F (L := L) (by rw [wgd_k _ _ _ _ _ (by decide) (by decide)]; exact hL) hL64 (fun s hs hsu => ?_) (fun s hno => ?_) _ 0 (by decide) (fun t ht => absurd ht (Nat.not_lt_zero _)) (Nat.lt_succ_self _)
      · skip
        refine v_iconst (v := 0) F d_T_refusedGoods_46 ki_0 ?_
        refine v_iret F hr rfl d_T_refusedGoods_47 ?_
        exact Or.inr (Or.inr (Or.inl ⟨h4, h16, ⟨s, hs, hsu⟩, rfl, rfl⟩))
      · skip
        refine v_aload_n F d_T_refusedGoods_54 rfl 0 rfl ?_
        refine v_iconst (v := 4) F d_T_refusedGoods_55 ki_4 ?_
        refine v_runi (r_V F (c_T_refuse X.2.1 u hA (wgd σ G kd n L) 4 (by decide)) mo_T_refuse st_T_80 rc_0 (by decide) rfl (Nat.le_of_ble_eq_true rfl) d_T_refusedGoods_56) (fun r8 σ9 q10 => ?_)
        obtain ⟨rfl, eσ9⟩ := q10
        refine v_iret F hr rfl d_T_refusedGoods_59 ?_
        exact Or.inr (Or.inr (Or.inr ⟨h4, h16, fun ⟨t, ht, q⟩ => hno t ht q, rfl, by assumption⟩))
    · skip
      refine v_bipush (v := (-4)) F d_T_refusedGoods_19 kb_m4 ?_
      refine v_iret F hr rfl d_T_refusedGoods_21 ?_
      exact Or.inr (Or.inl ⟨h4, h16, rfl, rfl⟩)
  · skip
    refine v_iconst (v := (-1)) F d_T_refusedGoods_7 ki_m1 ?_
    refine v_iret F hr rfl d_T_refusedGoods_8 ?_
    exact Or.inl ⟨h4, rfl, rfl⟩
abbrev b_T_fits : ByteArray := prog_1_method_28_code
abbrev y_T_fits : MethodName := ⟨"TakerBook", "fits", "(I)I"⟩
theorem d_T_fits_0 : decode b_T_fits 0 = .ok (.iload_n 1, 1) := by decide +kernel
theorem d_T_fits_1 : decode b_T_fits 1 = .ok (.invokestatic 251, 3) := by decide +kernel
theorem d_T_fits_4 : decode b_T_fits 4 = .ok (.ifCond .ne 5, 3) := by decide +kernel
theorem d_T_fits_7 : decode b_T_fits 7 = .ok (.iconst (-1), 1) := by decide +kernel
theorem d_T_fits_8 : decode b_T_fits 8 = .ok (.ireturn, 1) := by decide +kernel
theorem d_T_fits_9 : decode b_T_fits 9 = .ok (.aload_n 0, 1) := by decide +kernel
theorem d_T_fits_10 : decode b_T_fits 10 = .ok (.getfield 36, 3) := by decide +kernel
theorem d_T_fits_13 : decode b_T_fits 13 = .ok (.getfield 118, 3) := by decide +kernel
theorem d_T_fits_16 : decode b_T_fits 16 = .ok (.ifCond .ne 6, 3) := by decide +kernel
theorem d_T_fits_19 : decode b_T_fits 19 = .ok (.bipush (-4), 2) := by decide +kernel
theorem d_T_fits_21 : decode b_T_fits 21 = .ok (.ireturn, 1) := by decide +kernel
theorem d_T_fits_22 : decode b_T_fits 22 = .ok (.aload_n 0, 1) := by decide +kernel
theorem d_T_fits_23 : decode b_T_fits 23 = .ok (.getfield 36, 3) := by decide +kernel
theorem d_T_fits_26 : decode b_T_fits 26 = .ok (.invokevirtual 204, 3) := by decide +kernel
theorem d_T_fits_29 : decode b_T_fits 29 = .ok (.iconst 0, 1) := by decide +kernel
theorem d_T_fits_30 : decode b_T_fits 30 = .ok (.istore_n 2, 1) := by decide +kernel
theorem d_T_fits_31 : decode b_T_fits 31 = .ok (.bipush (-9), 2) := by decide +kernel
theorem d_T_fits_33 : decode b_T_fits 33 = .ok (.istore_n 3, 1) := by decide +kernel
theorem d_T_fits_34 : decode b_T_fits 34 = .ok (.iconst 0, 1) := by decide +kernel
theorem d_T_fits_35 : decode b_T_fits 35 = .ok (.istore 4, 2) := by decide +kernel
theorem d_T_fits_37 : decode b_T_fits 37 = .ok (.iload 4, 2) := by decide +kernel
theorem d_T_fits_39 : decode b_T_fits 39 = .ok (.bipush 64, 2) := by decide +kernel
theorem d_T_fits_41 : decode b_T_fits 41 = .ok (.if_icmp .ge 33, 3) := by decide +kernel
theorem d_T_fits_44 : decode b_T_fits 44 = .ok (.aload_n 0, 1) := by decide +kernel
theorem d_T_fits_45 : decode b_T_fits 45 = .ok (.iload 4, 2) := by decide +kernel
theorem d_T_fits_47 : decode b_T_fits 47 = .ok (.iload_n 1, 1) := by decide +kernel
theorem d_T_fits_48 : decode b_T_fits 48 = .ok (.invokevirtual 254, 3) := by decide +kernel
theorem d_T_fits_51 : decode b_T_fits 51 = .ok (.ifCond .eq 17, 3) := by decide +kernel
theorem d_T_fits_54 : decode b_T_fits 54 = .ok (.iload_n 2, 1) := by decide +kernel
theorem d_T_fits_55 : decode b_T_fits 55 = .ok (.ifCond .ne 8, 3) := by decide +kernel
theorem d_T_fits_58 : decode b_T_fits 58 = .ok (.iload 4, 2) := by decide +kernel
theorem d_T_fits_60 : decode b_T_fits 60 = .ok (.goto 4, 3) := by decide +kernel
theorem d_T_fits_63 : decode b_T_fits 63 = .ok (.iload_n 3, 1) := by decide +kernel
theorem d_T_fits_64 : decode b_T_fits 64 = .ok (.istore_n 3, 1) := by decide +kernel
theorem d_T_fits_65 : decode b_T_fits 65 = .ok (.iinc 2 1, 3) := by decide +kernel
theorem d_T_fits_68 : decode b_T_fits 68 = .ok (.iinc 4 1, 3) := by decide +kernel
theorem d_T_fits_71 : decode b_T_fits 71 = .ok (.goto (-34), 3) := by decide +kernel
theorem d_T_fits_74 : decode b_T_fits 74 = .ok (.aload_n 0, 1) := by decide +kernel
theorem d_T_fits_75 : decode b_T_fits 75 = .ok (.iload_n 2, 1) := by decide +kernel
theorem d_T_fits_76 : decode b_T_fits 76 = .ok (.i2l, 1) := by decide +kernel
theorem d_T_fits_77 : decode b_T_fits 77 = .ok (.lconst 1, 1) := by decide +kernel
theorem d_T_fits_78 : decode b_T_fits 78 = .ok (.invokevirtual 233, 3) := by decide +kernel
theorem d_T_fits_81 : decode b_T_fits 81 = .ok (.aload_n 0, 1) := by decide +kernel
theorem d_T_fits_82 : decode b_T_fits 82 = .ok (.iload_n 3, 1) := by decide +kernel
theorem d_T_fits_83 : decode b_T_fits 83 = .ok (.putfield 88, 3) := by decide +kernel
theorem d_T_fits_86 : decode b_T_fits 86 = .ok (.iconst 1, 1) := by decide +kernel
theorem d_T_fits_87 : decode b_T_fits 87 = .ok (.ireturn, 1) := by decide +kernel
theorem mo_T_fits : mok y_T_fits b_T_fits 5 (some .int) 1 := ⟨List.mem_of_getElem? (i := 815) (by decide +kernel), ⟨by decide +kernel, by decide +kernel, by decide +kernel⟩, List.mem_of_getElem? (i := 74) (by decide +kernel), by decide⟩
set_option maxHeartbeats 4000000 in
theorem L_T_fits_37 {X : FX} {u : Un} (hA : Ap u) {Q : State → Prop} (F : Fr X u "TakerBook" b_T_fits 5) {σ : St} {L : Nat} (hL : σ.1 19 14 = nI L) (hL64 : L < 64) {v : Int32} (k : V X u 7 5 Q 74 [(0, .ref (u.2.1 0)), (1, .int v), (2, .int (nI ((itr (fitF σ L v) (0, -9) 64).1))), (3, .int ((itr (fitF σ L v) (0, -9) 64).2)), (4, .int (nI 64))] [] (σ)) : ∀ (nn s : Nat), s ≤ 64 → 64 - s < nn → V X u 7 5 Q 37 [(0, .ref (u.2.1 0)), (1, .int v), (2, .int (nI ((itr (fitF σ L v) (0, -9) s).1))), (3, .int ((itr (fitF σ L v) (0, -9) s).2)), (4, .int (nI s))] [] (σ) := by
  intro nn
  induction nn with
  | zero =>
    intro s h1 h2
    exact absurd h2 (Nat.not_lt_zero _)
  | succ nn ih =>
    intro s hii hnn
    have hfb := fitF_b (σ := σ) (L := L) (v := v) s
    refine v_iload F d_T_fits_37 4 rfl ?_
    refine v_bipush (v := 64) F d_T_fits_39 kb_64 ?_
    refine v_icmp_ge F 74 d_T_fits_41 rfl (fun h41 => ?_) (fun h41 => ?_)
    · skip
      have h41 : 64 ≤ s := (nI_leI (a := 64) (b := s) (by omega) (by omega)).mp h41
      have he : s = 64 := by omega
      subst he
      exact k
    · skip
      have h41 : ¬ 64 ≤ s := fun q => h41 ((nI_leI (a := 64) (b := s) (by omega) (by omega)).mpr q)
      refine v_aload_n F d_T_fits_44 rfl 0 rfl ?_
      refine v_iload F d_T_fits_45 4 rfl ?_
      refine v_iload_n F d_T_fits_47 rfl 1 rfl ?_
      refine v_runi (r_V F (c_T_isSuchSet X.2.1 u hA σ hL hL64 s v (by omega)) mo_T_isSuchSet st_T_254 rc_0 (by decide) rfl (Nat.le_of_ble_eq_true rfl) d_T_fits_48) (fun r1 σ2 q3 => ?_)
      obtain ⟨rfl, rfl⟩ := q3
      refine v_bt F 68 d_T_fits_51 rfl (fun h51 => ?_) (fun h51 => ?_)
      · skip
        refine v_iinc (v := nI (s + 1)) (ls' := [(4, .int (nI (s + 1))), (0, .ref (u.2.1 0)), (1, .int v), (2, .int (nI ((itr (fitF σ L v) (0, -9) s).1))), (3, .int ((itr (fitF σ L v) (0, -9) s).2))]) F d_T_fits_68 (j := 4) rfl (nI_inc _) (by decide) rfl ?_
        refine v_goto F 37 d_T_fits_71 rfl ?_
        refine v_sub [1, 2, 3, 4, 0] (ls' := [(0, .ref (u.2.1 0)), (1, .int v), (2, .int (nI ((itr (fitF σ L v) (0, -9) s).1))), (3, .int ((itr (fitF σ L v) (0, -9) s).2)), (4, .int (nI (s + 1)))]) rfl ?_
        have g4 : (nI ((itr (fitF σ L v) (0, -9) s).1)) = (nI ((itr (fitF σ L v) (0, -9) (s + 1)).1)) := (by first | rfl | (simp only [itr, fitF]; rw [if_pos (by assumption)]; first | done | rfl | (simp only [*]; done) | (rw [if_pos (by assumption)]; done) | (rw [if_neg (by assumption)]; done) | (subst_vars; rw [if_pos (by assumption)]; done) | (subst_vars; rw [if_neg (by assumption)]; done)) | (simp only [itr, fitF]; rw [if_neg (by assumption)]))
        have g5 : ((itr (fitF σ L v) (0, -9) s).2) = ((itr (fitF σ L v) (0, -9) (s + 1)).2) := (by first | rfl | (simp only [itr, fitF]; rw [if_pos (by assumption)]; first | done | rfl | (simp only [*]; done) | (rw [if_pos (by assumption)]; done) | (rw [if_neg (by assumption)]; done) | (subst_vars; rw [if_pos (by assumption)]; done) | (subst_vars; rw [if_neg (by assumption)]; done)) | (simp only [itr, fitF]; rw [if_neg (by assumption)]))
        refine v_to (ls' := [(0, .ref (u.2.1 0)), (1, .int v), (2, .int (nI ((itr (fitF σ L v) (0, -9) (s + 1)).1))), (3, .int ((itr (fitF σ L v) (0, -9) (s + 1)).2)), (4, .int (nI (s + 1)))]) (by first | rfl | rw [g4, g5] | simp_all) ?_
        exact ih (s + 1) (by omega) (by omega)
      · skip
        refine v_iload_n F d_T_fits_54 rfl 2 rfl ?_
        refine v_if_ne F 63 d_T_fits_55 rfl (fun h55 => ?_) (fun h55 => ?_)
        · skip
          have h55 : ¬ (itr (fitF σ L v) (0, -9) s).1 = 0 := fun q => h55 ((nI_eq (a := (itr (fitF σ L v) (0, -9) s).1) (b := 0) (by omega) (by omega)).mpr q)
          refine v_iload_n F d_T_fits_63 rfl 3 rfl ?_
          refine v_ni (fun x6 ex6 => ?_)
          refine v_istore_n (ls' := [(3, .int x6), (0, .ref (u.2.1 0)), (1, .int v), (2, .int (nI ((itr (fitF σ L v) (0, -9) s).1))), (4, .int (nI s))]) F d_T_fits_64 rfl (by decide) rfl ?_
          refine v_iinc (v := nI ((itr (fitF σ L v) (0, -9) s).1 + 1)) (ls' := [(2, .int (nI ((itr (fitF σ L v) (0, -9) s).1 + 1))), (3, .int x6), (0, .ref (u.2.1 0)), (1, .int v), (4, .int (nI s))]) F d_T_fits_65 (j := 3) rfl (nI_inc _) (by decide) rfl ?_
          refine v_iinc (v := nI (s + 1)) (ls' := [(4, .int (nI (s + 1))), (2, .int (nI ((itr (fitF σ L v) (0, -9) s).1 + 1))), (3, .int x6), (0, .ref (u.2.1 0)), (1, .int v)]) F d_T_fits_68 (j := 4) rfl (nI_inc _) (by decide) rfl ?_
          refine v_goto F 37 d_T_fits_71 rfl ?_
          refine v_sub [3, 4, 1, 2, 0] (ls' := [(0, .ref (u.2.1 0)), (1, .int v), (2, .int (nI ((itr (fitF σ L v) (0, -9) s).1 + 1))), (3, .int x6), (4, .int (nI (s + 1)))]) rfl ?_
          have g7 : (nI ((itr (fitF σ L v) (0, -9) s).1 + 1)) = (nI ((itr (fitF σ L v) (0, -9) (s + 1)).1)) := (by first | rfl | (simp only [itr, fitF]; rw [if_pos (by assumption)]; first | done | rfl | (simp only [*]; done) | (rw [if_pos (by assumption)]; done) | (rw [if_neg (by assumption)]; done) | (subst_vars; rw [if_pos (by assumption)]; done) | (subst_vars; rw [if_neg (by assumption)]; done)) | (simp only [itr, fitF]; rw [if_neg (by assumption)]))
          have g8 : x6 = ((itr (fitF σ L v) (0, -9) (s + 1)).2) := (by first | rfl | (simp only [itr, fitF]; rw [if_pos (by assumption)]; first | done | rfl | (simp only [*]; done) | (rw [if_pos (by assumption)]; done) | (rw [if_neg (by assumption)]; done) | (subst_vars; rw [if_pos (by assumption)]; done) | (subst_vars; rw [if_neg (by assumption)]; done)) | (simp only [itr, fitF]; rw [if_neg (by assumption)]))
          refine v_to (ls' := [(0, .ref (u.2.1 0)), (1, .int v), (2, .int (nI ((itr (fitF σ L v) (0, -9) (s + 1)).1))), (3, .int ((itr (fitF σ L v) (0, -9) (s + 1)).2)), (4, .int (nI (s + 1)))]) (by first | rfl | rw [g7, g8] | simp_all) ?_
          exact ih (s + 1) (by omega) (by omega)
        · skip
          have h55 : (itr (fitF σ L v) (0, -9) s).1 = 0 := (nI_eq (a := (itr (fitF σ L v) (0, -9) s).1) (b := 0) (by omega) (by omega)).mp h55
          refine v_iload F d_T_fits_58 4 rfl ?_
          refine v_goto F 64 d_T_fits_60 rfl ?_
          refine v_istore_n (ls' := [(3, .int (nI s)), (0, .ref (u.2.1 0)), (1, .int v), (2, .int (nI ((itr (fitF σ L v) (0, -9) s).1))), (4, .int (nI s))]) F d_T_fits_64 rfl (by decide) rfl ?_
          refine v_iinc (v := nI ((itr (fitF σ L v) (0, -9) s).1 + 1)) (ls' := [(2, .int (nI ((itr (fitF σ L v) (0, -9) s).1 + 1))), (3, .int (nI s)), (0, .ref (u.2.1 0)), (1, .int v), (4, .int (nI s))]) F d_T_fits_65 (j := 3) rfl (nI_inc _) (by decide) rfl ?_
          refine v_iinc (v := nI (s + 1)) (ls' := [(4, .int (nI (s + 1))), (2, .int (nI ((itr (fitF σ L v) (0, -9) s).1 + 1))), (3, .int (nI s)), (0, .ref (u.2.1 0)), (1, .int v)]) F d_T_fits_68 (j := 4) rfl (nI_inc _) (by decide) rfl ?_
          refine v_goto F 37 d_T_fits_71 rfl ?_
          refine v_sub [3, 4, 1, 2, 0] (ls' := [(0, .ref (u.2.1 0)), (1, .int v), (2, .int (nI ((itr (fitF σ L v) (0, -9) s).1 + 1))), (3, .int (nI s)), (4, .int (nI (s + 1)))]) rfl ?_
          have g9 : (nI ((itr (fitF σ L v) (0, -9) s).1 + 1)) = (nI ((itr (fitF σ L v) (0, -9) (s + 1)).1)) := (by first | rfl | (simp only [itr, fitF]; rw [if_pos (by assumption)]; first | done | rfl | (simp only [*]; done) | (rw [if_pos (by assumption)]; done) | (rw [if_neg (by assumption)]; done) | (subst_vars; rw [if_pos (by assumption)]; done) | (subst_vars; rw [if_neg (by assumption)]; done)) | (simp only [itr, fitF]; rw [if_neg (by assumption)]))
          have g10 : (nI s) = ((itr (fitF σ L v) (0, -9) (s + 1)).2) := (by first | rfl | (simp only [itr, fitF]; rw [if_pos (by assumption)]; first | done | rfl | (simp only [*]; done) | (rw [if_pos (by assumption)]; done) | (rw [if_neg (by assumption)]; done) | (subst_vars; rw [if_pos (by assumption)]; done) | (subst_vars; rw [if_neg (by assumption)]; done)) | (simp only [itr, fitF]; rw [if_neg (by assumption)]))
          refine v_to (ls' := [(0, .ref (u.2.1 0)), (1, .int v), (2, .int (nI ((itr (fitF σ L v) (0, -9) (s + 1)).1))), (3, .int ((itr (fitF σ L v) (0, -9) (s + 1)).2)), (4, .int (nI (s + 1)))]) (by first | rfl | rw [g9, g10] | simp_all) ?_
          exact ih (s + 1) (by omega) (by omega)
set_option maxHeartbeats 4000000 in
theorem c_T_fits (l : Launch) (u : Un) (hA : Ap u) (σ : St) {n G : Nat} {kd : Nat → Nat} (hb : bkOk σ n G kd) {L : Nat} (hL : σ.1 19 14 = nI L) (hL64 : L < 64) (v : Int32) : MTi l u y_T_fits b_T_fits 5 .int 7 [.ref (u.2.1 0), .int v] σ (fun ans σ' => (ans, σ') = tFits σ G kd n L v) := by
  refine MT_of hA rfl (by decide) (Nat.le_of_ble_eq_true rfl) (fun X hl F hr => ?_)
  subst hl
  refine v_to (ls' := [(0, .ref (u.2.1 0)), (1, .int v)]) rfl ?_
  obtain ⟨hn, hn6, hG, hG64, hkd, hk6⟩ := id hb
  refine v_iload_n F d_T_fits_0 rfl 1 rfl ?_
  refine v_runi (r_S F (c_T_isSum X.2.1 u hA σ v ) mo_T_isSum st_T_251 (by decide) rfl (Nat.le_of_ble_eq_true rfl) d_T_fits_1) (fun r1 σ2 q3 => ?_)
  obtain ⟨rfl, rfl⟩ := q3
  refine v_bf F 9 d_T_fits_4 rfl (fun h4 => ?_) (fun h4 => ?_)
  · skip
    refine v_aload_n F d_T_fits_9 rfl 0 rfl ?_
    refine v_getr (r := 19) F fk_T_36 G0 rfl d_T_fits_10 ?_
    refine v_geti F fk_T_118 G19 rfl d_T_fits_13 ?_
    refine v_if_ne F 22 d_T_fits_16 rfl (fun h16 => ?_) (fun h16 => ?_)
    · skip
      refine v_aload_n F d_T_fits_22 rfl 0 rfl ?_
      refine v_getr (r := 19) F fk_T_36 G0 rfl d_T_fits_23 ?_
      refine v_runv (r_V F (c_B_weigh X.2.1 u hA σ hb hL hL64) mo_B_weigh st_T_204 rc_19 (by decide) rfl (Nat.le_of_ble_eq_true rfl) d_T_fits_26) (fun σ5 q6 => ?_)
      refine v_iconst (v := 0) F d_T_fits_29 ki_0 ?_
      refine v_istore_n (ls' := [(2, .int 0), (0, .ref (u.2.1 0)), (1, .int v)]) F d_T_fits_30 rfl (by decide) rfl ?_
      refine v_bipush (v := (-9)) F d_T_fits_31 kb_m9 ?_
      refine v_istore_n (ls' := [(3, .int (-9)), (2, .int 0), (0, .ref (u.2.1 0)), (1, .int v)]) F d_T_fits_33 rfl (by decide) rfl ?_
      refine v_iconst (v := 0) F d_T_fits_34 ki_0 ?_
      refine v_istore (ls' := [(4, .int 0), (3, .int (-9)), (2, .int 0), (0, .ref (u.2.1 0)), (1, .int v)]) F d_T_fits_35 (by decide) rfl ?_
      have eW : σ5 = wgd σ G kd n L := q6
      refine v_st eW ?_
      have hc := fitF_b (σ := wgd σ G kd n L) (L := L) (v := v) 64
      refine v_sub [3, 4, 2, 1, 0] (ls' := [(0, .ref (u.2.1 0)), (1, .int v), (2, .int 0), (3, .int (-9)), (4, .int 0)]) rfl ?_
      have g7 : 0 = (nI ((itr (fitF (wgd σ G kd n L) L v) (0, -9) 0).1)) := (by first | rfl | (simp only [itr, fitF]; rw [if_pos (by assumption)]; first | done | rfl | (simp only [*]; done) | (rw [if_pos (by assumption)]; done) | (rw [if_neg (by assumption)]; done) | (subst_vars; rw [if_pos (by assumption)]; done) | (subst_vars; rw [if_neg (by assumption)]; done)) | (simp only [itr, fitF]; rw [if_neg (by assumption)]))
      have g8 : (-9) = ((itr (fitF (wgd σ G kd n L) L v) (0, -9) 0).2) := (by first | rfl | (simp only [itr, fitF]; rw [if_pos (by assumption)]; first | done | rfl | (simp only [*]; done) | (rw [if_pos (by assumption)]; done) | (rw [if_neg (by assumption)]; done) | (subst_vars; rw [if_pos (by assumption)]; done) | (subst_vars; rw [if_neg (by assumption)]; done)) | (simp only [itr, fitF]; rw [if_neg (by assumption)]))
      have g9 : 0 = (nI 0) := (by first | rfl | (simp only [itr, fitF]; rw [if_pos (by assumption)]; first | done | rfl | (simp only [*]; done) | (rw [if_pos (by assumption)]; done) | (rw [if_neg (by assumption)]; done) | (subst_vars; rw [if_pos (by assumption)]; done) | (subst_vars; rw [if_neg (by assumption)]; done)) | (simp only [itr, fitF]; rw [if_neg (by assumption)]))
      refine v_to (ls' := [(0, .ref (u.2.1 0)), (1, .int v), (2, .int (nI ((itr (fitF (wgd σ G kd n L) L v) (0, -9) 0).1))), (3, .int ((itr (fitF (wgd σ G kd n L) L v) (0, -9) 0).2)), (4, .int (nI 0))]) (by first | rfl | rw [g7, g8, g9] | simp_all) ?_
      refine v_st (show (wgd σ G kd n L) = ((wgd σ G kd n L)) from (by first | rfl | (simp only [itr, fitF]; rw [if_pos (by assumption)]; first | done | rfl | (simp only [*]; done) | (rw [if_pos (by assumption)]; done) | (rw [if_neg (by assumption)]; done) | (subst_vars; rw [if_pos (by assumption)]; done) | (subst_vars; rw [if_neg (by assumption)]; done)) | (simp only [itr, fitF]; rw [if_neg (by assumption)]))) ?_
      refine L_T_fits_37 hA F (by rw [wgd_k _ _ _ _ _ (by decide) (by decide)]; exact hL) hL64 ?_ _ 0 (Nat.zero_le _) (Nat.lt_succ_self _)
      refine v_aload_n F d_T_fits_74 rfl 0 rfl ?_
      refine v_iload_n F d_T_fits_75 rfl 2 rfl ?_
      refine v_i2l F d_T_fits_76 ?_
      refine v_tl (y := (lN (itr (fitF (wgd σ G kd n L) L v) (0, -9) 64).1)) (nI_l (by omega)) ?_
      refine v_lconst (v := 1) F d_T_fits_77 rfl ?_
      refine v_runv (r_V F (c_T_tellNumbers X.2.1 u hA ((wgd σ G kd n L)) ((itr (fitF (wgd σ G kd n L) L v) (0, -9) 64).1) 1 (by omega) (by omega) (by omega)) mo_T_tellNumbers st_T_233 rc_0 (by decide) rfl (Nat.le_of_ble_eq_true rfl) d_T_fits_78) (fun σ11 q12 => ?_)
      refine v_aload_n F d_T_fits_81 rfl 0 rfl ?_
      refine v_iload_n F d_T_fits_82 rfl 3 rfl ?_
      refine v_puti F fk_T_88 pk_T_told G0 rfl d_T_fits_83 ?_
      refine v_ns (fun σ13 eσ13 => ?_)
      refine v_iconst (v := 1) F d_T_fits_86 ki_1 ?_
      refine v_iret F hr rfl d_T_fits_87 ?_
      unfold tFits
      rw [if_neg (fun q => q h4), if_neg h16]
      subst_vars
      simp only [Nat.gcd_one_right, Nat.div_one]
    · skip
      refine v_bipush (v := (-4)) F d_T_fits_19 kb_m4 ?_
      refine v_iret F hr rfl d_T_fits_21 ?_
      unfold tFits
      (repeat' split) <;> first | rfl | (exfalso; grind) | (subst_vars; rfl) | grind
  · skip
    refine v_iconst (v := (-1)) F d_T_fits_7 ki_m1 ?_
    refine v_iret F hr rfl d_T_fits_8 ?_
    unfold tFits
    (repeat' split) <;> first | rfl | (exfalso; grind) | (subst_vars; rfl) | grind
abbrev b_T_sure : ByteArray := prog_1_method_29_code
abbrev y_T_sure : MethodName := ⟨"TakerBook", "sure", "(I)I"⟩
theorem d_T_sure_0 : decode b_T_sure 0 = .ok (.aload_n 0, 1) := by decide +kernel
theorem d_T_sure_1 : decode b_T_sure 1 = .ok (.iload_n 1, 1) := by decide +kernel
theorem d_T_sure_2 : decode b_T_sure 2 = .ok (.invokevirtual 257, 3) := by decide +kernel
theorem d_T_sure_5 : decode b_T_sure 5 = .ok (.istore_n 2, 1) := by decide +kernel
theorem d_T_sure_6 : decode b_T_sure 6 = .ok (.iload_n 2, 1) := by decide +kernel
theorem d_T_sure_7 : decode b_T_sure 7 = .ok (.ifCond .eq 5, 3) := by decide +kernel
theorem d_T_sure_10 : decode b_T_sure 10 = .ok (.iload_n 2, 1) := by decide +kernel
theorem d_T_sure_11 : decode b_T_sure 11 = .ok (.ireturn, 1) := by decide +kernel
theorem d_T_sure_12 : decode b_T_sure 12 = .ok (.aload_n 0, 1) := by decide +kernel
theorem d_T_sure_13 : decode b_T_sure 13 = .ok (.getfield 36, 3) := by decide +kernel
theorem d_T_sure_16 : decode b_T_sure 16 = .ok (.getfield 166, 3) := by decide +kernel
theorem d_T_sure_19 : decode b_T_sure 19 = .ok (.istore_n 3, 1) := by decide +kernel
theorem d_T_sure_20 : decode b_T_sure 20 = .ok (.iconst 0, 1) := by decide +kernel
theorem d_T_sure_21 : decode b_T_sure 21 = .ok (.istore 4, 2) := by decide +kernel
theorem d_T_sure_23 : decode b_T_sure 23 = .ok (.iconst 0, 1) := by decide +kernel
theorem d_T_sure_24 : decode b_T_sure 24 = .ok (.istore 5, 2) := by decide +kernel
theorem d_T_sure_26 : decode b_T_sure 26 = .ok (.iload 5, 2) := by decide +kernel
theorem d_T_sure_28 : decode b_T_sure 28 = .ok (.bipush 64, 2) := by decide +kernel
theorem d_T_sure_30 : decode b_T_sure 30 = .ok (.if_icmp .ge 31, 3) := by decide +kernel
theorem d_T_sure_33 : decode b_T_sure 33 = .ok (.aload_n 0, 1) := by decide +kernel
theorem d_T_sure_34 : decode b_T_sure 34 = .ok (.iload 5, 2) := by decide +kernel
theorem d_T_sure_36 : decode b_T_sure 36 = .ok (.iload_n 1, 1) := by decide +kernel
theorem d_T_sure_37 : decode b_T_sure 37 = .ok (.invokevirtual 254, 3) := by decide +kernel
theorem d_T_sure_40 : decode b_T_sure 40 = .ok (.ifCond .eq 15, 3) := by decide +kernel
theorem d_T_sure_43 : decode b_T_sure 43 = .ok (.iload_n 3, 1) := by decide +kernel
theorem d_T_sure_44 : decode b_T_sure 44 = .ok (.iload 5, 2) := by decide +kernel
theorem d_T_sure_46 : decode b_T_sure 46 = .ok (.iand, 1) := by decide +kernel
theorem d_T_sure_47 : decode b_T_sure 47 = .ok (.istore_n 3, 1) := by decide +kernel
theorem d_T_sure_48 : decode b_T_sure 48 = .ok (.iload 4, 2) := by decide +kernel
theorem d_T_sure_50 : decode b_T_sure 50 = .ok (.iload 5, 2) := by decide +kernel
theorem d_T_sure_52 : decode b_T_sure 52 = .ok (.ior, 1) := by decide +kernel
theorem d_T_sure_53 : decode b_T_sure 53 = .ok (.istore 4, 2) := by decide +kernel
theorem d_T_sure_55 : decode b_T_sure 55 = .ok (.iinc 5 1, 3) := by decide +kernel
theorem d_T_sure_58 : decode b_T_sure 58 = .ok (.goto (-32), 3) := by decide +kernel
theorem d_T_sure_61 : decode b_T_sure 61 = .ok (.aload_n 0, 1) := by decide +kernel
theorem d_T_sure_62 : decode b_T_sure 62 = .ok (.aload_n 0, 1) := by decide +kernel
theorem d_T_sure_63 : decode b_T_sure 63 = .ok (.getfield 36, 3) := by decide +kernel
theorem d_T_sure_66 : decode b_T_sure 66 = .ok (.getfield 166, 3) := by decide +kernel
theorem d_T_sure_69 : decode b_T_sure 69 = .ok (.iload 4, 2) := by decide +kernel
theorem d_T_sure_71 : decode b_T_sure 71 = .ok (.iconst (-1), 1) := by decide +kernel
theorem d_T_sure_72 : decode b_T_sure 72 = .ok (.ixor, 1) := by decide +kernel
theorem d_T_sure_73 : decode b_T_sure 73 = .ok (.iand, 1) := by decide +kernel
theorem d_T_sure_74 : decode b_T_sure 74 = .ok (.putfield 88, 3) := by decide +kernel
theorem d_T_sure_77 : decode b_T_sure 77 = .ok (.iload_n 3, 1) := by decide +kernel
theorem d_T_sure_78 : decode b_T_sure 78 = .ok (.ireturn, 1) := by decide +kernel
theorem mo_T_sure : mok y_T_sure b_T_sure 6 (some .int) 1 := ⟨List.mem_of_getElem? (i := 826) (by decide +kernel), ⟨by decide +kernel, by decide +kernel, by decide +kernel⟩, List.mem_of_getElem? (i := 74) (by decide +kernel), by decide⟩
set_option maxHeartbeats 4000000 in
theorem L_T_sure_26 {X : FX} {u : Un} (hA : Ap u) {Q : State → Prop} (F : Fr X u "TakerBook" b_T_sure 6) {σ : St} {L : Nat} (hL : σ.1 19 14 = nI L) (hL64 : L < 64) {v : Int32} (k : V X u 8 6 Q 61 [(0, .ref (u.2.1 0)), (1, .int v), (3, .int (nI ((itr (sureF σ L v) (L, 0) 64).1))), (4, .int (nI ((itr (sureF σ L v) (L, 0) 64).2))), (5, .int (nI 64))] [] (σ)) : ∀ (nn s : Nat), s ≤ 64 → 64 - s < nn → V X u 8 6 Q 26 [(0, .ref (u.2.1 0)), (1, .int v), (3, .int (nI ((itr (sureF σ L v) (L, 0) s).1))), (4, .int (nI ((itr (sureF σ L v) (L, 0) s).2))), (5, .int (nI s))] [] (σ) := by
  intro nn
  induction nn with
  | zero =>
    intro s h1 h2
    exact absurd h2 (Nat.not_lt_zero _)
  | succ nn ih =>
    intro s hii hnn
    refine v_iload F d_T_sure_26 4 rfl ?_
    refine v_bipush (v := 64) F d_T_sure_28 kb_64 ?_
    refine v_icmp_ge F 61 d_T_sure_30 rfl (fun h30 => ?_) (fun h30 => ?_)
    · skip
      have h30 : 64 ≤ s := (nI_leI (a := 64) (b := s) (by omega) (by omega)).mp h30
      have he : s = 64 := by omega
      subst he
      exact k
    · skip
      have h30 : ¬ 64 ≤ s := fun q => h30 ((nI_leI (a := 64) (b := s) (by omega) (by omega)).mpr q)
      refine v_aload_n F d_T_sure_33 rfl 0 rfl ?_
      refine v_iload F d_T_sure_34 4 rfl ?_
      refine v_iload_n F d_T_sure_36 rfl 1 rfl ?_
      refine v_runi (r_V F (c_T_isSuchSet X.2.1 u hA σ hL hL64 s v (by omega)) mo_T_isSuchSet st_T_254 rc_0 (by decide) rfl (Nat.le_of_ble_eq_true rfl) d_T_sure_37) (fun r1 σ2 q3 => ?_)
      obtain ⟨rfl, rfl⟩ := q3
      refine v_bt F 55 d_T_sure_40 rfl (fun h40 => ?_) (fun h40 => ?_)
      · skip
        refine v_iinc (v := nI (s + 1)) (ls' := [(5, .int (nI (s + 1))), (0, .ref (u.2.1 0)), (1, .int v), (3, .int (nI ((itr (sureF σ L v) (L, 0) s).1))), (4, .int (nI ((itr (sureF σ L v) (L, 0) s).2)))]) F d_T_sure_55 (j := 4) rfl (nI_inc _) (by decide) rfl ?_
        refine v_goto F 26 d_T_sure_58 rfl ?_
        refine v_sub [1, 2, 3, 4, 0] (ls' := [(0, .ref (u.2.1 0)), (1, .int v), (3, .int (nI ((itr (sureF σ L v) (L, 0) s).1))), (4, .int (nI ((itr (sureF σ L v) (L, 0) s).2))), (5, .int (nI (s + 1)))]) rfl ?_
        have g4 : (nI ((itr (sureF σ L v) (L, 0) s).1)) = (nI ((itr (sureF σ L v) (L, 0) (s + 1)).1)) := (by first | rfl | (simp only [itr, sureF]; rw [if_pos (by assumption)]; first | done | assumption) | (simp only [itr, sureF]; rw [if_neg (by assumption)]))
        have g5 : (nI ((itr (sureF σ L v) (L, 0) s).2)) = (nI ((itr (sureF σ L v) (L, 0) (s + 1)).2)) := (by first | rfl | (simp only [itr, sureF]; rw [if_pos (by assumption)]; first | done | assumption) | (simp only [itr, sureF]; rw [if_neg (by assumption)]))
        refine v_to (ls' := [(0, .ref (u.2.1 0)), (1, .int v), (3, .int (nI ((itr (sureF σ L v) (L, 0) (s + 1)).1))), (4, .int (nI ((itr (sureF σ L v) (L, 0) (s + 1)).2))), (5, .int (nI (s + 1)))]) (by first | rfl | rw [g4, g5] | simp_all) ?_
        exact ih (s + 1) (by omega) (by omega)
      · skip
        refine v_iload_n F d_T_sure_43 rfl 2 rfl ?_
        refine v_iload F d_T_sure_44 4 rfl ?_
        refine v_iand F d_T_sure_46 ?_
        refine v_te (y := nI ((itr (sureF σ L v) (L, 0) s).1 &&& s)) nI_and ?_
        refine v_ni (fun x6 ex6 => ?_)
        refine v_istore_n (ls' := [(3, .int x6), (0, .ref (u.2.1 0)), (1, .int v), (4, .int (nI ((itr (sureF σ L v) (L, 0) s).2))), (5, .int (nI s))]) F d_T_sure_47 rfl (by decide) rfl ?_
        refine v_iload F d_T_sure_48 3 rfl ?_
        refine v_iload F d_T_sure_50 4 rfl ?_
        refine v_ior F d_T_sure_52 ?_
        refine v_te (y := nI (((itr (sureF σ L v) (L, 0) s).2) ||| s)) nI_or ?_
        refine v_ni (fun x7 ex7 => ?_)
        refine v_istore (ls' := [(4, .int x7), (3, .int x6), (0, .ref (u.2.1 0)), (1, .int v), (5, .int (nI s))]) F d_T_sure_53 (by decide) rfl ?_
        refine v_iinc (v := nI (s + 1)) (ls' := [(5, .int (nI (s + 1))), (4, .int x7), (3, .int x6), (0, .ref (u.2.1 0)), (1, .int v)]) F d_T_sure_55 (j := 4) rfl (nI_inc _) (by decide) rfl ?_
        refine v_goto F 26 d_T_sure_58 rfl ?_
        refine v_sub [3, 4, 2, 1, 0] (ls' := [(0, .ref (u.2.1 0)), (1, .int v), (3, .int x6), (4, .int x7), (5, .int (nI (s + 1)))]) rfl ?_
        have g8 : x6 = (nI ((itr (sureF σ L v) (L, 0) (s + 1)).1)) := (by first | rfl | (simp only [itr, sureF]; rw [if_pos (by assumption)]; first | done | assumption) | (simp only [itr, sureF]; rw [if_neg (by assumption)]))
        have g9 : x7 = (nI ((itr (sureF σ L v) (L, 0) (s + 1)).2)) := (by first | rfl | (simp only [itr, sureF]; rw [if_pos (by assumption)]; first | done | assumption) | (simp only [itr, sureF]; rw [if_neg (by assumption)]))
        refine v_to (ls' := [(0, .ref (u.2.1 0)), (1, .int v), (3, .int (nI ((itr (sureF σ L v) (L, 0) (s + 1)).1))), (4, .int (nI ((itr (sureF σ L v) (L, 0) (s + 1)).2))), (5, .int (nI (s + 1)))]) (by first | rfl | rw [g8, g9] | simp_all) ?_
        exact ih (s + 1) (by omega) (by omega)
set_option maxHeartbeats 4000000 in
theorem c_T_sure (l : Launch) (u : Un) (hA : Ap u) (σ : St) {n G : Nat} {kd : Nat → Nat} (hb : bkOk σ n G kd) {L : Nat} (hL : σ.1 19 14 = nI L) (hL64 : L < 64) (v : Int32) : MTi l u y_T_sure b_T_sure 6 .int 8 [.ref (u.2.1 0), .int v] σ (fun x σ' => (¬ (0 ≤ v ∧ v ≤ 99) ∧ -1 = x ∧ σ = σ') ∨ ((0 ≤ v ∧ v ≤ 99) ∧ σ.1 19 8 = 0 ∧ -4 = x ∧ σ = σ') ∨ ((0 ≤ v ∧ v ≤ 99) ∧ ¬ σ.1 19 8 = 0 ∧ exS (wgd σ G kd n L) L v ∧ (x, σ') = tSure (wgd σ G kd n L) L v) ∨ ((0 ≤ v ∧ v ≤ 99) ∧ ¬ σ.1 19 8 = 0 ∧ ¬ exS (wgd σ G kd n L) L v ∧ -3 = x ∧ σ' = tRef (wgd σ G kd n L) 4)) := by
  refine MT_of hA rfl (by decide) (Nat.le_of_ble_eq_true rfl) (fun X hl F hr => ?_)
  subst hl
  refine v_to (ls' := [(0, .ref (u.2.1 0)), (1, .int v)]) rfl ?_
  obtain ⟨hn, hn6, hG, hG64, hkd, hk6⟩ := id hb
  refine v_aload_n F d_T_sure_0 rfl 0 rfl ?_
  refine v_iload_n F d_T_sure_1 rfl 1 rfl ?_
  refine v_runi (r_V F (c_T_refusedGoods X.2.1 u hA σ hb hL hL64 v) mo_T_refusedGoods st_T_257 rc_0 (by decide) rfl (Nat.le_of_ble_eq_true rfl) d_T_sure_2) (fun r1 σ2 q3 => ?_)
  rcases q3 with ⟨a1, rfl, rfl⟩ | ⟨a1, a2, rfl, rfl⟩ | ⟨a1, a2, a3, rfl, rfl⟩ | ⟨a1, a2, a3, rfl, eσ2⟩
  · skip
    refine v_istore_n (ls' := [(2, .int (-1)), (0, .ref (u.2.1 0)), (1, .int v)]) F d_T_sure_5 rfl (by decide) rfl ?_
    refine v_iload_n F d_T_sure_6 rfl 0 rfl ?_
    refine v_if_eq F 12 d_T_sure_7 rfl (fun h => absurd h (by decide)) (fun _ => ?_)
    refine v_iload_n F d_T_sure_10 rfl 0 rfl ?_
    refine v_iret F hr rfl d_T_sure_11 ?_
    exact Or.inl ⟨a1, rfl, rfl⟩
  · skip
    refine v_istore_n (ls' := [(2, .int (-4)), (0, .ref (u.2.1 0)), (1, .int v)]) F d_T_sure_5 rfl (by decide) rfl ?_
    refine v_iload_n F d_T_sure_6 rfl 0 rfl ?_
    refine v_if_eq F 12 d_T_sure_7 rfl (fun h => absurd h (by decide)) (fun _ => ?_)
    refine v_iload_n F d_T_sure_10 rfl 0 rfl ?_
    refine v_iret F hr rfl d_T_sure_11 ?_
    exact Or.inr (Or.inl ⟨a1, a2, rfl, rfl⟩)
  · skip
    refine v_istore_n (ls' := [(2, .int 0), (0, .ref (u.2.1 0)), (1, .int v)]) F d_T_sure_5 rfl (by decide) rfl ?_
    refine v_iload_n F d_T_sure_6 rfl 0 rfl ?_
    refine v_if_eq F 12 d_T_sure_7 rfl (fun _ => ?_) (fun h => absurd (by decide) h)
    refine v_aload_n F d_T_sure_12 rfl 1 rfl ?_
    refine v_getr (r := 19) F fk_T_36 G0 rfl d_T_sure_13 ?_
    refine v_geti F fk_T_166 G19 rfl d_T_sure_16 ?_
    refine v_te (y := nI L) (by rw [wgd_k _ _ _ _ _ (by decide) (by decide)]; exact hL) ?_
    refine v_istore_n (ls' := [(3, .int (nI L)), (2, .int 0), (0, .ref (u.2.1 0)), (1, .int v)]) F d_T_sure_19 rfl (by decide) rfl ?_
    refine v_iconst (v := 0) F d_T_sure_20 ki_0 ?_
    refine v_istore (ls' := [(4, .int 0), (3, .int (nI L)), (2, .int 0), (0, .ref (u.2.1 0)), (1, .int v)]) F d_T_sure_21 (by decide) rfl ?_
    refine v_iconst (v := 0) F d_T_sure_23 ki_0 ?_
    refine v_istore (ls' := [(5, .int 0), (4, .int 0), (3, .int (nI L)), (2, .int 0), (0, .ref (u.2.1 0)), (1, .int v)]) F d_T_sure_24 (by decide) rfl ?_
    have hsb := sureF_b (σ := wgd σ G kd n L) (v := v) hL64 64 (Nat.le_refl _)
    refine v_sub [4, 5, 2, 1, 0] (ls' := [(0, .ref (u.2.1 0)), (1, .int v), (3, .int (nI L)), (4, .int 0), (5, .int 0)]) rfl ?_
    have g4 : (nI L) = (nI ((itr (sureF (wgd σ G kd n L) L v) (L, 0) 0).1)) := (by first | rfl | (simp only [itr, sureF]; rw [if_pos (by assumption)]; first | done | assumption) | (simp only [itr, sureF]; rw [if_neg (by assumption)]))
    have g5 : 0 = (nI ((itr (sureF (wgd σ G kd n L) L v) (L, 0) 0).2)) := (by first | rfl | (simp only [itr, sureF]; rw [if_pos (by assumption)]; first | done | assumption) | (simp only [itr, sureF]; rw [if_neg (by assumption)]))
    have g6 : 0 = (nI 0) := (by first | rfl | (simp only [itr, sureF]; rw [if_pos (by assumption)]; first | done | assumption) | (simp only [itr, sureF]; rw [if_neg (by assumption)]))
    refine v_to (ls' := [(0, .ref (u.2.1 0)), (1, .int v), (3, .int (nI ((itr (sureF (wgd σ G kd n L) L v) (L, 0) 0).1))), (4, .int (nI ((itr (sureF (wgd σ G kd n L) L v) (L, 0) 0).2))), (5, .int (nI 0))]) (by first | rfl | rw [g4, g5, g6] | simp_all) ?_
    refine v_st (show (wgd σ G kd n L) = ((wgd σ G kd n L)) from (by first | rfl | (simp only [itr, sureF]; rw [if_pos (by assumption)]; first | done | assumption) | (simp only [itr, sureF]; rw [if_neg (by assumption)]))) ?_
    refine L_T_sure_26 hA F (by rw [wgd_k _ _ _ _ _ (by decide) (by decide)]; exact hL) hL64 ?_ _ 0 (Nat.zero_le _) (Nat.lt_succ_self _)
    refine v_aload_n F d_T_sure_61 rfl 0 rfl ?_
    refine v_aload_n F d_T_sure_62 rfl 0 rfl ?_
    refine v_getr (r := 19) F fk_T_36 G0 rfl d_T_sure_63 ?_
    refine v_geti F fk_T_166 G19 rfl d_T_sure_66 ?_
    refine v_te (y := nI L) (by rw [wgd_k _ _ _ _ _ (by decide) (by decide)]; exact hL) ?_
    refine v_iload F d_T_sure_69 3 rfl ?_
    refine v_iconst (v := (-1)) F d_T_sure_71 ki_m1 ?_
    refine v_ixor F d_T_sure_72 ?_
    refine v_iand F d_T_sure_73 ?_
    refine v_te (y := nI (L &&& (63 ^^^ (itr (sureF (wgd σ G kd n L) L v) (L, 0) 64).2))) (sub6 hL64 hsb.2) ?_
    refine v_puti F fk_T_88 pk_T_told G0 rfl d_T_sure_74 ?_
    refine v_ns (fun σ7 eσ7 => ?_)
    refine v_iload_n F d_T_sure_77 rfl 2 rfl ?_
    refine v_iret F hr rfl d_T_sure_78 ?_
    exact Or.inr (Or.inr (Or.inl ⟨a1, a2, a3, by subst_vars; rfl⟩))
  · skip
    refine v_istore_n (ls' := [(2, .int (-3)), (0, .ref (u.2.1 0)), (1, .int v)]) F d_T_sure_5 rfl (by decide) rfl ?_
    refine v_iload_n F d_T_sure_6 rfl 0 rfl ?_
    refine v_if_eq F 12 d_T_sure_7 rfl (fun h => absurd h (by decide)) (fun _ => ?_)
    refine v_iload_n F d_T_sure_10 rfl 0 rfl ?_
    refine v_iret F hr rfl d_T_sure_11 ?_
    exact Or.inr (Or.inr (Or.inr ⟨a1, a2, a3, rfl, by assumption⟩))
abbrev b_T_greaterPart : ByteArray := prog_1_method_67_code
abbrev y_T_greaterPart : MethodName := ⟨"TakerBook", "greaterPart", "(II)I"⟩
theorem d_T_greaterPart_0 : decode b_T_greaterPart 0 = .ok (.iconst 0, 1) := by decide +kernel
theorem d_T_greaterPart_1 : decode b_T_greaterPart 1 = .ok (.istore_n 3, 1) := by decide +kernel
theorem d_T_greaterPart_2 : decode b_T_greaterPart 2 = .ok (.iconst 0, 1) := by decide +kernel
theorem d_T_greaterPart_3 : decode b_T_greaterPart 3 = .ok (.istore 4, 2) := by decide +kernel
theorem d_T_greaterPart_5 : decode b_T_greaterPart 5 = .ok (.iconst 0, 1) := by decide +kernel
theorem d_T_greaterPart_6 : decode b_T_greaterPart 6 = .ok (.istore 5, 2) := by decide +kernel
theorem d_T_greaterPart_8 : decode b_T_greaterPart 8 = .ok (.iload 5, 2) := by decide +kernel
theorem d_T_greaterPart_10 : decode b_T_greaterPart 10 = .ok (.bipush 64, 2) := by decide +kernel
theorem d_T_greaterPart_12 : decode b_T_greaterPart 12 = .ok (.if_icmp .ge 37, 3) := by decide +kernel
theorem d_T_greaterPart_15 : decode b_T_greaterPart 15 = .ok (.aload_n 0, 1) := by decide +kernel
theorem d_T_greaterPart_16 : decode b_T_greaterPart 16 = .ok (.iload 5, 2) := by decide +kernel
theorem d_T_greaterPart_18 : decode b_T_greaterPart 18 = .ok (.iload_n 2, 1) := by decide +kernel
theorem d_T_greaterPart_19 : decode b_T_greaterPart 19 = .ok (.invokevirtual 254, 3) := by decide +kernel
theorem d_T_greaterPart_22 : decode b_T_greaterPart 22 = .ok (.ifCond .eq 21, 3) := by decide +kernel
theorem d_T_greaterPart_25 : decode b_T_greaterPart 25 = .ok (.iload_n 1, 1) := by decide +kernel
theorem d_T_greaterPart_26 : decode b_T_greaterPart 26 = .ok (.iload 5, 2) := by decide +kernel
theorem d_T_greaterPart_28 : decode b_T_greaterPart 28 = .ok (.invokestatic 169, 3) := by decide +kernel
theorem d_T_greaterPart_31 : decode b_T_greaterPart 31 = .ok (.ifCond .eq 9, 3) := by decide +kernel
theorem d_T_greaterPart_34 : decode b_T_greaterPart 34 = .ok (.iinc 3 1, 3) := by decide +kernel
theorem d_T_greaterPart_37 : decode b_T_greaterPart 37 = .ok (.goto 6, 3) := by decide +kernel
theorem d_T_greaterPart_40 : decode b_T_greaterPart 40 = .ok (.iinc 4 1, 3) := by decide +kernel
theorem d_T_greaterPart_43 : decode b_T_greaterPart 43 = .ok (.iinc 5 1, 3) := by decide +kernel
theorem d_T_greaterPart_46 : decode b_T_greaterPart 46 = .ok (.goto (-38), 3) := by decide +kernel
theorem d_T_greaterPart_49 : decode b_T_greaterPart 49 = .ok (.iload_n 3, 1) := by decide +kernel
theorem d_T_greaterPart_50 : decode b_T_greaterPart 50 = .ok (.iload 4, 2) := by decide +kernel
theorem d_T_greaterPart_52 : decode b_T_greaterPart 52 = .ok (.invokestatic 358, 3) := by decide +kernel
theorem d_T_greaterPart_55 : decode b_T_greaterPart 55 = .ok (.ireturn, 1) := by decide +kernel
theorem mo_T_greaterPart : mok y_T_greaterPart b_T_greaterPart 6 (some .int) 2 := ⟨List.mem_of_getElem? (i := 838) (by decide +kernel), ⟨by decide +kernel, by decide +kernel, by decide +kernel⟩, List.mem_of_getElem? (i := 74) (by decide +kernel), by decide⟩
set_option maxHeartbeats 4000000 in
theorem L_T_greaterPart_8 {X : FX} {u : Un} (hA : Ap u) {Q : State → Prop} (F : Fr X u "TakerBook" b_T_greaterPart 6) {σ : St} {L : Nat} (hL : σ.1 19 14 = nI L) (hL64 : L < 64) {v : Int32} {i : Nat} (hi : i < 6) (k : V X u 3 6 Q 49 [(0, .ref (u.2.1 0)), (1, .int (nI i)), (2, .int v), (3, .int (nI ((itr (gpF σ L v i) (0, 0) 64).1))), (4, .int (nI ((itr (gpF σ L v i) (0, 0) 64).2))), (5, .int (nI 64))] [] (σ)) : ∀ (nn s : Nat), s ≤ 64 → 64 - s < nn → V X u 3 6 Q 8 [(0, .ref (u.2.1 0)), (1, .int (nI i)), (2, .int v), (3, .int (nI ((itr (gpF σ L v i) (0, 0) s).1))), (4, .int (nI ((itr (gpF σ L v i) (0, 0) s).2))), (5, .int (nI s))] [] (σ) := by
  intro nn
  induction nn with
  | zero =>
    intro s h1 h2
    exact absurd h2 (Nat.not_lt_zero _)
  | succ nn ih =>
    intro s hii hnn
    refine v_iload F d_T_greaterPart_8 5 rfl ?_
    refine v_bipush (v := 64) F d_T_greaterPart_10 kb_64 ?_
    refine v_icmp_ge F 49 d_T_greaterPart_12 rfl (fun h12 => ?_) (fun h12 => ?_)
    · skip
      have h12 : 64 ≤ s := (nI_leI (a := 64) (b := s) (by omega) (by omega)).mp h12
      have he : s = 64 := by omega
      subst he
      exact k
    · skip
      have h12 : ¬ 64 ≤ s := fun q => h12 ((nI_leI (a := 64) (b := s) (by omega) (by omega)).mpr q)
      refine v_aload_n F d_T_greaterPart_15 rfl 0 rfl ?_
      refine v_iload F d_T_greaterPart_16 5 rfl ?_
      refine v_iload_n F d_T_greaterPart_18 rfl 2 rfl ?_
      refine v_runi (r_V F (c_T_isSuchSet X.2.1 u hA σ hL hL64 s v (by omega)) mo_T_isSuchSet st_T_254 rc_0 (by decide) rfl (Nat.le_of_ble_eq_true rfl) d_T_greaterPart_19) (fun r1 σ2 q3 => ?_)
      obtain ⟨rfl, rfl⟩ := q3
      refine v_bt F 43 d_T_greaterPart_22 rfl (fun h22 => ?_) (fun h22 => ?_)
      · skip
        refine v_iinc (v := nI (s + 1)) (ls' := [(5, .int (nI (s + 1))), (0, .ref (u.2.1 0)), (1, .int (nI i)), (2, .int v), (3, .int (nI ((itr (gpF σ L v i) (0, 0) s).1))), (4, .int (nI ((itr (gpF σ L v i) (0, 0) s).2)))]) F d_T_greaterPart_43 (j := 5) rfl (nI_inc _) (by decide) rfl ?_
        refine v_goto F 8 d_T_greaterPart_46 rfl ?_
        refine v_sub [1, 2, 3, 4, 5, 0] (ls' := [(0, .ref (u.2.1 0)), (1, .int (nI i)), (2, .int v), (3, .int (nI ((itr (gpF σ L v i) (0, 0) s).1))), (4, .int (nI ((itr (gpF σ L v i) (0, 0) s).2))), (5, .int (nI (s + 1)))]) rfl ?_
        have g4 : (nI ((itr (gpF σ L v i) (0, 0) s).1)) = (nI ((itr (gpF σ L v i) (0, 0) (s + 1)).1)) := (by first | rfl | (simp only [itr, gpF]; rw [if_pos (by assumption), if_pos (by assumption)]; done) | (simp only [itr, gpF]; rw [if_pos (by assumption), if_neg (by assumption)]; done) | (simp only [itr, gpF]; rw [if_neg (by assumption)]; done))
        have g5 : (nI ((itr (gpF σ L v i) (0, 0) s).2)) = (nI ((itr (gpF σ L v i) (0, 0) (s + 1)).2)) := (by first | rfl | (simp only [itr, gpF]; rw [if_pos (by assumption), if_pos (by assumption)]; done) | (simp only [itr, gpF]; rw [if_pos (by assumption), if_neg (by assumption)]; done) | (simp only [itr, gpF]; rw [if_neg (by assumption)]; done))
        refine v_to (ls' := [(0, .ref (u.2.1 0)), (1, .int (nI i)), (2, .int v), (3, .int (nI ((itr (gpF σ L v i) (0, 0) (s + 1)).1))), (4, .int (nI ((itr (gpF σ L v i) (0, 0) (s + 1)).2))), (5, .int (nI (s + 1)))]) (by first | rfl | rw [g4, g5] | simp_all) ?_
        exact ih (s + 1) (by omega) (by omega)
      · skip
        refine v_iload_n F d_T_greaterPart_25 rfl 1 rfl ?_
        refine v_iload F d_T_greaterPart_26 5 rfl ?_
        refine v_runi (r_S F (c_T_isIn2 X.2.1 u hA σ i s (by omega) (by omega)) mo_T_isIn st_T_169 (by decide) rfl (Nat.le_of_ble_eq_true rfl) d_T_greaterPart_28) (fun r6 σ7 q8 => ?_)
        obtain ⟨rfl, rfl⟩ := q8
        refine v_bt F 40 d_T_greaterPart_31 rfl (fun h31 => ?_) (fun h31 => ?_)
        · skip
          refine v_iinc (v := nI ((itr (gpF σ L v i) (0, 0) s).2 + 1)) (ls' := [(4, .int (nI ((itr (gpF σ L v i) (0, 0) s).2 + 1))), (0, .ref (u.2.1 0)), (1, .int (nI i)), (2, .int v), (3, .int (nI ((itr (gpF σ L v i) (0, 0) s).1))), (5, .int (nI s))]) F d_T_greaterPart_40 (j := 4) rfl (nI_inc _) (by decide) rfl ?_
          refine v_iinc (v := nI (s + 1)) (ls' := [(5, .int (nI (s + 1))), (4, .int (nI ((itr (gpF σ L v i) (0, 0) s).2 + 1))), (0, .ref (u.2.1 0)), (1, .int (nI i)), (2, .int v), (3, .int (nI ((itr (gpF σ L v i) (0, 0) s).1)))]) F d_T_greaterPart_43 (j := 5) rfl (nI_inc _) (by decide) rfl ?_
          refine v_goto F 8 d_T_greaterPart_46 rfl ?_
          refine v_sub [2, 3, 4, 5, 1, 0] (ls' := [(0, .ref (u.2.1 0)), (1, .int (nI i)), (2, .int v), (3, .int (nI ((itr (gpF σ L v i) (0, 0) s).1))), (4, .int (nI ((itr (gpF σ L v i) (0, 0) s).2 + 1))), (5, .int (nI (s + 1)))]) rfl ?_
          have g9 : (nI ((itr (gpF σ L v i) (0, 0) s).1)) = (nI ((itr (gpF σ L v i) (0, 0) (s + 1)).1)) := (by first | rfl | (simp only [itr, gpF]; rw [if_pos (by assumption), if_pos (by assumption)]; done) | (simp only [itr, gpF]; rw [if_pos (by assumption), if_neg (by assumption)]; done) | (simp only [itr, gpF]; rw [if_neg (by assumption)]; done))
          have g10 : (nI ((itr (gpF σ L v i) (0, 0) s).2 + 1)) = (nI ((itr (gpF σ L v i) (0, 0) (s + 1)).2)) := (by first | rfl | (simp only [itr, gpF]; rw [if_pos (by assumption), if_pos (by assumption)]; done) | (simp only [itr, gpF]; rw [if_pos (by assumption), if_neg (by assumption)]; done) | (simp only [itr, gpF]; rw [if_neg (by assumption)]; done))
          refine v_to (ls' := [(0, .ref (u.2.1 0)), (1, .int (nI i)), (2, .int v), (3, .int (nI ((itr (gpF σ L v i) (0, 0) (s + 1)).1))), (4, .int (nI ((itr (gpF σ L v i) (0, 0) (s + 1)).2))), (5, .int (nI (s + 1)))]) (by first | rfl | rw [g9, g10] | simp_all) ?_
          exact ih (s + 1) (by omega) (by omega)
        · skip
          refine v_iinc (v := nI ((itr (gpF σ L v i) (0, 0) s).1 + 1)) (ls' := [(3, .int (nI ((itr (gpF σ L v i) (0, 0) s).1 + 1))), (0, .ref (u.2.1 0)), (1, .int (nI i)), (2, .int v), (4, .int (nI ((itr (gpF σ L v i) (0, 0) s).2))), (5, .int (nI s))]) F d_T_greaterPart_34 (j := 3) rfl (nI_inc _) (by decide) rfl ?_
          refine v_goto F 43 d_T_greaterPart_37 rfl ?_
          refine v_iinc (v := nI (s + 1)) (ls' := [(5, .int (nI (s + 1))), (3, .int (nI ((itr (gpF σ L v i) (0, 0) s).1 + 1))), (0, .ref (u.2.1 0)), (1, .int (nI i)), (2, .int v), (4, .int (nI ((itr (gpF σ L v i) (0, 0) s).2)))]) F d_T_greaterPart_43 (j := 5) rfl (nI_inc _) (by decide) rfl ?_
          refine v_goto F 8 d_T_greaterPart_46 rfl ?_
          refine v_sub [2, 3, 4, 1, 5, 0] (ls' := [(0, .ref (u.2.1 0)), (1, .int (nI i)), (2, .int v), (3, .int (nI ((itr (gpF σ L v i) (0, 0) s).1 + 1))), (4, .int (nI ((itr (gpF σ L v i) (0, 0) s).2))), (5, .int (nI (s + 1)))]) rfl ?_
          have g11 : (nI ((itr (gpF σ L v i) (0, 0) s).1 + 1)) = (nI ((itr (gpF σ L v i) (0, 0) (s + 1)).1)) := (by first | rfl | (simp only [itr, gpF]; rw [if_pos (by assumption), if_pos (by assumption)]; done) | (simp only [itr, gpF]; rw [if_pos (by assumption), if_neg (by assumption)]; done) | (simp only [itr, gpF]; rw [if_neg (by assumption)]; done))
          have g12 : (nI ((itr (gpF σ L v i) (0, 0) s).2)) = (nI ((itr (gpF σ L v i) (0, 0) (s + 1)).2)) := (by first | rfl | (simp only [itr, gpF]; rw [if_pos (by assumption), if_pos (by assumption)]; done) | (simp only [itr, gpF]; rw [if_pos (by assumption), if_neg (by assumption)]; done) | (simp only [itr, gpF]; rw [if_neg (by assumption)]; done))
          refine v_to (ls' := [(0, .ref (u.2.1 0)), (1, .int (nI i)), (2, .int v), (3, .int (nI ((itr (gpF σ L v i) (0, 0) (s + 1)).1))), (4, .int (nI ((itr (gpF σ L v i) (0, 0) (s + 1)).2))), (5, .int (nI (s + 1)))]) (by first | rfl | rw [g11, g12] | simp_all) ?_
          exact ih (s + 1) (by omega) (by omega)
set_option maxHeartbeats 4000000 in
theorem c_T_greaterPart (l : Launch) (u : Un) (hA : Ap u) (σ : St) {L : Nat} (hL : σ.1 19 14 = nI L) (hL64 : L < 64) (i : Nat) (v : Int32) (hi : i < 6) : MTi l u y_T_greaterPart b_T_greaterPart 6 .int 3 [.ref (u.2.1 0), .int (nI i), .int v] σ (fun ans σ' => nI (gpN σ L v i) = ans ∧ σ = σ') := by
  refine MT_of hA rfl (by decide) (Nat.le_of_ble_eq_true rfl) (fun X hl F hr => ?_)
  subst hl
  refine v_to (ls' := [(0, .ref (u.2.1 0)), (1, .int (nI i)), (2, .int v)]) rfl ?_
  refine v_iconst (v := 0) F d_T_greaterPart_0 ki_0 ?_
  refine v_istore_n (ls' := [(3, .int 0), (0, .ref (u.2.1 0)), (1, .int (nI i)), (2, .int v)]) F d_T_greaterPart_1 rfl (by decide) rfl ?_
  refine v_iconst (v := 0) F d_T_greaterPart_2 ki_0 ?_
  refine v_istore (ls' := [(4, .int 0), (3, .int 0), (0, .ref (u.2.1 0)), (1, .int (nI i)), (2, .int v)]) F d_T_greaterPart_3 (by decide) rfl ?_
  refine v_iconst (v := 0) F d_T_greaterPart_5 ki_0 ?_
  refine v_istore (ls' := [(5, .int 0), (4, .int 0), (3, .int 0), (0, .ref (u.2.1 0)), (1, .int (nI i)), (2, .int v)]) F d_T_greaterPart_6 (by decide) rfl ?_
  refine v_sub [3, 4, 5, 2, 1, 0] (ls' := [(0, .ref (u.2.1 0)), (1, .int (nI i)), (2, .int v), (3, .int 0), (4, .int 0), (5, .int 0)]) rfl ?_
  have g1 : 0 = (nI ((itr (gpF σ L v i) (0, 0) 0).1)) := (by first | rfl | (simp only [itr, gpF]; rw [if_pos (by assumption), if_pos (by assumption)]; done) | (simp only [itr, gpF]; rw [if_pos (by assumption), if_neg (by assumption)]; done) | (simp only [itr, gpF]; rw [if_neg (by assumption)]; done))
  have g2 : 0 = (nI ((itr (gpF σ L v i) (0, 0) 0).2)) := (by first | rfl | (simp only [itr, gpF]; rw [if_pos (by assumption), if_pos (by assumption)]; done) | (simp only [itr, gpF]; rw [if_pos (by assumption), if_neg (by assumption)]; done) | (simp only [itr, gpF]; rw [if_neg (by assumption)]; done))
  have g3 : 0 = (nI 0) := (by first | rfl | (simp only [itr, gpF]; rw [if_pos (by assumption), if_pos (by assumption)]; done) | (simp only [itr, gpF]; rw [if_pos (by assumption), if_neg (by assumption)]; done) | (simp only [itr, gpF]; rw [if_neg (by assumption)]; done))
  refine v_to (ls' := [(0, .ref (u.2.1 0)), (1, .int (nI i)), (2, .int v), (3, .int (nI ((itr (gpF σ L v i) (0, 0) 0).1))), (4, .int (nI ((itr (gpF σ L v i) (0, 0) 0).2))), (5, .int (nI 0))]) (by first | rfl | rw [g1, g2, g3] | simp_all) ?_
  refine L_T_greaterPart_8 hA F hL hL64 hi ?_ _ 0 (Nat.zero_le _) (Nat.lt_succ_self _)
  refine v_iload_n F d_T_greaterPart_49 rfl 3 rfl ?_
  refine v_iload F d_T_greaterPart_50 4 rfl ?_
  refine v_mmax F (List.mem_of_getElem? (i := 839) (by decide +kernel)) (Nat.le_of_ble_eq_true rfl) (by decide) d_T_greaterPart_52 ?_
  refine v_iret F hr rfl d_T_greaterPart_55 ?_
  exact ⟨(max_nI (gpF_b 64).1 (gpF_b 64).2).symm, rfl⟩
abbrev b_T_ask : ByteArray := prog_1_method_30_code
abbrev y_T_ask : MethodName := ⟨"TakerBook", "ask", "(I)I"⟩
theorem d_T_ask_0 : decode b_T_ask 0 = .ok (.aload_n 0, 1) := by decide +kernel
theorem d_T_ask_1 : decode b_T_ask 1 = .ok (.iload_n 1, 1) := by decide +kernel
theorem d_T_ask_2 : decode b_T_ask 2 = .ok (.invokevirtual 257, 3) := by decide +kernel
theorem d_T_ask_5 : decode b_T_ask 5 = .ok (.istore_n 2, 1) := by decide +kernel
theorem d_T_ask_6 : decode b_T_ask 6 = .ok (.iload_n 2, 1) := by decide +kernel
theorem d_T_ask_7 : decode b_T_ask 7 = .ok (.ifCond .eq 5, 3) := by decide +kernel
theorem d_T_ask_10 : decode b_T_ask 10 = .ok (.iload_n 2, 1) := by decide +kernel
theorem d_T_ask_11 : decode b_T_ask 11 = .ok (.ireturn, 1) := by decide +kernel
theorem d_T_ask_12 : decode b_T_ask 12 = .ok (.bipush (-9), 2) := by decide +kernel
theorem d_T_ask_14 : decode b_T_ask 14 = .ok (.istore_n 3, 1) := by decide +kernel
theorem d_T_ask_15 : decode b_T_ask 15 = .ok (.bipush 65, 2) := by decide +kernel
theorem d_T_ask_17 : decode b_T_ask 17 = .ok (.istore 4, 2) := by decide +kernel
theorem d_T_ask_19 : decode b_T_ask 19 = .ok (.iconst 0, 1) := by decide +kernel
theorem d_T_ask_20 : decode b_T_ask 20 = .ok (.istore 5, 2) := by decide +kernel
theorem d_T_ask_22 : decode b_T_ask 22 = .ok (.iload 5, 2) := by decide +kernel
theorem d_T_ask_24 : decode b_T_ask 24 = .ok (.aload_n 0, 1) := by decide +kernel
theorem d_T_ask_25 : decode b_T_ask 25 = .ok (.getfield 36, 3) := by decide +kernel
theorem d_T_ask_28 : decode b_T_ask 28 = .ok (.getfield 118, 3) := by decide +kernel
theorem d_T_ask_31 : decode b_T_ask 31 = .ok (.if_icmp .ge 48, 3) := by decide +kernel
theorem d_T_ask_34 : decode b_T_ask 34 = .ok (.iload 5, 2) := by decide +kernel
theorem d_T_ask_36 : decode b_T_ask 36 = .ok (.aload_n 0, 1) := by decide +kernel
theorem d_T_ask_37 : decode b_T_ask 37 = .ok (.getfield 36, 3) := by decide +kernel
theorem d_T_ask_40 : decode b_T_ask 40 = .ok (.getfield 166, 3) := by decide +kernel
theorem d_T_ask_43 : decode b_T_ask 43 = .ok (.invokestatic 169, 3) := by decide +kernel
theorem d_T_ask_46 : decode b_T_ask 46 = .ok (.ifCond .eq 27, 3) := by decide +kernel
theorem d_T_ask_49 : decode b_T_ask 49 = .ok (.aload_n 0, 1) := by decide +kernel
theorem d_T_ask_50 : decode b_T_ask 50 = .ok (.iload 5, 2) := by decide +kernel
theorem d_T_ask_52 : decode b_T_ask 52 = .ok (.iload_n 1, 1) := by decide +kernel
theorem d_T_ask_53 : decode b_T_ask 53 = .ok (.invokevirtual 260, 3) := by decide +kernel
theorem d_T_ask_56 : decode b_T_ask 56 = .ok (.iload 4, 2) := by decide +kernel
theorem d_T_ask_58 : decode b_T_ask 58 = .ok (.if_icmp .ge 15, 3) := by decide +kernel
theorem d_T_ask_61 : decode b_T_ask 61 = .ok (.aload_n 0, 1) := by decide +kernel
theorem d_T_ask_62 : decode b_T_ask 62 = .ok (.iload 5, 2) := by decide +kernel
theorem d_T_ask_64 : decode b_T_ask 64 = .ok (.iload_n 1, 1) := by decide +kernel
theorem d_T_ask_65 : decode b_T_ask 65 = .ok (.invokevirtual 260, 3) := by decide +kernel
theorem d_T_ask_68 : decode b_T_ask 68 = .ok (.istore 4, 2) := by decide +kernel
theorem d_T_ask_70 : decode b_T_ask 70 = .ok (.iload 5, 2) := by decide +kernel
theorem d_T_ask_72 : decode b_T_ask 72 = .ok (.istore_n 3, 1) := by decide +kernel
theorem d_T_ask_73 : decode b_T_ask 73 = .ok (.iinc 5 1, 3) := by decide +kernel
theorem d_T_ask_76 : decode b_T_ask 76 = .ok (.goto (-54), 3) := by decide +kernel
theorem d_T_ask_79 : decode b_T_ask 79 = .ok (.iload_n 3, 1) := by decide +kernel
theorem d_T_ask_80 : decode b_T_ask 80 = .ok (.bipush (-9), 2) := by decide +kernel
theorem d_T_ask_82 : decode b_T_ask 82 = .ok (.if_icmp .eq 9, 3) := by decide +kernel
theorem d_T_ask_85 : decode b_T_ask 85 = .ok (.aload_n 0, 1) := by decide +kernel
theorem d_T_ask_86 : decode b_T_ask 86 = .ok (.iload 4, 2) := by decide +kernel
theorem d_T_ask_88 : decode b_T_ask 88 = .ok (.putfield 88, 3) := by decide +kernel
theorem d_T_ask_91 : decode b_T_ask 91 = .ok (.iload_n 3, 1) := by decide +kernel
theorem d_T_ask_92 : decode b_T_ask 92 = .ok (.ireturn, 1) := by decide +kernel
theorem mo_T_ask : mok y_T_ask b_T_ask 6 (some .int) 1 := ⟨List.mem_of_getElem? (i := 834) (by decide +kernel), ⟨by decide +kernel, by decide +kernel, by decide +kernel⟩, List.mem_of_getElem? (i := 74) (by decide +kernel), by decide⟩
set_option maxHeartbeats 4000000 in
theorem L_T_ask_22 {X : FX} {u : Un} (hA : Ap u) {Q : State → Prop} (F : Fr X u "TakerBook" b_T_ask 6) {σ : St} {L : Nat} (hL : σ.1 19 14 = nI L) (hL64 : L < 64) {v : Int32} {n : Nat} (hn : σ.1 19 8 = nI n) (hn6 : n ≤ 6) (k : V X u 8 6 Q 79 [(0, .ref (u.2.1 0)), (1, .int v), (3, .int (oI (itr (askF σ L v) (none, 65) n).1)), (4, .int (nI ((itr (askF σ L v) (none, 65) n).2))), (5, .int (nI n))] [] (σ)) : ∀ (nn i : Nat), i ≤ n → n - i < nn → V X u 8 6 Q 22 [(0, .ref (u.2.1 0)), (1, .int v), (3, .int (oI (itr (askF σ L v) (none, 65) i).1)), (4, .int (nI ((itr (askF σ L v) (none, 65) i).2))), (5, .int (nI i))] [] (σ) := by
  intro nn
  induction nn with
  | zero =>
    intro i h1 h2
    exact absurd h2 (Nat.not_lt_zero _)
  | succ nn ih =>
    intro i hii hnn
    have hab := askF_b (σ := σ) (L := L) (v := v) i
    have hgb := gpN_b (σ := σ) (L := L) (v := v) (i := i)
    refine v_iload F d_T_ask_22 4 rfl ?_
    refine v_aload_n F d_T_ask_24 rfl 0 rfl ?_
    refine v_getr (r := 19) F fk_T_36 G0 rfl d_T_ask_25 ?_
    refine v_geti F fk_T_118 G19 rfl d_T_ask_28 ?_
    refine v_te (y := nI n) hn ?_
    refine v_icmp_ge F 79 d_T_ask_31 rfl (fun h31 => ?_) (fun h31 => ?_)
    · skip
      have h31 : n ≤ i := (nI_leI (a := n) (b := i) (by omega) (by omega)).mp h31
      have he : i = n := by omega
      subst he
      exact k
    · skip
      have h31 : ¬ n ≤ i := fun q => h31 ((nI_leI (a := n) (b := i) (by omega) (by omega)).mpr q)
      refine v_iload F d_T_ask_34 4 rfl ?_
      refine v_aload_n F d_T_ask_36 rfl 0 rfl ?_
      refine v_getr (r := 19) F fk_T_36 G0 rfl d_T_ask_37 ?_
      refine v_geti F fk_T_166 G19 rfl d_T_ask_40 ?_
      refine v_te (y := nI L) hL ?_
      refine v_runi (r_S F (c_T_isIn2 X.2.1 u hA σ i L (by omega) (by omega)) mo_T_isIn st_T_169 (by decide) rfl (Nat.le_of_ble_eq_true rfl) d_T_ask_43) (fun r1 σ2 q3 => ?_)
      obtain ⟨rfl, rfl⟩ := q3
      refine v_bt F 73 d_T_ask_46 rfl (fun h46 => ?_) (fun h46 => ?_)
      · skip
        refine v_iinc (v := nI (i + 1)) (ls' := [(5, .int (nI (i + 1))), (0, .ref (u.2.1 0)), (1, .int v), (3, .int (oI (itr (askF σ L v) (none, 65) i).1)), (4, .int (nI ((itr (askF σ L v) (none, 65) i).2)))]) F d_T_ask_73 (j := 4) rfl (nI_inc _) (by decide) rfl ?_
        refine v_goto F 22 d_T_ask_76 rfl ?_
        refine v_sub [1, 2, 3, 4, 0] (ls' := [(0, .ref (u.2.1 0)), (1, .int v), (3, .int (oI (itr (askF σ L v) (none, 65) i).1)), (4, .int (nI ((itr (askF σ L v) (none, 65) i).2))), (5, .int (nI (i + 1)))]) rfl ?_
        have g4 : (oI (itr (askF σ L v) (none, 65) i).1) = (oI (itr (askF σ L v) (none, 65) (i + 1)).1) := (by first | rfl | (simp only [itr, askF]; rw [if_pos ⟨(by first | assumption | omega), (by first | assumption | omega)⟩]; first | done | rfl | (subst_vars; rfl) | (subst_vars; exact tdS_u _ _ _)) | (simp only [itr, askF]; rw [if_neg (by rintro ⟨q0, q1⟩; first | exact absurd q0 (by assumption) | exact q0 (by assumption) | exact absurd q1 (by assumption) | exact q1 (by assumption) | omega)]))
        have g5 : (nI ((itr (askF σ L v) (none, 65) i).2)) = (nI ((itr (askF σ L v) (none, 65) (i + 1)).2)) := (by first | rfl | (simp only [itr, askF]; rw [if_pos ⟨(by first | assumption | omega), (by first | assumption | omega)⟩]; first | done | rfl | (subst_vars; rfl) | (subst_vars; exact tdS_u _ _ _)) | (simp only [itr, askF]; rw [if_neg (by rintro ⟨q0, q1⟩; first | exact absurd q0 (by assumption) | exact q0 (by assumption) | exact absurd q1 (by assumption) | exact q1 (by assumption) | omega)]))
        refine v_to (ls' := [(0, .ref (u.2.1 0)), (1, .int v), (3, .int (oI (itr (askF σ L v) (none, 65) (i + 1)).1)), (4, .int (nI ((itr (askF σ L v) (none, 65) (i + 1)).2))), (5, .int (nI (i + 1)))]) (by first | rfl | rw [g4, g5] | simp_all) ?_
        exact ih (i + 1) (by omega) (by omega)
      · skip
        refine v_aload_n F d_T_ask_49 rfl 0 rfl ?_
        refine v_iload F d_T_ask_50 4 rfl ?_
        refine v_iload_n F d_T_ask_52 rfl 1 rfl ?_
        refine v_runi (r_V F (c_T_greaterPart X.2.1 u hA σ hL hL64 i v (by omega)) mo_T_greaterPart st_T_260 rc_0 (by decide) rfl (Nat.le_of_ble_eq_true rfl) d_T_ask_53) (fun r6 σ7 q8 => ?_)
        obtain ⟨rfl, rfl⟩ := q8
        refine v_iload F d_T_ask_56 3 rfl ?_
        refine v_icmp_ge F 73 d_T_ask_58 rfl (fun h58 => ?_) (fun h58 => ?_)
        · skip
          have h58 : (itr (askF σ L v) (none, 65) i).2 ≤ gpN σ L v i := (nI_leI (a := (itr (askF σ L v) (none, 65) i).2) (b := gpN σ L v i) (by omega) (by omega)).mp h58
          refine v_iinc (v := nI (i + 1)) (ls' := [(5, .int (nI (i + 1))), (0, .ref (u.2.1 0)), (1, .int v), (3, .int (oI (itr (askF σ L v) (none, 65) i).1)), (4, .int (nI ((itr (askF σ L v) (none, 65) i).2)))]) F d_T_ask_73 (j := 4) rfl (nI_inc _) (by decide) rfl ?_
          refine v_goto F 22 d_T_ask_76 rfl ?_
          refine v_sub [1, 2, 3, 4, 0] (ls' := [(0, .ref (u.2.1 0)), (1, .int v), (3, .int (oI (itr (askF σ L v) (none, 65) i).1)), (4, .int (nI ((itr (askF σ L v) (none, 65) i).2))), (5, .int (nI (i + 1)))]) rfl ?_
          have g9 : (oI (itr (askF σ L v) (none, 65) i).1) = (oI (itr (askF σ L v) (none, 65) (i + 1)).1) := (by first | rfl | (simp only [itr, askF]; rw [if_pos ⟨(by first | assumption | omega), (by first | assumption | omega)⟩]; first | done | rfl | (subst_vars; rfl) | (subst_vars; exact tdS_u _ _ _)) | (simp only [itr, askF]; rw [if_neg (by rintro ⟨q0, q1⟩; first | exact absurd q0 (by assumption) | exact q0 (by assumption) | exact absurd q1 (by assumption) | exact q1 (by assumption) | omega)]))
          have g10 : (nI ((itr (askF σ L v) (none, 65) i).2)) = (nI ((itr (askF σ L v) (none, 65) (i + 1)).2)) := (by first | rfl | (simp only [itr, askF]; rw [if_pos ⟨(by first | assumption | omega), (by first | assumption | omega)⟩]; first | done | rfl | (subst_vars; rfl) | (subst_vars; exact tdS_u _ _ _)) | (simp only [itr, askF]; rw [if_neg (by rintro ⟨q0, q1⟩; first | exact absurd q0 (by assumption) | exact q0 (by assumption) | exact absurd q1 (by assumption) | exact q1 (by assumption) | omega)]))
          refine v_to (ls' := [(0, .ref (u.2.1 0)), (1, .int v), (3, .int (oI (itr (askF σ L v) (none, 65) (i + 1)).1)), (4, .int (nI ((itr (askF σ L v) (none, 65) (i + 1)).2))), (5, .int (nI (i + 1)))]) (by first | rfl | rw [g9, g10] | simp_all) ?_
          exact ih (i + 1) (by omega) (by omega)
        · skip
          have h58 : ¬ (itr (askF σ L v) (none, 65) i).2 ≤ gpN σ L v i := fun q => h58 ((nI_leI (a := (itr (askF σ L v) (none, 65) i).2) (b := gpN σ L v i) (by omega) (by omega)).mpr q)
          refine v_aload_n F d_T_ask_61 rfl 0 rfl ?_
          refine v_iload F d_T_ask_62 4 rfl ?_
          refine v_iload_n F d_T_ask_64 rfl 1 rfl ?_
          refine v_runi (r_V F (c_T_greaterPart X.2.1 u hA σ hL hL64 i v (by omega)) mo_T_greaterPart st_T_260 rc_0 (by decide) rfl (Nat.le_of_ble_eq_true rfl) d_T_ask_65) (fun r11 σ12 q13 => ?_)
          obtain ⟨rfl, rfl⟩ := q13
          refine v_istore (ls' := [(4, .int (nI (gpN σ L v i))), (0, .ref (u.2.1 0)), (1, .int v), (3, .int (oI (itr (askF σ L v) (none, 65) i).1)), (5, .int (nI i))]) F d_T_ask_68 (by decide) rfl ?_
          refine v_iload F d_T_ask_70 4 rfl ?_
          refine v_istore_n (ls' := [(3, .int (nI i)), (4, .int (nI (gpN σ L v i))), (0, .ref (u.2.1 0)), (1, .int v), (5, .int (nI i))]) F d_T_ask_72 rfl (by decide) rfl ?_
          refine v_iinc (v := nI (i + 1)) (ls' := [(5, .int (nI (i + 1))), (3, .int (nI i)), (4, .int (nI (gpN σ L v i))), (0, .ref (u.2.1 0)), (1, .int v)]) F d_T_ask_73 (j := 4) rfl (nI_inc _) (by decide) rfl ?_
          refine v_goto F 22 d_T_ask_76 rfl ?_
          refine v_sub [3, 4, 1, 2, 0] (ls' := [(0, .ref (u.2.1 0)), (1, .int v), (3, .int (nI i)), (4, .int (nI (gpN σ L v i))), (5, .int (nI (i + 1)))]) rfl ?_
          have g14 : (nI i) = (oI (itr (askF σ L v) (none, 65) (i + 1)).1) := (by first | rfl | (simp only [itr, askF]; rw [if_pos ⟨(by first | assumption | omega), (by first | assumption | omega)⟩]; first | done | rfl | (subst_vars; rfl) | (subst_vars; exact tdS_u _ _ _)) | (simp only [itr, askF]; rw [if_neg (by rintro ⟨q0, q1⟩; first | exact absurd q0 (by assumption) | exact q0 (by assumption) | exact absurd q1 (by assumption) | exact q1 (by assumption) | omega)]))
          have g15 : (nI (gpN σ L v i)) = (nI ((itr (askF σ L v) (none, 65) (i + 1)).2)) := (by first | rfl | (simp only [itr, askF]; rw [if_pos ⟨(by first | assumption | omega), (by first | assumption | omega)⟩]; first | done | rfl | (subst_vars; rfl) | (subst_vars; exact tdS_u _ _ _)) | (simp only [itr, askF]; rw [if_neg (by rintro ⟨q0, q1⟩; first | exact absurd q0 (by assumption) | exact q0 (by assumption) | exact absurd q1 (by assumption) | exact q1 (by assumption) | omega)]))
          refine v_to (ls' := [(0, .ref (u.2.1 0)), (1, .int v), (3, .int (oI (itr (askF σ L v) (none, 65) (i + 1)).1)), (4, .int (nI ((itr (askF σ L v) (none, 65) (i + 1)).2))), (5, .int (nI (i + 1)))]) (by first | rfl | rw [g14, g15] | simp_all) ?_
          exact ih (i + 1) (by omega) (by omega)
set_option maxHeartbeats 4000000 in
theorem c_T_ask (l : Launch) (u : Un) (hA : Ap u) (σ : St) {n G : Nat} {kd : Nat → Nat} (hb : bkOk σ n G kd) {L : Nat} (hL : σ.1 19 14 = nI L) (hL64 : L < 64) (v : Int32) : MTi l u y_T_ask b_T_ask 6 .int 8 [.ref (u.2.1 0), .int v] σ (fun x σ' => (¬ (0 ≤ v ∧ v ≤ 99) ∧ -1 = x ∧ σ = σ') ∨ ((0 ≤ v ∧ v ≤ 99) ∧ σ.1 19 8 = 0 ∧ -4 = x ∧ σ = σ') ∨ ((0 ≤ v ∧ v ≤ 99) ∧ ¬ σ.1 19 8 = 0 ∧ exS (wgd σ G kd n L) L v ∧ (x, σ') = tAsk (wgd σ G kd n L) n L v) ∨ ((0 ≤ v ∧ v ≤ 99) ∧ ¬ σ.1 19 8 = 0 ∧ ¬ exS (wgd σ G kd n L) L v ∧ -3 = x ∧ σ' = tRef (wgd σ G kd n L) 4)) := by
  refine MT_of hA rfl (by decide) (Nat.le_of_ble_eq_true rfl) (fun X hl F hr => ?_)
  subst hl
  refine v_to (ls' := [(0, .ref (u.2.1 0)), (1, .int v)]) rfl ?_
  obtain ⟨hn, hn6, hG, hG64, hkd, hk6⟩ := id hb
  refine v_aload_n F d_T_ask_0 rfl 0 rfl ?_
  refine v_iload_n F d_T_ask_1 rfl 1 rfl ?_
  refine v_runi (r_V F (c_T_refusedGoods X.2.1 u hA σ hb hL hL64 v) mo_T_refusedGoods st_T_257 rc_0 (by decide) rfl (Nat.le_of_ble_eq_true rfl) d_T_ask_2) (fun r1 σ2 q3 => ?_)
  rcases q3 with ⟨a1, rfl, rfl⟩ | ⟨a1, a2, rfl, rfl⟩ | ⟨a1, a2, a3, rfl, rfl⟩ | ⟨a1, a2, a3, rfl, eσ2⟩
  · skip
    refine v_istore_n (ls' := [(2, .int (-1)), (0, .ref (u.2.1 0)), (1, .int v)]) F d_T_ask_5 rfl (by decide) rfl ?_
    refine v_iload_n F d_T_ask_6 rfl 0 rfl ?_
    refine v_if_eq F 12 d_T_ask_7 rfl (fun h => absurd h (by decide)) (fun _ => ?_)
    refine v_iload_n F d_T_ask_10 rfl 0 rfl ?_
    refine v_iret F hr rfl d_T_ask_11 ?_
    exact Or.inl ⟨a1, rfl, rfl⟩
  · skip
    refine v_istore_n (ls' := [(2, .int (-4)), (0, .ref (u.2.1 0)), (1, .int v)]) F d_T_ask_5 rfl (by decide) rfl ?_
    refine v_iload_n F d_T_ask_6 rfl 0 rfl ?_
    refine v_if_eq F 12 d_T_ask_7 rfl (fun h => absurd h (by decide)) (fun _ => ?_)
    refine v_iload_n F d_T_ask_10 rfl 0 rfl ?_
    refine v_iret F hr rfl d_T_ask_11 ?_
    exact Or.inr (Or.inl ⟨a1, a2, rfl, rfl⟩)
  · skip
    refine v_istore_n (ls' := [(2, .int 0), (0, .ref (u.2.1 0)), (1, .int v)]) F d_T_ask_5 rfl (by decide) rfl ?_
    refine v_iload_n F d_T_ask_6 rfl 0 rfl ?_
    refine v_if_eq F 12 d_T_ask_7 rfl (fun _ => ?_) (fun h => absurd (by decide) h)
    refine v_bipush (v := (-9)) F d_T_ask_12 kb_m9 ?_
    refine v_istore_n (ls' := [(3, .int (-9)), (2, .int 0), (0, .ref (u.2.1 0)), (1, .int v)]) F d_T_ask_14 rfl (by decide) rfl ?_
    refine v_bipush (v := 65) F d_T_ask_15 kb_65 ?_
    refine v_istore (ls' := [(4, .int 65), (3, .int (-9)), (2, .int 0), (0, .ref (u.2.1 0)), (1, .int v)]) F d_T_ask_17 (by decide) rfl ?_
    refine v_iconst (v := 0) F d_T_ask_19 ki_0 ?_
    refine v_istore (ls' := [(5, .int 0), (4, .int 65), (3, .int (-9)), (2, .int 0), (0, .ref (u.2.1 0)), (1, .int v)]) F d_T_ask_20 (by decide) rfl ?_
    refine v_sub [4, 5, 2, 1, 0] (ls' := [(0, .ref (u.2.1 0)), (1, .int v), (3, .int (-9)), (4, .int 65), (5, .int 0)]) rfl ?_
    have g4 : (-9) = (oI (itr (askF (wgd σ G kd n L) L v) (none, 65) 0).1) := (by first | rfl | (simp only [itr, askF]; rw [if_pos ⟨(by first | assumption | omega), (by first | assumption | omega)⟩]; first | done | rfl | (subst_vars; rfl) | (subst_vars; exact tdS_u _ _ _)) | (simp only [itr, askF]; rw [if_neg (by rintro ⟨q0, q1⟩; first | exact absurd q0 (by assumption) | exact q0 (by assumption) | exact absurd q1 (by assumption) | exact q1 (by assumption) | omega)]))
    have g5 : 65 = (nI ((itr (askF (wgd σ G kd n L) L v) (none, 65) 0).2)) := (by first | rfl | (simp only [itr, askF]; rw [if_pos ⟨(by first | assumption | omega), (by first | assumption | omega)⟩]; first | done | rfl | (subst_vars; rfl) | (subst_vars; exact tdS_u _ _ _)) | (simp only [itr, askF]; rw [if_neg (by rintro ⟨q0, q1⟩; first | exact absurd q0 (by assumption) | exact q0 (by assumption) | exact absurd q1 (by assumption) | exact q1 (by assumption) | omega)]))
    have g6 : 0 = (nI 0) := (by first | rfl | (simp only [itr, askF]; rw [if_pos ⟨(by first | assumption | omega), (by first | assumption | omega)⟩]; first | done | rfl | (subst_vars; rfl) | (subst_vars; exact tdS_u _ _ _)) | (simp only [itr, askF]; rw [if_neg (by rintro ⟨q0, q1⟩; first | exact absurd q0 (by assumption) | exact q0 (by assumption) | exact absurd q1 (by assumption) | exact q1 (by assumption) | omega)]))
    refine v_to (ls' := [(0, .ref (u.2.1 0)), (1, .int v), (3, .int (oI (itr (askF (wgd σ G kd n L) L v) (none, 65) 0).1)), (4, .int (nI ((itr (askF (wgd σ G kd n L) L v) (none, 65) 0).2))), (5, .int (nI 0))]) (by first | rfl | rw [g4, g5, g6] | simp_all) ?_
    refine v_st (show (wgd σ G kd n L) = ((wgd σ G kd n L)) from (by first | rfl | (simp only [itr, askF]; rw [if_pos ⟨(by first | assumption | omega), (by first | assumption | omega)⟩]; first | done | rfl | (subst_vars; rfl) | (subst_vars; exact tdS_u _ _ _)) | (simp only [itr, askF]; rw [if_neg (by rintro ⟨q0, q1⟩; first | exact absurd q0 (by assumption) | exact q0 (by assumption) | exact absurd q1 (by assumption) | exact q1 (by assumption) | omega)]))) ?_
    refine L_T_ask_22 hA F (by rw [wgd_k _ _ _ _ _ (by decide) (by decide)]; exact hL) hL64 (by rw [wgd_k _ _ _ _ _ (by decide) (by decide)]; exact hn) hn6 ?_ _ 0 (Nat.zero_le _) (Nat.lt_succ_self _)
    refine v_iload_n F d_T_ask_79 rfl 2 rfl ?_
    refine v_bipush (v := (-9)) F d_T_ask_80 kb_m9 ?_
    refine v_icmp_eq F 91 d_T_ask_82 rfl (fun h82 => ?_) (fun h82 => ?_)
    · skip
      refine v_iload_n F d_T_ask_91 rfl 2 rfl ?_
      refine v_iret F hr rfl d_T_ask_92 ?_
      refine Or.inr (Or.inr (Or.inl ⟨a1, a2, a3, ?_⟩))
      unfold tAsk
      first | (rw [if_pos (by assumption)]; done) | (rw [if_neg (by assumption)]; subst_vars; rfl)
    · skip
      refine v_aload_n F d_T_ask_85 rfl 0 rfl ?_
      refine v_iload F d_T_ask_86 3 rfl ?_
      refine v_puti F fk_T_88 pk_T_told G0 rfl d_T_ask_88 ?_
      refine v_ns (fun σ7 eσ7 => ?_)
      refine v_iload_n F d_T_ask_91 rfl 2 rfl ?_
      refine v_iret F hr rfl d_T_ask_92 ?_
      refine Or.inr (Or.inr (Or.inl ⟨a1, a2, a3, ?_⟩))
      unfold tAsk
      first | (rw [if_pos (by assumption)]; done) | (rw [if_neg (by assumption)]; subst_vars; rfl)
  · skip
    refine v_istore_n (ls' := [(2, .int (-3)), (0, .ref (u.2.1 0)), (1, .int v)]) F d_T_ask_5 rfl (by decide) rfl ?_
    refine v_iload_n F d_T_ask_6 rfl 0 rfl ?_
    refine v_if_eq F 12 d_T_ask_7 rfl (fun h => absurd h (by decide)) (fun _ => ?_)
    refine v_iload_n F d_T_ask_10 rfl 0 rfl ?_
    refine v_iret F hr rfl d_T_ask_11 ?_
    exact Or.inr (Or.inr (Or.inr ⟨a1, a2, a3, rfl, by assumption⟩))
abbrev b_T_goodsFor : ByteArray := prog_1_method_71_code
abbrev y_T_goodsFor : MethodName := ⟨"TakerBook", "goodsFor", "(I)I"⟩
theorem d_T_goodsFor_0 : decode b_T_goodsFor 0 = .ok (.iload_n 1, 1) := by decide +kernel
theorem d_T_goodsFor_1 : decode b_T_goodsFor 1 = .ok (.ifCond .ne 5, 3) := by decide +kernel
theorem d_T_goodsFor_4 : decode b_T_goodsFor 4 = .ok (.iconst 0, 1) := by decide +kernel
theorem d_T_goodsFor_5 : decode b_T_goodsFor 5 = .ok (.ireturn, 1) := by decide +kernel
theorem d_T_goodsFor_6 : decode b_T_goodsFor 6 = .ok (.iload_n 1, 1) := by decide +kernel
theorem d_T_goodsFor_7 : decode b_T_goodsFor 7 = .ok (.ifCond .lt 25, 3) := by decide +kernel
theorem d_T_goodsFor_10 : decode b_T_goodsFor 10 = .ok (.aload_n 0, 1) := by decide +kernel
theorem d_T_goodsFor_11 : decode b_T_goodsFor 11 = .ok (.getfield 36, 3) := by decide +kernel
theorem d_T_goodsFor_14 : decode b_T_goodsFor 14 = .ok (.getfield 372, 3) := by decide +kernel
theorem d_T_goodsFor_17 : decode b_T_goodsFor 17 = .ok (.ifCond .eq 15, 3) := by decide +kernel
theorem d_T_goodsFor_20 : decode b_T_goodsFor 20 = .ok (.iload_n 1, 1) := by decide +kernel
theorem d_T_goodsFor_21 : decode b_T_goodsFor 21 = .ok (.aload_n 0, 1) := by decide +kernel
theorem d_T_goodsFor_22 : decode b_T_goodsFor 22 = .ok (.getfield 36, 3) := by decide +kernel
theorem d_T_goodsFor_25 : decode b_T_goodsFor 25 = .ok (.getfield 372, 3) := by decide +kernel
theorem d_T_goodsFor_28 : decode b_T_goodsFor 28 = .ok (.irem, 1) := by decide +kernel
theorem d_T_goodsFor_29 : decode b_T_goodsFor 29 = .ok (.ifCond .eq 6, 3) := by decide +kernel
theorem d_T_goodsFor_32 : decode b_T_goodsFor 32 = .ok (.bipush (-9), 2) := by decide +kernel
theorem d_T_goodsFor_34 : decode b_T_goodsFor 34 = .ok (.ireturn, 1) := by decide +kernel
theorem d_T_goodsFor_35 : decode b_T_goodsFor 35 = .ok (.iload_n 1, 1) := by decide +kernel
theorem d_T_goodsFor_36 : decode b_T_goodsFor 36 = .ok (.aload_n 0, 1) := by decide +kernel
theorem d_T_goodsFor_37 : decode b_T_goodsFor 37 = .ok (.getfield 36, 3) := by decide +kernel
theorem d_T_goodsFor_40 : decode b_T_goodsFor 40 = .ok (.getfield 372, 3) := by decide +kernel
theorem d_T_goodsFor_43 : decode b_T_goodsFor 43 = .ok (.idiv, 1) := by decide +kernel
theorem d_T_goodsFor_44 : decode b_T_goodsFor 44 = .ok (.ireturn, 1) := by decide +kernel
theorem mo_T_goodsFor : mok y_T_goodsFor b_T_goodsFor 2 (some .int) 1 := ⟨List.mem_of_getElem? (i := 898) (by decide +kernel), ⟨by decide +kernel, by decide +kernel, by decide +kernel⟩, List.mem_of_getElem? (i := 74) (by decide +kernel), by decide⟩
set_option maxHeartbeats 4000000 in
theorem c_T_goodsFor (l : Launch) (u : Un) (hA : Ap u) (σ : St) (x : Int32) : MTi l u y_T_goodsFor b_T_goodsFor 2 .int 0 [.ref (u.2.1 0), .int x] σ (fun ans σ' => gdF (σ.1 19 10) x = ans ∧ σ = σ') := by
  refine MT_of hA rfl (by decide) (Nat.le_of_ble_eq_true rfl) (fun X hl F hr => ?_)
  subst hl
  refine v_to (ls' := [(0, .ref (u.2.1 0)), (1, .int x)]) rfl ?_
  refine v_iload_n F d_T_goodsFor_0 rfl 1 rfl ?_
  refine v_if_ne F 6 d_T_goodsFor_1 rfl (fun h1 => ?_) (fun h1 => ?_)
  · skip
    refine v_iload_n F d_T_goodsFor_6 rfl 1 rfl ?_
    refine v_if_lt F 32 d_T_goodsFor_7 rfl (fun h7 => ?_) (fun h7 => ?_)
    · skip
      refine v_bipush (v := (-9)) F d_T_goodsFor_32 kb_m9 ?_
      refine v_iret F hr rfl d_T_goodsFor_34 ?_
      refine ⟨?_, rfl⟩
      unfold gdF
      first | (rw [if_pos (by assumption)]; done) | (rw [if_neg (by assumption), if_neg (by rintro (q | q | q); exact absurd q (by assumption); exact absurd q (by assumption); exact q (by assumption))]; done) | (rw [if_neg (by assumption), if_pos (by first | exact Or.inl (by assumption) | exact Or.inr (Or.inl (by assumption)) | exact Or.inr (Or.inr (by assumption)))]; done)
    · skip
      refine v_aload_n F d_T_goodsFor_10 rfl 0 rfl ?_
      refine v_getr (r := 19) F fk_T_36 G0 rfl d_T_goodsFor_11 ?_
      refine v_geti F fk_T_372 G19 rfl d_T_goodsFor_14 ?_
      refine v_if_eq F 32 d_T_goodsFor_17 rfl (fun h17 => ?_) (fun h17 => ?_)
      · skip
        refine v_bipush (v := (-9)) F d_T_goodsFor_32 kb_m9 ?_
        refine v_iret F hr rfl d_T_goodsFor_34 ?_
        refine ⟨?_, rfl⟩
        unfold gdF
        first | (rw [if_pos (by assumption)]; done) | (rw [if_neg (by assumption), if_neg (by rintro (q | q | q); exact absurd q (by assumption); exact absurd q (by assumption); exact q (by assumption))]; done) | (rw [if_neg (by assumption), if_pos (by first | exact Or.inl (by assumption) | exact Or.inr (Or.inl (by assumption)) | exact Or.inr (Or.inr (by assumption)))]; done)
      · skip
        refine v_iload_n F d_T_goodsFor_20 rfl 1 rfl ?_
        refine v_aload_n F d_T_goodsFor_21 rfl 0 rfl ?_
        refine v_getr (r := 19) F fk_T_36 G0 rfl d_T_goodsFor_22 ?_
        refine v_geti F fk_T_372 G19 rfl d_T_goodsFor_25 ?_
        refine v_irem F d_T_goodsFor_28 h17 ?_
        refine v_if_eq F 35 d_T_goodsFor_29 rfl (fun h29 => ?_) (fun h29 => ?_)
        · skip
          refine v_iload_n F d_T_goodsFor_35 rfl 1 rfl ?_
          refine v_aload_n F d_T_goodsFor_36 rfl 0 rfl ?_
          refine v_getr (r := 19) F fk_T_36 G0 rfl d_T_goodsFor_37 ?_
          refine v_geti F fk_T_372 G19 rfl d_T_goodsFor_40 ?_
          refine v_idiv F d_T_goodsFor_43 h17 ?_
          refine v_iret F hr rfl d_T_goodsFor_44 ?_
          refine ⟨?_, rfl⟩
          unfold gdF
          first | (rw [if_pos (by assumption)]; done) | (rw [if_neg (by assumption), if_neg (by rintro (q | q | q); exact absurd q (by assumption); exact absurd q (by assumption); exact q (by assumption))]; done) | (rw [if_neg (by assumption), if_pos (by first | exact Or.inl (by assumption) | exact Or.inr (Or.inl (by assumption)) | exact Or.inr (Or.inr (by assumption)))]; done)
        · skip
          refine v_bipush (v := (-9)) F d_T_goodsFor_32 kb_m9 ?_
          refine v_iret F hr rfl d_T_goodsFor_34 ?_
          refine ⟨?_, rfl⟩
          unfold gdF
          first | (rw [if_pos (by assumption)]; done) | (rw [if_neg (by assumption), if_neg (by rintro (q | q | q); exact absurd q (by assumption); exact absurd q (by assumption); exact q (by assumption))]; done) | (rw [if_neg (by assumption), if_pos (by first | exact Or.inl (by assumption) | exact Or.inr (Or.inl (by assumption)) | exact Or.inr (Or.inr (by assumption)))]; done)
  · skip
    refine v_iconst (v := 0) F d_T_goodsFor_4 ki_0 ?_
    refine v_iret F hr rfl d_T_goodsFor_5 ?_
    refine ⟨?_, rfl⟩
    unfold gdF
    first | (rw [if_pos (by assumption)]; done) | (rw [if_neg (by assumption), if_neg (by rintro (q | q | q); exact absurd q (by assumption); exact absurd q (by assumption); exact q (by assumption))]; done) | (rw [if_neg (by assumption), if_pos (by first | exact Or.inl (by assumption) | exact Or.inr (Or.inl (by assumption)) | exact Or.inr (Or.inr (by assumption)))]; done)
abbrev b_T_isBetter : ByteArray := prog_1_method_72_code
abbrev y_T_isBetter : MethodName := ⟨"TakerBook", "isBetter", "(IIII)Z"⟩
theorem d_T_isBetter_0 : decode b_T_isBetter 0 = .ok (.iload_n 2, 1) := by decide +kernel
theorem d_T_isBetter_1 : decode b_T_isBetter 1 = .ok (.bipush (-9), 2) := by decide +kernel
theorem d_T_isBetter_3 : decode b_T_isBetter 3 = .ok (.if_icmp .eq 18, 3) := by decide +kernel
theorem d_T_isBetter_6 : decode b_T_isBetter 6 = .ok (.iload_n 0, 1) := by decide +kernel
theorem d_T_isBetter_7 : decode b_T_isBetter 7 = .ok (.iload_n 2, 1) := by decide +kernel
theorem d_T_isBetter_8 : decode b_T_isBetter 8 = .ok (.if_icmp .lt 13, 3) := by decide +kernel
theorem d_T_isBetter_11 : decode b_T_isBetter 11 = .ok (.iload_n 0, 1) := by decide +kernel
theorem d_T_isBetter_12 : decode b_T_isBetter 12 = .ok (.iload_n 2, 1) := by decide +kernel
theorem d_T_isBetter_13 : decode b_T_isBetter 13 = .ok (.if_icmp .ne 12, 3) := by decide +kernel
theorem d_T_isBetter_16 : decode b_T_isBetter 16 = .ok (.iload_n 1, 1) := by decide +kernel
theorem d_T_isBetter_17 : decode b_T_isBetter 17 = .ok (.iload_n 3, 1) := by decide +kernel
theorem d_T_isBetter_18 : decode b_T_isBetter 18 = .ok (.if_icmp .le 7, 3) := by decide +kernel
theorem d_T_isBetter_21 : decode b_T_isBetter 21 = .ok (.iconst 1, 1) := by decide +kernel
theorem d_T_isBetter_22 : decode b_T_isBetter 22 = .ok (.goto 4, 3) := by decide +kernel
theorem d_T_isBetter_25 : decode b_T_isBetter 25 = .ok (.iconst 0, 1) := by decide +kernel
theorem d_T_isBetter_26 : decode b_T_isBetter 26 = .ok (.ireturn, 1) := by decide +kernel
theorem mo_T_isBetter : mok y_T_isBetter b_T_isBetter 4 (some .boolean) 4 := ⟨List.mem_of_getElem? (i := 750) (by decide +kernel), ⟨by decide +kernel, by decide +kernel, by decide +kernel⟩, List.mem_of_getElem? (i := 74) (by decide +kernel), by decide⟩
set_option maxHeartbeats 4000000 in
theorem c_T_isBetter (l : Launch) (u : Un) (hA : Ap u) (σ : St) (a b f w : Int32) : MTi l u y_T_isBetter b_T_isBetter 4 .boolean 0 [.int a, .int b, .int f, .int w] σ (fun ans σ' => bI ((f = -9 ∨ a < f ∨ (a = f ∧ w < b))) = ans ∧ σ = σ') := by
  refine MT_of hA rfl (by decide) (Nat.le_of_ble_eq_true rfl) (fun X hl F hr => ?_)
  subst hl
  refine v_to (ls' := [(0, .int a), (1, .int b), (2, .int f), (3, .int w)]) rfl ?_
  refine v_iload_n F d_T_isBetter_0 rfl 2 rfl ?_
  refine v_bipush (v := (-9)) F d_T_isBetter_1 kb_m9 ?_
  refine v_icmp_eq F 21 d_T_isBetter_3 rfl (fun h3 => ?_) (fun h3 => ?_)
  · skip
    refine v_iconst (v := 1) F d_T_isBetter_21 ki_1 ?_
    refine v_goto F 26 d_T_isBetter_22 rfl ?_
    refine v_iret F hr rfl d_T_isBetter_26 ?_
    exact ⟨bI_t (by grind), rfl⟩
  · skip
    refine v_iload_n F d_T_isBetter_6 rfl 0 rfl ?_
    refine v_iload_n F d_T_isBetter_7 rfl 2 rfl ?_
    refine v_icmp_lt F 21 d_T_isBetter_8 rfl (fun h8 => ?_) (fun h8 => ?_)
    · skip
      refine v_iconst (v := 1) F d_T_isBetter_21 ki_1 ?_
      refine v_goto F 26 d_T_isBetter_22 rfl ?_
      refine v_iret F hr rfl d_T_isBetter_26 ?_
      exact ⟨bI_t (by grind), rfl⟩
    · skip
      refine v_iload_n F d_T_isBetter_11 rfl 0 rfl ?_
      refine v_iload_n F d_T_isBetter_12 rfl 2 rfl ?_
      refine v_icmp_ne F 25 d_T_isBetter_13 rfl (fun h13 => ?_) (fun h13 => ?_)
      · skip
        refine v_iconst (v := 0) F d_T_isBetter_25 ki_0 ?_
        refine v_iret F hr rfl d_T_isBetter_26 ?_
        exact ⟨bI_f (by grind), rfl⟩
      · skip
        refine v_iload_n F d_T_isBetter_16 rfl 1 rfl ?_
        refine v_iload_n F d_T_isBetter_17 rfl 3 rfl ?_
        refine v_icmp_le F 25 d_T_isBetter_18 rfl (fun h18 => ?_) (fun h18 => ?_)
        · skip
          refine v_iconst (v := 0) F d_T_isBetter_25 ki_0 ?_
          refine v_iret F hr rfl d_T_isBetter_26 ?_
          exact ⟨bI_f (by grind), rfl⟩
        · skip
          refine v_iconst (v := 1) F d_T_isBetter_21 ki_1 ?_
          refine v_goto F 26 d_T_isBetter_22 rfl ?_
          refine v_iret F hr rfl d_T_isBetter_26 ?_
          exact ⟨bI_t (by grind), rfl⟩
abbrev b_T_sum : ByteArray := prog_1_method_35_code
abbrev y_T_sum : MethodName := ⟨"TakerBook", "sum", "(I)I"⟩
theorem d_T_sum_0 : decode b_T_sum 0 = .ok (.iload_n 1, 1) := by decide +kernel
theorem d_T_sum_1 : decode b_T_sum 1 = .ok (.invokestatic 251, 3) := by decide +kernel
theorem d_T_sum_4 : decode b_T_sum 4 = .ok (.ifCond .ne 5, 3) := by decide +kernel
theorem d_T_sum_7 : decode b_T_sum 7 = .ok (.iconst (-1), 1) := by decide +kernel
theorem d_T_sum_8 : decode b_T_sum 8 = .ok (.ireturn, 1) := by decide +kernel
theorem d_T_sum_9 : decode b_T_sum 9 = .ok (.aload_n 0, 1) := by decide +kernel
theorem d_T_sum_10 : decode b_T_sum 10 = .ok (.getfield 36, 3) := by decide +kernel
theorem d_T_sum_13 : decode b_T_sum 13 = .ok (.getfield 118, 3) := by decide +kernel
theorem d_T_sum_16 : decode b_T_sum 16 = .ok (.ifCond .ne 6, 3) := by decide +kernel
theorem d_T_sum_19 : decode b_T_sum 19 = .ok (.bipush (-4), 2) := by decide +kernel
theorem d_T_sum_21 : decode b_T_sum 21 = .ok (.ireturn, 1) := by decide +kernel
theorem d_T_sum_22 : decode b_T_sum 22 = .ok (.aload_n 0, 1) := by decide +kernel
theorem d_T_sum_23 : decode b_T_sum 23 = .ok (.getfield 36, 3) := by decide +kernel
theorem d_T_sum_26 : decode b_T_sum 26 = .ok (.invokevirtual 204, 3) := by decide +kernel
theorem d_T_sum_29 : decode b_T_sum 29 = .ok (.bipush (-9), 2) := by decide +kernel
theorem d_T_sum_31 : decode b_T_sum 31 = .ok (.istore_n 2, 1) := by decide +kernel
theorem d_T_sum_32 : decode b_T_sum 32 = .ok (.iconst 0, 1) := by decide +kernel
theorem d_T_sum_33 : decode b_T_sum 33 = .ok (.istore_n 3, 1) := by decide +kernel
theorem d_T_sum_34 : decode b_T_sum 34 = .ok (.iconst 0, 1) := by decide +kernel
theorem d_T_sum_35 : decode b_T_sum 35 = .ok (.istore 4, 2) := by decide +kernel
theorem d_T_sum_37 : decode b_T_sum 37 = .ok (.iload 4, 2) := by decide +kernel
theorem d_T_sum_39 : decode b_T_sum 39 = .ok (.bipush 64, 2) := by decide +kernel
theorem d_T_sum_41 : decode b_T_sum 41 = .ok (.if_icmp .ge 84, 3) := by decide +kernel
theorem d_T_sum_44 : decode b_T_sum 44 = .ok (.aload_n 0, 1) := by decide +kernel
theorem d_T_sum_45 : decode b_T_sum 45 = .ok (.getfield 36, 3) := by decide +kernel
theorem d_T_sum_48 : decode b_T_sum 48 = .ok (.iload 4, 2) := by decide +kernel
theorem d_T_sum_50 : decode b_T_sum 50 = .ok (.invokevirtual 186, 3) := by decide +kernel
theorem d_T_sum_53 : decode b_T_sum 53 = .ok (.ifCond .eq 24, 3) := by decide +kernel
theorem d_T_sum_56 : decode b_T_sum 56 = .ok (.aload_n 0, 1) := by decide +kernel
theorem d_T_sum_57 : decode b_T_sum 57 = .ok (.iload_n 1, 1) := by decide +kernel
theorem d_T_sum_58 : decode b_T_sum 58 = .ok (.iload 4, 2) := by decide +kernel
theorem d_T_sum_60 : decode b_T_sum 60 = .ok (.aload_n 0, 1) := by decide +kernel
theorem d_T_sum_61 : decode b_T_sum 61 = .ok (.getfield 36, 3) := by decide +kernel
theorem d_T_sum_64 : decode b_T_sum 64 = .ok (.getfield 207, 3) := by decide +kernel
theorem d_T_sum_67 : decode b_T_sum 67 = .ok (.invokestatic 210, 3) := by decide +kernel
theorem d_T_sum_70 : decode b_T_sum 70 = .ok (.isub, 1) := by decide +kernel
theorem d_T_sum_71 : decode b_T_sum 71 = .ok (.invokevirtual 281, 3) := by decide +kernel
theorem d_T_sum_74 : decode b_T_sum 74 = .ok (.goto 5, 3) := by decide +kernel
theorem d_T_sum_77 : decode b_T_sum 77 = .ok (.bipush (-9), 2) := by decide +kernel
theorem d_T_sum_79 : decode b_T_sum 79 = .ok (.istore 5, 2) := by decide +kernel
theorem d_T_sum_81 : decode b_T_sum 81 = .ok (.iload 4, 2) := by decide +kernel
theorem d_T_sum_83 : decode b_T_sum 83 = .ok (.invokestatic 189, 3) := by decide +kernel
theorem d_T_sum_86 : decode b_T_sum 86 = .ok (.istore 6, 2) := by decide +kernel
theorem d_T_sum_88 : decode b_T_sum 88 = .ok (.iload 5, 2) := by decide +kernel
theorem d_T_sum_90 : decode b_T_sum 90 = .ok (.bipush (-9), 2) := by decide +kernel
theorem d_T_sum_92 : decode b_T_sum 92 = .ok (.if_icmp .eq 27, 3) := by decide +kernel
theorem d_T_sum_95 : decode b_T_sum 95 = .ok (.iload 5, 2) := by decide +kernel
theorem d_T_sum_97 : decode b_T_sum 97 = .ok (.iload 6, 2) := by decide +kernel
theorem d_T_sum_99 : decode b_T_sum 99 = .ok (.iadd, 1) := by decide +kernel
theorem d_T_sum_100 : decode b_T_sum 100 = .ok (.iload 6, 2) := by decide +kernel
theorem d_T_sum_102 : decode b_T_sum 102 = .ok (.iload_n 2, 1) := by decide +kernel
theorem d_T_sum_103 : decode b_T_sum 103 = .ok (.iload_n 3, 1) := by decide +kernel
theorem d_T_sum_104 : decode b_T_sum 104 = .ok (.invokestatic 284, 3) := by decide +kernel
theorem d_T_sum_107 : decode b_T_sum 107 = .ok (.ifCond .eq 12, 3) := by decide +kernel
theorem d_T_sum_110 : decode b_T_sum 110 = .ok (.iload 5, 2) := by decide +kernel
theorem d_T_sum_112 : decode b_T_sum 112 = .ok (.iload 6, 2) := by decide +kernel
theorem d_T_sum_114 : decode b_T_sum 114 = .ok (.iadd, 1) := by decide +kernel
theorem d_T_sum_115 : decode b_T_sum 115 = .ok (.istore_n 2, 1) := by decide +kernel
theorem d_T_sum_116 : decode b_T_sum 116 = .ok (.iload 6, 2) := by decide +kernel
theorem d_T_sum_118 : decode b_T_sum 118 = .ok (.istore_n 3, 1) := by decide +kernel
theorem d_T_sum_119 : decode b_T_sum 119 = .ok (.iinc 4 1, 3) := by decide +kernel
theorem d_T_sum_122 : decode b_T_sum 122 = .ok (.goto (-85), 3) := by decide +kernel
theorem d_T_sum_125 : decode b_T_sum 125 = .ok (.iload_n 2, 1) := by decide +kernel
theorem d_T_sum_126 : decode b_T_sum 126 = .ok (.bipush (-9), 2) := by decide +kernel
theorem d_T_sum_128 : decode b_T_sum 128 = .ok (.if_icmp .eq 8, 3) := by decide +kernel
theorem d_T_sum_131 : decode b_T_sum 131 = .ok (.aload_n 0, 1) := by decide +kernel
theorem d_T_sum_132 : decode b_T_sum 132 = .ok (.iload_n 3, 1) := by decide +kernel
theorem d_T_sum_133 : decode b_T_sum 133 = .ok (.putfield 88, 3) := by decide +kernel
theorem d_T_sum_136 : decode b_T_sum 136 = .ok (.iload_n 2, 1) := by decide +kernel
theorem d_T_sum_137 : decode b_T_sum 137 = .ok (.ireturn, 1) := by decide +kernel
theorem mo_T_sum : mok y_T_sum b_T_sum 7 (some .int) 1 := ⟨List.mem_of_getElem? (i := 894) (by decide +kernel), ⟨by decide +kernel, by decide +kernel, by decide +kernel⟩, List.mem_of_getElem? (i := 74) (by decide +kernel), by decide⟩
set_option maxHeartbeats 4000000 in
theorem L_T_sum_37 {X : FX} {u : Un} (hA : Ap u) {Q : State → Prop} (F : Fr X u "TakerBook" b_T_sum 7) {σ : St} {L : Nat} (hL : σ.1 19 14 = nI L) (hL64 : L < 64) {v : Int32} (k : V X u 7 7 Q 125 [(0, .ref (u.2.1 0)), (1, .int v), (2, .int ((itr (sumF σ L v) (-9, 0) 64).1)), (3, .int ((itr (sumF σ L v) (-9, 0) 64).2)), (4, .int (nI 64))] [] (σ)) : ∀ (nn s : Nat), s ≤ 64 → 64 - s < nn → V X u 7 7 Q 37 [(0, .ref (u.2.1 0)), (1, .int v), (2, .int ((itr (sumF σ L v) (-9, 0) s).1)), (3, .int ((itr (sumF σ L v) (-9, 0) s).2)), (4, .int (nI s))] [] (σ) := by
  intro nn
  induction nn with
  | zero =>
    intro s h1 h2
    exact absurd h2 (Nat.not_lt_zero _)
  | succ nn ih =>
    intro s hii hnn
    have hpl : s < 64 → pcN s ≤ 6 := pc_le s
    refine v_iload F d_T_sum_37 4 rfl ?_
    refine v_bipush (v := 64) F d_T_sum_39 kb_64 ?_
    refine v_icmp_ge F 125 d_T_sum_41 rfl (fun h41 => ?_) (fun h41 => ?_)
    · skip
      have h41 : 64 ≤ s := (nI_leI (a := 64) (b := s) (by omega) (by omega)).mp h41
      have he : s = 64 := by omega
      subst he
      exact k
    · skip
      have h41 : ¬ 64 ≤ s := fun q => h41 ((nI_leI (a := 64) (b := s) (by omega) (by omega)).mpr q)
      refine v_aload_n F d_T_sum_44 rfl 0 rfl ?_
      refine v_getr (r := 19) F fk_T_36 G0 rfl d_T_sum_45 ?_
      refine v_iload F d_T_sum_48 4 rfl ?_
      refine v_runi (r_V F (c_B_isOfLeft X.2.1 u hA σ hL hL64 s (by omega)) mo_B_isOfLeft st_T_186 rc_19 (by decide) rfl (Nat.le_of_ble_eq_true rfl) d_T_sum_50) (fun r1 σ2 q3 => ?_)
      obtain ⟨rfl, rfl⟩ := q3
      refine v_bt F 77 d_T_sum_53 rfl (fun h53 => ?_) (fun h53 => ?_)
      · skip
        refine v_bipush (v := (-9)) F d_T_sum_77 kb_m9 ?_
        refine v_istore (ls' := [(5, .int (-9)), (0, .ref (u.2.1 0)), (1, .int v), (2, .int ((itr (sumF σ L v) (-9, 0) s).1)), (3, .int ((itr (sumF σ L v) (-9, 0) s).2)), (4, .int (nI s))]) F d_T_sum_79 (by decide) rfl ?_
        refine v_iload F d_T_sum_81 5 rfl ?_
        refine v_runi (r_S F (c_I_bitCount X.2.1 u hA σ s (by omega)) mo_I_bitCount st_T_189 (by decide) rfl (Nat.le_of_ble_eq_true rfl) d_T_sum_83) (fun r4 σ5 q6 => ?_)
        obtain ⟨rfl, rfl⟩ := q6
        refine v_istore (ls' := [(6, .int (nI (pcN s))), (5, .int (-9)), (0, .ref (u.2.1 0)), (1, .int v), (2, .int ((itr (sumF σ L v) (-9, 0) s).1)), (3, .int ((itr (sumF σ L v) (-9, 0) s).2)), (4, .int (nI s))]) F d_T_sum_86 (by decide) rfl ?_
        refine v_iload F d_T_sum_88 1 rfl ?_
        refine v_bipush (v := (-9)) F d_T_sum_90 kb_m9 ?_
        refine v_icmp_eq F 119 d_T_sum_92 rfl (fun _ => ?_) (fun h => absurd (by decide) h)
        refine v_iinc (v := nI (s + 1)) (ls' := [(4, .int (nI (s + 1))), (6, .int (nI (pcN s))), (5, .int (-9)), (0, .ref (u.2.1 0)), (1, .int v), (2, .int ((itr (sumF σ L v) (-9, 0) s).1)), (3, .int ((itr (sumF σ L v) (-9, 0) s).2))]) F d_T_sum_119 (j := 6) rfl (nI_inc _) (by decide) rfl ?_
        refine v_goto F 37 d_T_sum_122 rfl ?_
        refine v_sub [3, 4, 5, 6, 0] (ls' := [(0, .ref (u.2.1 0)), (1, .int v), (2, .int ((itr (sumF σ L v) (-9, 0) s).1)), (3, .int ((itr (sumF σ L v) (-9, 0) s).2)), (4, .int (nI (s + 1)))]) rfl ?_
        have g7 : ((itr (sumF σ L v) (-9, 0) s).1) = ((itr (sumF σ L v) (-9, 0) (s + 1)).1) := (by first | rfl | (simp only [itr, sumF]; subst_vars; rw [if_pos ⟨by assumption, by assumption, by assumption⟩]; done) | (simp only [itr, sumF]; subst_vars; rw [if_neg (by rintro ⟨q1, q2, q3⟩; first | exact absurd q1 (by assumption) | exact absurd q2 (by assumption) | exact q2 (by assumption) | exact absurd q3 (by assumption) | exact q2 rfl)]; done))
        have g8 : ((itr (sumF σ L v) (-9, 0) s).2) = ((itr (sumF σ L v) (-9, 0) (s + 1)).2) := (by first | rfl | (simp only [itr, sumF]; subst_vars; rw [if_pos ⟨by assumption, by assumption, by assumption⟩]; done) | (simp only [itr, sumF]; subst_vars; rw [if_neg (by rintro ⟨q1, q2, q3⟩; first | exact absurd q1 (by assumption) | exact absurd q2 (by assumption) | exact q2 (by assumption) | exact absurd q3 (by assumption) | exact q2 rfl)]; done))
        refine v_to (ls' := [(0, .ref (u.2.1 0)), (1, .int v), (2, .int ((itr (sumF σ L v) (-9, 0) (s + 1)).1)), (3, .int ((itr (sumF σ L v) (-9, 0) (s + 1)).2)), (4, .int (nI (s + 1)))]) (by first | rfl | rw [g7, g8] | simp_all) ?_
        exact ih (s + 1) (by omega) (by omega)
      · skip
        refine v_aload_n F d_T_sum_56 rfl 0 rfl ?_
        refine v_iload_n F d_T_sum_57 rfl 1 rfl ?_
        refine v_iload F d_T_sum_58 4 rfl ?_
        refine v_aload_n F d_T_sum_60 rfl 0 rfl ?_
        refine v_getr (r := 19) F fk_T_36 G0 rfl d_T_sum_61 ?_
        refine v_getr (r := 33) F fk_T_207 G19 rfl d_T_sum_64 ?_
        refine v_runi (r_S F (c_T_total X.2.1 u hA σ (s := s) (kc := 33) (Or.inr rfl) (by omega)) mo_T_total st_T_210 (by decide) rfl (Nat.le_of_ble_eq_true rfl) d_T_sum_67) (fun r9 σ10 q11 => ?_)
        obtain ⟨rfl, rfl⟩ := q11
        refine v_isub F d_T_sum_70 ?_
        refine v_runi (r_V F (c_T_goodsFor X.2.1 u hA σ (v - (totF (σ.1 33) s 6)) ) mo_T_goodsFor st_T_281 rc_0 (by decide) rfl (Nat.le_of_ble_eq_true rfl) d_T_sum_71) (fun r12 σ13 q14 => ?_)
        obtain ⟨rfl, rfl⟩ := q14
        refine v_goto F 79 d_T_sum_74 rfl ?_
        refine v_ni (fun x15 ex15 => ?_)
        refine v_istore (ls' := [(5, .int x15), (0, .ref (u.2.1 0)), (1, .int v), (2, .int ((itr (sumF σ L v) (-9, 0) s).1)), (3, .int ((itr (sumF σ L v) (-9, 0) s).2)), (4, .int (nI s))]) F d_T_sum_79 (by decide) rfl ?_
        refine v_iload F d_T_sum_81 5 rfl ?_
        refine v_runi (r_S F (c_I_bitCount X.2.1 u hA σ s (by omega)) mo_I_bitCount st_T_189 (by decide) rfl (Nat.le_of_ble_eq_true rfl) d_T_sum_83) (fun r16 σ17 q18 => ?_)
        obtain ⟨rfl, rfl⟩ := q18
        refine v_istore (ls' := [(6, .int (nI (pcN s))), (5, .int x15), (0, .ref (u.2.1 0)), (1, .int v), (2, .int ((itr (sumF σ L v) (-9, 0) s).1)), (3, .int ((itr (sumF σ L v) (-9, 0) s).2)), (4, .int (nI s))]) F d_T_sum_86 (by decide) rfl ?_
        refine v_iload F d_T_sum_88 1 rfl ?_
        refine v_bipush (v := (-9)) F d_T_sum_90 kb_m9 ?_
        refine v_icmp_eq F 119 d_T_sum_92 rfl (fun h92 => ?_) (fun h92 => ?_)
        · skip
          refine v_iinc (v := nI (s + 1)) (ls' := [(4, .int (nI (s + 1))), (6, .int (nI (pcN s))), (5, .int x15), (0, .ref (u.2.1 0)), (1, .int v), (2, .int ((itr (sumF σ L v) (-9, 0) s).1)), (3, .int ((itr (sumF σ L v) (-9, 0) s).2))]) F d_T_sum_119 (j := 6) rfl (nI_inc _) (by decide) rfl ?_
          refine v_goto F 37 d_T_sum_122 rfl ?_
          refine v_sub [3, 4, 5, 6, 0] (ls' := [(0, .ref (u.2.1 0)), (1, .int v), (2, .int ((itr (sumF σ L v) (-9, 0) s).1)), (3, .int ((itr (sumF σ L v) (-9, 0) s).2)), (4, .int (nI (s + 1)))]) rfl ?_
          have g19 : ((itr (sumF σ L v) (-9, 0) s).1) = ((itr (sumF σ L v) (-9, 0) (s + 1)).1) := (by first | rfl | (simp only [itr, sumF]; subst_vars; rw [if_pos ⟨by assumption, by assumption, by assumption⟩]; done) | (simp only [itr, sumF]; subst_vars; rw [if_neg (by rintro ⟨q1, q2, q3⟩; first | exact absurd q1 (by assumption) | exact absurd q2 (by assumption) | exact q2 (by assumption) | exact absurd q3 (by assumption) | exact q2 rfl)]; done))
          have g20 : ((itr (sumF σ L v) (-9, 0) s).2) = ((itr (sumF σ L v) (-9, 0) (s + 1)).2) := (by first | rfl | (simp only [itr, sumF]; subst_vars; rw [if_pos ⟨by assumption, by assumption, by assumption⟩]; done) | (simp only [itr, sumF]; subst_vars; rw [if_neg (by rintro ⟨q1, q2, q3⟩; first | exact absurd q1 (by assumption) | exact absurd q2 (by assumption) | exact q2 (by assumption) | exact absurd q3 (by assumption) | exact q2 rfl)]; done))
          refine v_to (ls' := [(0, .ref (u.2.1 0)), (1, .int v), (2, .int ((itr (sumF σ L v) (-9, 0) (s + 1)).1)), (3, .int ((itr (sumF σ L v) (-9, 0) (s + 1)).2)), (4, .int (nI (s + 1)))]) (by first | rfl | rw [g19, g20] | simp_all) ?_
          exact ih (s + 1) (by omega) (by omega)
        · skip
          refine v_iload F d_T_sum_95 1 rfl ?_
          refine v_iload F d_T_sum_97 0 rfl ?_
          refine v_iadd F d_T_sum_99 ?_
          refine v_iload F d_T_sum_100 0 rfl ?_
          refine v_iload_n F d_T_sum_102 rfl 4 rfl ?_
          refine v_iload_n F d_T_sum_103 rfl 5 rfl ?_
          refine v_runi (r_S F (c_T_isBetter X.2.1 u hA σ (x15 + (nI (pcN s))) (nI (pcN s)) ((itr (sumF σ L v) (-9, 0) s).1) ((itr (sumF σ L v) (-9, 0) s).2) ) mo_T_isBetter st_T_284 (by decide) rfl (Nat.le_of_ble_eq_true rfl) d_T_sum_104) (fun r21 σ22 q23 => ?_)
          obtain ⟨rfl, rfl⟩ := q23
          refine v_bt F 119 d_T_sum_107 rfl (fun h107 => ?_) (fun h107 => ?_)
          · skip
            refine v_iinc (v := nI (s + 1)) (ls' := [(4, .int (nI (s + 1))), (6, .int (nI (pcN s))), (5, .int x15), (0, .ref (u.2.1 0)), (1, .int v), (2, .int ((itr (sumF σ L v) (-9, 0) s).1)), (3, .int ((itr (sumF σ L v) (-9, 0) s).2))]) F d_T_sum_119 (j := 6) rfl (nI_inc _) (by decide) rfl ?_
            refine v_goto F 37 d_T_sum_122 rfl ?_
            refine v_sub [3, 4, 5, 6, 0] (ls' := [(0, .ref (u.2.1 0)), (1, .int v), (2, .int ((itr (sumF σ L v) (-9, 0) s).1)), (3, .int ((itr (sumF σ L v) (-9, 0) s).2)), (4, .int (nI (s + 1)))]) rfl ?_
            have g24 : ((itr (sumF σ L v) (-9, 0) s).1) = ((itr (sumF σ L v) (-9, 0) (s + 1)).1) := (by first | rfl | (simp only [itr, sumF]; subst_vars; rw [if_pos ⟨by assumption, by assumption, by assumption⟩]; done) | (simp only [itr, sumF]; subst_vars; rw [if_neg (by rintro ⟨q1, q2, q3⟩; first | exact absurd q1 (by assumption) | exact absurd q2 (by assumption) | exact q2 (by assumption) | exact absurd q3 (by assumption) | exact q2 rfl)]; done))
            have g25 : ((itr (sumF σ L v) (-9, 0) s).2) = ((itr (sumF σ L v) (-9, 0) (s + 1)).2) := (by first | rfl | (simp only [itr, sumF]; subst_vars; rw [if_pos ⟨by assumption, by assumption, by assumption⟩]; done) | (simp only [itr, sumF]; subst_vars; rw [if_neg (by rintro ⟨q1, q2, q3⟩; first | exact absurd q1 (by assumption) | exact absurd q2 (by assumption) | exact q2 (by assumption) | exact absurd q3 (by assumption) | exact q2 rfl)]; done))
            refine v_to (ls' := [(0, .ref (u.2.1 0)), (1, .int v), (2, .int ((itr (sumF σ L v) (-9, 0) (s + 1)).1)), (3, .int ((itr (sumF σ L v) (-9, 0) (s + 1)).2)), (4, .int (nI (s + 1)))]) (by first | rfl | rw [g24, g25] | simp_all) ?_
            exact ih (s + 1) (by omega) (by omega)
          · skip
            refine v_iload F d_T_sum_110 1 rfl ?_
            refine v_iload F d_T_sum_112 0 rfl ?_
            refine v_iadd F d_T_sum_114 ?_
            refine v_ni (fun x26 ex26 => ?_)
            refine v_istore_n (ls' := [(2, .int x26), (6, .int (nI (pcN s))), (5, .int x15), (0, .ref (u.2.1 0)), (1, .int v), (3, .int ((itr (sumF σ L v) (-9, 0) s).2)), (4, .int (nI s))]) F d_T_sum_115 rfl (by decide) rfl ?_
            refine v_iload F d_T_sum_116 1 rfl ?_
            refine v_istore_n (ls' := [(3, .int (nI (pcN s))), (2, .int x26), (6, .int (nI (pcN s))), (5, .int x15), (0, .ref (u.2.1 0)), (1, .int v), (4, .int (nI s))]) F d_T_sum_118 rfl (by decide) rfl ?_
            refine v_iinc (v := nI (s + 1)) (ls' := [(4, .int (nI (s + 1))), (3, .int (nI (pcN s))), (2, .int x26), (6, .int (nI (pcN s))), (5, .int x15), (0, .ref (u.2.1 0)), (1, .int v)]) F d_T_sum_119 (j := 6) rfl (nI_inc _) (by decide) rfl ?_
            refine v_goto F 37 d_T_sum_122 rfl ?_
            refine v_sub [5, 6, 2, 1, 0] (ls' := [(0, .ref (u.2.1 0)), (1, .int v), (2, .int x26), (3, .int (nI (pcN s))), (4, .int (nI (s + 1)))]) rfl ?_
            have g27 : x26 = ((itr (sumF σ L v) (-9, 0) (s + 1)).1) := (by first | rfl | (simp only [itr, sumF]; subst_vars; rw [if_pos ⟨by assumption, by assumption, by assumption⟩]; done) | (simp only [itr, sumF]; subst_vars; rw [if_neg (by rintro ⟨q1, q2, q3⟩; first | exact absurd q1 (by assumption) | exact absurd q2 (by assumption) | exact q2 (by assumption) | exact absurd q3 (by assumption) | exact q2 rfl)]; done))
            have g28 : (nI (pcN s)) = ((itr (sumF σ L v) (-9, 0) (s + 1)).2) := (by first | rfl | (simp only [itr, sumF]; subst_vars; rw [if_pos ⟨by assumption, by assumption, by assumption⟩]; done) | (simp only [itr, sumF]; subst_vars; rw [if_neg (by rintro ⟨q1, q2, q3⟩; first | exact absurd q1 (by assumption) | exact absurd q2 (by assumption) | exact q2 (by assumption) | exact absurd q3 (by assumption) | exact q2 rfl)]; done))
            refine v_to (ls' := [(0, .ref (u.2.1 0)), (1, .int v), (2, .int ((itr (sumF σ L v) (-9, 0) (s + 1)).1)), (3, .int ((itr (sumF σ L v) (-9, 0) (s + 1)).2)), (4, .int (nI (s + 1)))]) (by first | rfl | rw [g27, g28] | simp_all) ?_
            exact ih (s + 1) (by omega) (by omega)
set_option maxHeartbeats 4000000 in
theorem c_T_sum (l : Launch) (u : Un) (hA : Ap u) (σ : St) {n G : Nat} {kd : Nat → Nat} (hb : bkOk σ n G kd) {L : Nat} (hL : σ.1 19 14 = nI L) (hL64 : L < 64) (v : Int32) : MTi l u y_T_sum b_T_sum 7 .int 7 [.ref (u.2.1 0), .int v] σ (fun ans σ' => (ans, σ') = tSum σ G kd n L v) := by
  refine MT_of hA rfl (by decide) (Nat.le_of_ble_eq_true rfl) (fun X hl F hr => ?_)
  subst hl
  refine v_to (ls' := [(0, .ref (u.2.1 0)), (1, .int v)]) rfl ?_
  obtain ⟨hn, hn6, hG, hG64, hkd, hk6⟩ := id hb
  refine v_iload_n F d_T_sum_0 rfl 1 rfl ?_
  refine v_runi (r_S F (c_T_isSum X.2.1 u hA σ v ) mo_T_isSum st_T_251 (by decide) rfl (Nat.le_of_ble_eq_true rfl) d_T_sum_1) (fun r1 σ2 q3 => ?_)
  obtain ⟨rfl, rfl⟩ := q3
  refine v_bf F 9 d_T_sum_4 rfl (fun h4 => ?_) (fun h4 => ?_)
  · skip
    refine v_aload_n F d_T_sum_9 rfl 0 rfl ?_
    refine v_getr (r := 19) F fk_T_36 G0 rfl d_T_sum_10 ?_
    refine v_geti F fk_T_118 G19 rfl d_T_sum_13 ?_
    refine v_if_ne F 22 d_T_sum_16 rfl (fun h16 => ?_) (fun h16 => ?_)
    · skip
      refine v_aload_n F d_T_sum_22 rfl 0 rfl ?_
      refine v_getr (r := 19) F fk_T_36 G0 rfl d_T_sum_23 ?_
      refine v_runv (r_V F (c_B_weigh X.2.1 u hA σ hb hL hL64) mo_B_weigh st_T_204 rc_19 (by decide) rfl (Nat.le_of_ble_eq_true rfl) d_T_sum_26) (fun σ5 q6 => ?_)
      refine v_bipush (v := (-9)) F d_T_sum_29 kb_m9 ?_
      refine v_istore_n (ls' := [(2, .int (-9)), (0, .ref (u.2.1 0)), (1, .int v)]) F d_T_sum_31 rfl (by decide) rfl ?_
      refine v_iconst (v := 0) F d_T_sum_32 ki_0 ?_
      refine v_istore_n (ls' := [(3, .int 0), (2, .int (-9)), (0, .ref (u.2.1 0)), (1, .int v)]) F d_T_sum_33 rfl (by decide) rfl ?_
      refine v_iconst (v := 0) F d_T_sum_34 ki_0 ?_
      refine v_istore (ls' := [(4, .int 0), (3, .int 0), (2, .int (-9)), (0, .ref (u.2.1 0)), (1, .int v)]) F d_T_sum_35 (by decide) rfl ?_
      have eW : σ5 = wgd σ G kd n L := q6
      refine v_st eW ?_
      refine v_sub [3, 4, 2, 1, 0] (ls' := [(0, .ref (u.2.1 0)), (1, .int v), (2, .int (-9)), (3, .int 0), (4, .int 0)]) rfl ?_
      have g7 : (-9) = ((itr (sumF (wgd σ G kd n L) L v) (-9, 0) 0).1) := (by first | rfl)
      have g8 : 0 = ((itr (sumF (wgd σ G kd n L) L v) (-9, 0) 0).2) := (by first | rfl)
      have g9 : 0 = (nI 0) := (by first | rfl)
      refine v_to (ls' := [(0, .ref (u.2.1 0)), (1, .int v), (2, .int ((itr (sumF (wgd σ G kd n L) L v) (-9, 0) 0).1)), (3, .int ((itr (sumF (wgd σ G kd n L) L v) (-9, 0) 0).2)), (4, .int (nI 0))]) (by first | rfl | rw [g7, g8, g9] | simp_all) ?_
      refine v_st (show (wgd σ G kd n L) = ((wgd σ G kd n L)) from (by first | rfl)) ?_
      refine L_T_sum_37 hA F (by rw [wgd_k _ _ _ _ _ (by decide) (by decide)]; exact hL) hL64 ?_ _ 0 (Nat.zero_le _) (Nat.lt_succ_self _)
      refine v_iload_n F d_T_sum_125 rfl 2 rfl ?_
      refine v_bipush (v := (-9)) F d_T_sum_126 kb_m9 ?_
      refine v_icmp_eq F 136 d_T_sum_128 rfl (fun h128 => ?_) (fun h128 => ?_)
      · skip
        refine v_iload_n F d_T_sum_136 rfl 2 rfl ?_
        refine v_iret F hr rfl d_T_sum_137 ?_
        unfold tSum
        rw [if_neg (fun q => q h4), if_neg h16]
        first | (rw [if_pos (by assumption)]; done) | (rw [if_neg (by assumption)]; subst_vars; rfl)
      · skip
        refine v_aload_n F d_T_sum_131 rfl 0 rfl ?_
        refine v_iload_n F d_T_sum_132 rfl 3 rfl ?_
        refine v_puti F fk_T_88 pk_T_told G0 rfl d_T_sum_133 ?_
        refine v_ns (fun σ10 eσ10 => ?_)
        refine v_iload_n F d_T_sum_136 rfl 2 rfl ?_
        refine v_iret F hr rfl d_T_sum_137 ?_
        unfold tSum
        rw [if_neg (fun q => q h4), if_neg h16]
        first | (rw [if_pos (by assumption)]; done) | (rw [if_neg (by assumption)]; subst_vars; rfl)
    · skip
      refine v_bipush (v := (-4)) F d_T_sum_19 kb_m4 ?_
      refine v_iret F hr rfl d_T_sum_21 ?_
      unfold tSum
      (repeat' split) <;> first | rfl | (exfalso; grind) | (subst_vars; rfl) | grind
  · skip
    refine v_iconst (v := (-1)) F d_T_sum_7 ki_m1 ?_
    refine v_iret F hr rfl d_T_sum_8 ?_
    unfold tSum
    (repeat' split) <;> first | rfl | (exfalso; grind) | (subst_vars; rfl) | grind
end
